theorem dX5_init_0 : decode cX5_init 0 = .ok (.aload_n 0, 1) := by decide +kernel
theorem dX5_init_1 : decode cX5_init 1 = .ok (.invokespecial 3, 3) := by decide +kernel
theorem dX5_init_4 : decode cX5_init 4 = .ok (.aload_n 0, 1) := by decide +kernel
theorem dX5_init_5 : decode cX5_init 5 = .ok (.bipush 16, 2) := by decide +kernel
theorem dX5_init_7 : decode cX5_init 7 = .ok (.newarray .int, 2) := by decide +kernel
theorem dX5_init_9 : decode cX5_init 9 = .ok (.putfield 9, 3) := by decide +kernel
theorem dX5_init_12 : decode cX5_init 12 = .ok (.aload_n 0, 1) := by decide +kernel
theorem dX5_init_13 : decode cX5_init 13 = .ok (.bipush 16, 2) := by decide +kernel
theorem dX5_init_15 : decode cX5_init 15 = .ok (.newarray .int, 2) := by decide +kernel
theorem dX5_init_17 : decode cX5_init 17 = .ok (.putfield 15, 3) := by decide +kernel
theorem dX5_init_20 : decode cX5_init 20 = .ok (.aload_n 0, 1) := by decide +kernel
theorem dX5_init_21 : decode cX5_init 21 = .ok (.bipush 16, 2) := by decide +kernel
theorem dX5_init_23 : decode cX5_init 23 = .ok (.newarray .int, 2) := by decide +kernel
theorem dX5_init_25 : decode cX5_init 25 = .ok (.putfield 18, 3) := by decide +kernel
theorem dX5_init_28 : decode cX5_init 28 = .ok (.aload_n 0, 1) := by decide +kernel
theorem dX5_init_29 : decode cX5_init 29 = .ok (.bipush 16, 2) := by decide +kernel
theorem dX5_init_31 : decode cX5_init 31 = .ok (.newarray .int, 2) := by decide +kernel
theorem dX5_init_33 : decode cX5_init 33 = .ok (.putfield 21, 3) := by decide +kernel
theorem dX5_init_36 : decode cX5_init 36 = .ok (.return_, 1) := by decide +kernel
set_option maxRecDepth 20000 in
theorem ggX5_entry_X8_within : GoodIn wsX5_entry wsX8_within := goodIn_r _ [5] rfl (by decide +kernel)
set_option maxRecDepth 20000 in
theorem gX5_entry_X8_within_n28 : GoodIn wsX5_entry (wsX8_within) := ggX5_entry_X8_within
theorem dX5_entry_0 : decode cX5_entry 0 = .ok (.iload_n 1, 1) := by decide +kernel
theorem dX5_entry_1 : decode cX5_entry 1 = .ok (.iconst 0, 1) := by decide +kernel
theorem dX5_entry_2 : decode cX5_entry 2 = .ok (.aload_n 0, 1) := by decide +kernel
theorem dX5_entry_3 : decode cX5_entry 3 = .ok (.getfield 24, 3) := by decide +kernel
theorem dX5_entry_6 : decode cX5_entry 6 = .ok (.iconst 1, 1) := by decide +kernel
theorem dX5_entry_7 : decode cX5_entry 7 = .ok (.isub, 1) := by decide +kernel
theorem dX5_entry_8 : decode cX5_entry 8 = .ok (.invokestatic 28, 3) := by decide +kernel
theorem dX5_entry_11 : decode cX5_entry 11 = .ok (.ifCond .eq 12, 3) := by decide +kernel
theorem dX5_entry_14 : decode cX5_entry 14 = .ok (.aload_n 0, 1) := by decide +kernel
theorem dX5_entry_15 : decode cX5_entry 15 = .ok (.getfield 9, 3) := by decide +kernel
theorem dX5_entry_18 : decode cX5_entry 18 = .ok (.iload_n 1, 1) := by decide +kernel
theorem dX5_entry_19 : decode cX5_entry 19 = .ok (.iaload, 1) := by decide +kernel
theorem dX5_entry_20 : decode cX5_entry 20 = .ok (.goto 4, 3) := by decide +kernel
theorem dX5_entry_23 : decode cX5_entry 23 = .ok (.iconst (-1), 1) := by decide +kernel
theorem dX5_entry_24 : decode cX5_entry 24 = .ok (.ireturn, 1) := by decide +kernel
set_option maxRecDepth 20000 in
theorem ggX5_rankList_X3_closed : GoodIn wsX5_rankList wsX3_closed := goodIn_r _ [5, 6, 7, 91, 92, 93, 94, 95, 96, 97, 98, 99, 100] rfl (by decide +kernel)
set_option maxRecDepth 20000 in
theorem gX5_rankList_X3_closed_n32 : GoodIn wsX5_rankList (wsX3_closed) := ggX5_rankList_X3_closed
set_option maxRecDepth 20000 in
theorem ggX5_rankList_X5_rankRiders : GoodIn wsX5_rankList wsX5_rankRiders := goodIn_r _ [12, 1, 13, 14, 15, 3, 16, 17, 18, 19, 2, 4, 5, 6, 7, 20, 21, 22, 23, 24, 25, 26, 27, 28, 29, 30, 31, 32, 33, 34, 35, 36, 37, 38, 11, 39, 40, 41, 42, 43, 44, 86, 87, 88, 89, 90, 91, 92, 93, 94, 95, 96, 97, 98, 99, 100, 101, 102, 103, 104, 105, 106, 107, 108, 109, 110, 111, 112, 113, 114, 115, 116, 117, 118, 119, 120, 121, 122, 123] rfl (by decide +kernel)
set_option maxRecDepth 20000 in
theorem gX5_rankList_X5_rankRiders : GoodIn wsX5_rankList (wsV RX5 38 RX5 yX5_rankRiders wsX5_rankRiders) := goodIn_app (goodIn_of _ (by decide +kernel)) ggX5_rankList_X5_rankRiders
set_option maxRecDepth 20000 in
theorem ggX5_rankList_X5_rankWorthy : GoodIn wsX5_rankList wsX5_rankWorthy := goodIn_r _ [48, 1, 40, 49, 8, 9, 10, 11, 12, 13, 14, 15, 3, 16, 17, 18, 19, 2, 4, 5, 6, 7, 20, 21, 22, 23, 24, 25, 26, 27, 28, 29, 30, 31, 32, 33, 34, 35, 36, 37, 38, 39, 41, 42, 43, 44, 50, 51, 52, 53, 54, 55, 86, 87, 88, 89, 90, 91, 92, 93, 94, 95, 96, 97, 98, 99, 100, 101, 102, 103, 104, 105, 106, 107, 108, 109, 110, 111, 112, 113, 114, 115, 116, 117, 118, 119, 120, 121, 122, 123] rfl (by decide +kernel)
set_option maxRecDepth 20000 in
theorem gX5_rankList_X5_rankWorthy : GoodIn wsX5_rankList (wsV RX5 42 RX5 yX5_rankWorthy wsX5_rankWorthy) := goodIn_app (goodIn_of _ (by decide +kernel)) ggX5_rankList_X5_rankWorthy
set_option maxRecDepth 20000 in
theorem ggX5_rankList_X5_rankTeams : GoodIn wsX5_rankList wsX5_rankTeams := goodIn_r _ [59, 13, 14, 60, 3, 61, 62, 63, 64, 65, 66, 19, 2, 4, 5, 6, 7, 67, 68, 69, 70, 71, 72, 18, 73, 21, 74, 75, 76, 77, 78, 26, 79, 80, 81, 82, 83, 84, 85, 25, 36, 37, 38, 11, 39, 1, 40, 41, 42, 43, 44, 91, 92, 93, 94, 95, 96, 97, 98, 99, 100, 86, 87, 88, 89, 90, 101, 102, 103, 104, 105, 106, 107, 108, 109, 110, 111, 112, 113, 114, 115, 116, 117, 118, 119, 120] rfl (by decide +kernel)
set_option maxRecDepth 20000 in
theorem gX5_rankList_X5_rankTeams : GoodIn wsX5_rankList (wsV RX5 46 RX5 yX5_rankTeams wsX5_rankTeams) := goodIn_app (goodIn_of _ (by decide +kernel)) ggX5_rankList_X5_rankTeams
theorem dX5_rankList_0 : decode cX5_rankList 0 = .ok (.aload_n 0, 1) := by decide +kernel
theorem dX5_rankList_1 : decode cX5_rankList 1 = .ok (.iconst 0, 1) := by decide +kernel
theorem dX5_rankList_2 : decode cX5_rankList 2 = .ok (.putfield 24, 3) := by decide +kernel
theorem dX5_rankList_5 : decode cX5_rankList 5 = .ok (.aload_n 1, 1) := by decide +kernel
theorem dX5_rankList_6 : decode cX5_rankList 6 = .ok (.invokevirtual 32, 3) := by decide +kernel
theorem dX5_rankList_9 : decode cX5_rankList 9 = .ok (.ifCond .ne 4, 3) := by decide +kernel
theorem dX5_rankList_12 : decode cX5_rankList 12 = .ok (.return_, 1) := by decide +kernel
theorem dX5_rankList_13 : decode cX5_rankList 13 = .ok (.iload_n 2, 1) := by decide +kernel
theorem dX5_rankList_14 : decode cX5_rankList 14 = .ok (.tableswitch 82 0 4 #[34, 45, 54, 63, 74], 34) := by decide +kernel
theorem dX5_rankList_48 : decode cX5_rankList 48 = .ok (.aload_n 0, 1) := by decide +kernel
theorem dX5_rankList_49 : decode cX5_rankList 49 = .ok (.aload_n 1, 1) := by decide +kernel
theorem dX5_rankList_50 : decode cX5_rankList 50 = .ok (.iconst (-1), 1) := by decide +kernel
theorem dX5_rankList_51 : decode cX5_rankList 51 = .ok (.bipush 50, 2) := by decide +kernel
theorem dX5_rankList_53 : decode cX5_rankList 53 = .ok (.invokevirtual 38, 3) := by decide +kernel
theorem dX5_rankList_56 : decode cX5_rankList 56 = .ok (.goto 40, 3) := by decide +kernel
theorem dX5_rankList_59 : decode cX5_rankList 59 = .ok (.aload_n 0, 1) := by decide +kernel
theorem dX5_rankList_60 : decode cX5_rankList 60 = .ok (.aload_n 1, 1) := by decide +kernel
theorem dX5_rankList_61 : decode cX5_rankList 61 = .ok (.iconst 3, 1) := by decide +kernel
theorem dX5_rankList_62 : decode cX5_rankList 62 = .ok (.invokevirtual 42, 3) := by decide +kernel
theorem dX5_rankList_65 : decode cX5_rankList 65 = .ok (.goto 31, 3) := by decide +kernel
theorem dX5_rankList_68 : decode cX5_rankList 68 = .ok (.aload_n 0, 1) := by decide +kernel
theorem dX5_rankList_69 : decode cX5_rankList 69 = .ok (.aload_n 1, 1) := by decide +kernel
theorem dX5_rankList_70 : decode cX5_rankList 70 = .ok (.iconst 4, 1) := by decide +kernel
theorem dX5_rankList_71 : decode cX5_rankList 71 = .ok (.invokevirtual 42, 3) := by decide +kernel
theorem dX5_rankList_74 : decode cX5_rankList 74 = .ok (.goto 22, 3) := by decide +kernel
theorem dX5_rankList_77 : decode cX5_rankList 77 = .ok (.aload_n 0, 1) := by decide +kernel
theorem dX5_rankList_78 : decode cX5_rankList 78 = .ok (.aload_n 1, 1) := by decide +kernel
theorem dX5_rankList_79 : decode cX5_rankList 79 = .ok (.iconst (-1), 1) := by decide +kernel
theorem dX5_rankList_80 : decode cX5_rankList 80 = .ok (.bipush 25, 2) := by decide +kernel
theorem dX5_rankList_82 : decode cX5_rankList 82 = .ok (.invokevirtual 38, 3) := by decide +kernel
theorem dX5_rankList_85 : decode cX5_rankList 85 = .ok (.goto 11, 3) := by decide +kernel
theorem dX5_rankList_88 : decode cX5_rankList 88 = .ok (.aload_n 0, 1) := by decide +kernel
theorem dX5_rankList_89 : decode cX5_rankList 89 = .ok (.aload_n 1, 1) := by decide +kernel
theorem dX5_rankList_90 : decode cX5_rankList 90 = .ok (.invokevirtual 46, 3) := by decide +kernel
theorem dX5_rankList_93 : decode cX5_rankList 93 = .ok (.goto 3, 3) := by decide +kernel
theorem dX5_rankList_96 : decode cX5_rankList 96 = .ok (.return_, 1) := by decide +kernel
set_option maxRecDepth 20000 in
theorem ggX5_rankRiders_X3_sumOf : GoodIn wsX5_rankRiders wsX3_sumOf := goodIn_r _ [7, 8, 9, 10, 11, 5, 12, 13, 14, 15, 16, 17, 18, 19, 20, 21, 22, 23, 46, 47, 48, 49, 50, 51, 52, 53, 54, 55, 56, 57, 58, 59, 60, 61, 62, 63, 64, 65, 66, 67, 68, 69, 70, 71, 72, 73, 74, 75, 76, 77, 78] rfl (by decide +kernel)
set_option maxRecDepth 20000 in
theorem gX5_rankRiders_X3_sumOf_n60 : GoodIn wsX5_rankRiders (wsX3_sumOf) := ggX5_rankRiders_X3_sumOf
set_option maxRecDepth 20000 in
theorem ggX5_rankRiders_X3_placesOf : GoodIn wsX5_rankRiders wsX3_placesOf := goodIn_r _ [26, 8, 9, 10, 11, 5, 12, 13, 14, 27, 16, 28, 29, 19, 30, 46, 47, 48, 49, 50, 51, 52, 53, 54, 55, 56, 57, 58, 59, 60, 61, 62, 63, 64, 65, 66, 67, 68, 69, 70, 71, 72, 73, 74, 75] rfl (by decide +kernel)
set_option maxRecDepth 20000 in
theorem gX5_rankRiders_X3_placesOf_n64 : GoodIn wsX5_rankRiders (wsX3_placesOf) := ggX5_rankRiders_X3_placesOf
set_option maxRecDepth 20000 in
theorem ggX5_rankRiders_X5_insert : GoodIn wsX5_rankRiders wsX5_insert := goodIn_r _ [35, 1, 36, 37, 38, 39, 34, 40, 2, 3, 41, 42, 43, 44, 45] rfl (by decide +kernel)
set_option maxRecDepth 20000 in
theorem gX5_rankRiders_X5_insert : GoodIn wsX5_rankRiders (wsV RX5 67 RX5 yX5_insert wsX5_insert) := goodIn_app (goodIn_of _ (by decide +kernel)) ggX5_rankRiders_X5_insert
theorem dX5_rankRiders_0 : decode cX5_rankRiders 0 = .ok (.aload_n 0, 1) := by decide +kernel
theorem dX5_rankRiders_1 : decode cX5_rankRiders 1 = .ok (.iconst 0, 1) := by decide +kernel
theorem dX5_rankRiders_2 : decode cX5_rankRiders 2 = .ok (.putfield 24, 3) := by decide +kernel
theorem dX5_rankRiders_5 : decode cX5_rankRiders 5 = .ok (.iconst 0, 1) := by decide +kernel
theorem dX5_rankRiders_6 : decode cX5_rankRiders 6 = .ok (.istore 4, 2) := by decide +kernel
theorem dX5_rankRiders_8 : decode cX5_rankRiders 8 = .ok (.iload 4, 2) := by decide +kernel
theorem dX5_rankRiders_10 : decode cX5_rankRiders 10 = .ok (.aload_n 1, 1) := by decide +kernel
theorem dX5_rankRiders_11 : decode cX5_rankRiders 11 = .ok (.getfield 50, 3) := by decide +kernel
theorem dX5_rankRiders_14 : decode cX5_rankRiders 14 = .ok (.if_icmp .ge 64, 3) := by decide +kernel
theorem dX5_rankRiders_17 : decode cX5_rankRiders 17 = .ok (.aload_n 1, 1) := by decide +kernel
theorem dX5_rankRiders_18 : decode cX5_rankRiders 18 = .ok (.getfield 53, 3) := by decide +kernel
theorem dX5_rankRiders_21 : decode cX5_rankRiders 21 = .ok (.iload 4, 2) := by decide +kernel
theorem dX5_rankRiders_23 : decode cX5_rankRiders 23 = .ok (.baload, 1) := by decide +kernel
theorem dX5_rankRiders_24 : decode cX5_rankRiders 24 = .ok (.ifCond .eq 48, 3) := by decide +kernel
theorem dX5_rankRiders_27 : decode cX5_rankRiders 27 = .ok (.aload_n 1, 1) := by decide +kernel
theorem dX5_rankRiders_28 : decode cX5_rankRiders 28 = .ok (.getfield 57, 3) := by decide +kernel
theorem dX5_rankRiders_31 : decode cX5_rankRiders 31 = .ok (.iload 4, 2) := by decide +kernel
theorem dX5_rankRiders_33 : decode cX5_rankRiders 33 = .ok (.iaload, 1) := by decide +kernel
theorem dX5_rankRiders_34 : decode cX5_rankRiders 34 = .ok (.iload_n 3, 1) := by decide +kernel
theorem dX5_rankRiders_35 : decode cX5_rankRiders 35 = .ok (.if_icmp .gt 37, 3) := by decide +kernel
theorem dX5_rankRiders_38 : decode cX5_rankRiders 38 = .ok (.aload_n 0, 1) := by decide +kernel
theorem dX5_rankRiders_39 : decode cX5_rankRiders 39 = .ok (.getfield 15, 3) := by decide +kernel
theorem dX5_rankRiders_42 : decode cX5_rankRiders 42 = .ok (.iload 4, 2) := by decide +kernel
theorem dX5_rankRiders_44 : decode cX5_rankRiders 44 = .ok (.aload_n 1, 1) := by decide +kernel
theorem dX5_rankRiders_45 : decode cX5_rankRiders 45 = .ok (.iload 4, 2) := by decide +kernel
theorem dX5_rankRiders_47 : decode cX5_rankRiders 47 = .ok (.iload_n 2, 1) := by decide +kernel
theorem dX5_rankRiders_48 : decode cX5_rankRiders 48 = .ok (.invokevirtual 60, 3) := by decide +kernel
theorem dX5_rankRiders_51 : decode cX5_rankRiders 51 = .ok (.iastore, 1) := by decide +kernel
theorem dX5_rankRiders_52 : decode cX5_rankRiders 52 = .ok (.aload_n 0, 1) := by decide +kernel
theorem dX5_rankRiders_53 : decode cX5_rankRiders 53 = .ok (.getfield 18, 3) := by decide +kernel
theorem dX5_rankRiders_56 : decode cX5_rankRiders 56 = .ok (.iload 4, 2) := by decide +kernel
theorem dX5_rankRiders_58 : decode cX5_rankRiders 58 = .ok (.aload_n 1, 1) := by decide +kernel
theorem dX5_rankRiders_59 : decode cX5_rankRiders 59 = .ok (.iload 4, 2) := by decide +kernel
theorem dX5_rankRiders_61 : decode cX5_rankRiders 61 = .ok (.iload_n 2, 1) := by decide +kernel
theorem dX5_rankRiders_62 : decode cX5_rankRiders 62 = .ok (.invokevirtual 64, 3) := by decide +kernel
theorem dX5_rankRiders_65 : decode cX5_rankRiders 65 = .ok (.iastore, 1) := by decide +kernel
theorem dX5_rankRiders_66 : decode cX5_rankRiders 66 = .ok (.aload_n 0, 1) := by decide +kernel
theorem dX5_rankRiders_67 : decode cX5_rankRiders 67 = .ok (.iload 4, 2) := by decide +kernel
theorem dX5_rankRiders_69 : decode cX5_rankRiders 69 = .ok (.invokevirtual 67, 3) := by decide +kernel
theorem dX5_rankRiders_72 : decode cX5_rankRiders 72 = .ok (.iinc 4 1, 3) := by decide +kernel
theorem dX5_rankRiders_75 : decode cX5_rankRiders 75 = .ok (.goto (-67), 3) := by decide +kernel
theorem dX5_rankRiders_78 : decode cX5_rankRiders 78 = .ok (.return_, 1) := by decide +kernel
set_option maxRecDepth 20000 in
theorem ggX5_rankTeams_X3_isRanked : GoodIn wsX5_rankTeams wsX3_isRanked := goodIn_r _ [6, 7, 8, 9, 10, 11, 12, 13, 4, 14, 15, 16, 17, 18, 19, 51, 52, 53, 54, 55, 56, 57, 58, 59, 60] rfl (by decide +kernel)
set_option maxRecDepth 20000 in
theorem gX5_rankTeams_X3_isRanked_n74 : GoodIn wsX5_rankTeams (wsX3_isRanked) := ggX5_rankTeams_X3_isRanked
set_option maxRecDepth 20000 in
theorem ggX5_rankTeams_X3_teamSum : GoodIn wsX5_rankTeams wsX3_teamSum := goodIn_r _ [22, 23, 10, 11, 12, 13, 4, 14, 15, 16, 24, 25, 26, 27, 28, 29, 30, 31, 32, 33, 34, 35, 36, 37, 38, 39, 51, 52, 53, 54, 55, 56, 57, 58, 59, 60, 66, 67, 68, 69, 70, 71, 72, 73, 74, 75, 76, 77, 78, 79, 80, 81, 82, 83, 84, 85] rfl (by decide +kernel)
set_option maxRecDepth 20000 in
theorem gX5_rankTeams_X3_teamSum_n78 : GoodIn wsX5_rankTeams (wsX3_teamSum) := ggX5_rankTeams_X3_teamSum
set_option maxRecDepth 20000 in
theorem ggX5_rankTeams_X5_insert : GoodIn wsX5_rankTeams wsX5_insert := goodIn_r _ [44, 45, 46, 47, 48, 49, 43, 50, 1, 2, 61, 62, 63, 64, 65] rfl (by decide +kernel)
set_option maxRecDepth 20000 in
theorem gX5_rankTeams_X5_insert : GoodIn wsX5_rankTeams (wsV RX5 67 RX5 yX5_insert wsX5_insert) := goodIn_app (goodIn_of _ (by decide +kernel)) ggX5_rankTeams_X5_insert
theorem dX5_rankTeams_0 : decode cX5_rankTeams 0 = .ok (.iconst 0, 1) := by decide +kernel
theorem dX5_rankTeams_1 : decode cX5_rankTeams 1 = .ok (.istore_n 2, 1) := by decide +kernel
theorem dX5_rankTeams_2 : decode cX5_rankTeams 2 = .ok (.iload_n 2, 1) := by decide +kernel
theorem dX5_rankTeams_3 : decode cX5_rankTeams 3 = .ok (.aload_n 1, 1) := by decide +kernel
theorem dX5_rankTeams_4 : decode cX5_rankTeams 4 = .ok (.getfield 71, 3) := by decide +kernel
theorem dX5_rankTeams_7 : decode cX5_rankTeams 7 = .ok (.if_icmp .ge 40, 3) := by decide +kernel
theorem dX5_rankTeams_10 : decode cX5_rankTeams 10 = .ok (.aload_n 1, 1) := by decide +kernel
theorem dX5_rankTeams_11 : decode cX5_rankTeams 11 = .ok (.iload_n 2, 1) := by decide +kernel
theorem dX5_rankTeams_12 : decode cX5_rankTeams 12 = .ok (.invokevirtual 74, 3) := by decide +kernel
theorem dX5_rankTeams_15 : decode cX5_rankTeams 15 = .ok (.ifCond .eq 26, 3) := by decide +kernel
theorem dX5_rankTeams_18 : decode cX5_rankTeams 18 = .ok (.aload_n 0, 1) := by decide +kernel
theorem dX5_rankTeams_19 : decode cX5_rankTeams 19 = .ok (.getfield 15, 3) := by decide +kernel
theorem dX5_rankTeams_22 : decode cX5_rankTeams 22 = .ok (.iload_n 2, 1) := by decide +kernel
theorem dX5_rankTeams_23 : decode cX5_rankTeams 23 = .ok (.aload_n 1, 1) := by decide +kernel
theorem dX5_rankTeams_24 : decode cX5_rankTeams 24 = .ok (.iload_n 2, 1) := by decide +kernel
theorem dX5_rankTeams_25 : decode cX5_rankTeams 25 = .ok (.invokevirtual 78, 3) := by decide +kernel
theorem dX5_rankTeams_28 : decode cX5_rankTeams 28 = .ok (.iastore, 1) := by decide +kernel
theorem dX5_rankTeams_29 : decode cX5_rankTeams 29 = .ok (.aload_n 0, 1) := by decide +kernel
theorem dX5_rankTeams_30 : decode cX5_rankTeams 30 = .ok (.getfield 18, 3) := by decide +kernel
theorem dX5_rankTeams_33 : decode cX5_rankTeams 33 = .ok (.iload_n 2, 1) := by decide +kernel
theorem dX5_rankTeams_34 : decode cX5_rankTeams 34 = .ok (.iconst 0, 1) := by decide +kernel
theorem dX5_rankTeams_35 : decode cX5_rankTeams 35 = .ok (.iastore, 1) := by decide +kernel
theorem dX5_rankTeams_36 : decode cX5_rankTeams 36 = .ok (.aload_n 0, 1) := by decide +kernel
theorem dX5_rankTeams_37 : decode cX5_rankTeams 37 = .ok (.iload_n 2, 1) := by decide +kernel
theorem dX5_rankTeams_38 : decode cX5_rankTeams 38 = .ok (.invokevirtual 67, 3) := by decide +kernel
theorem dX5_rankTeams_41 : decode cX5_rankTeams 41 = .ok (.iinc 2 1, 3) := by decide +kernel
theorem dX5_rankTeams_44 : decode cX5_rankTeams 44 = .ok (.goto (-42), 3) := by decide +kernel
theorem dX5_rankTeams_47 : decode cX5_rankTeams 47 = .ok (.return_, 1) := by decide +kernel
set_option maxRecDepth 20000 in
theorem ggX5_insert_X5_isLess : GoodIn wsX5_insert wsX5_isLess := goodIn_r _ [7, 8, 9, 10, 11, 12, 13, 14] rfl (by decide +kernel)
set_option maxRecDepth 20000 in
theorem gX5_insert_X5_isLess : GoodIn wsX5_insert (wsV RX5 82 RX5 yX5_isLess wsX5_isLess) := goodIn_app (goodIn_of _ (by decide +kernel)) ggX5_insert_X5_isLess
theorem dX5_insert_0 : decode cX5_insert 0 = .ok (.aload_n 0, 1) := by decide +kernel
theorem dX5_insert_1 : decode cX5_insert 1 = .ok (.getfield 24, 3) := by decide +kernel
theorem dX5_insert_4 : decode cX5_insert 4 = .ok (.istore_n 2, 1) := by decide +kernel
theorem dX5_insert_5 : decode cX5_insert 5 = .ok (.iload_n 2, 1) := by decide +kernel
theorem dX5_insert_6 : decode cX5_insert 6 = .ok (.ifCond .le 39, 3) := by decide +kernel
theorem dX5_insert_9 : decode cX5_insert 9 = .ok (.aload_n 0, 1) := by decide +kernel
theorem dX5_insert_10 : decode cX5_insert 10 = .ok (.iload_n 1, 1) := by decide +kernel
theorem dX5_insert_11 : decode cX5_insert 11 = .ok (.aload_n 0, 1) := by decide +kernel
theorem dX5_insert_12 : decode cX5_insert 12 = .ok (.getfield 9, 3) := by decide +kernel
theorem dX5_insert_15 : decode cX5_insert 15 = .ok (.iload_n 2, 1) := by decide +kernel
theorem dX5_insert_16 : decode cX5_insert 16 = .ok (.iconst 1, 1) := by decide +kernel
theorem dX5_insert_17 : decode cX5_insert 17 = .ok (.isub, 1) := by decide +kernel
theorem dX5_insert_18 : decode cX5_insert 18 = .ok (.iaload, 1) := by decide +kernel
theorem dX5_insert_19 : decode cX5_insert 19 = .ok (.invokevirtual 82, 3) := by decide +kernel
theorem dX5_insert_22 : decode cX5_insert 22 = .ok (.ifCond .eq 23, 3) := by decide +kernel
theorem dX5_insert_25 : decode cX5_insert 25 = .ok (.aload_n 0, 1) := by decide +kernel
theorem dX5_insert_26 : decode cX5_insert 26 = .ok (.getfield 9, 3) := by decide +kernel
theorem dX5_insert_29 : decode cX5_insert 29 = .ok (.iload_n 2, 1) := by decide +kernel
theorem dX5_insert_30 : decode cX5_insert 30 = .ok (.aload_n 0, 1) := by decide +kernel
theorem dX5_insert_31 : decode cX5_insert 31 = .ok (.getfield 9, 3) := by decide +kernel
theorem dX5_insert_34 : decode cX5_insert 34 = .ok (.iload_n 2, 1) := by decide +kernel
theorem dX5_insert_35 : decode cX5_insert 35 = .ok (.iconst 1, 1) := by decide +kernel
theorem dX5_insert_36 : decode cX5_insert 36 = .ok (.isub, 1) := by decide +kernel
theorem dX5_insert_37 : decode cX5_insert 37 = .ok (.iaload, 1) := by decide +kernel
theorem dX5_insert_38 : decode cX5_insert 38 = .ok (.iastore, 1) := by decide +kernel
theorem dX5_insert_39 : decode cX5_insert 39 = .ok (.iinc 2 (-1), 3) := by decide +kernel
theorem dX5_insert_42 : decode cX5_insert 42 = .ok (.goto (-37), 3) := by decide +kernel
theorem dX5_insert_45 : decode cX5_insert 45 = .ok (.aload_n 0, 1) := by decide +kernel
theorem dX5_insert_46 : decode cX5_insert 46 = .ok (.getfield 9, 3) := by decide +kernel
theorem dX5_insert_49 : decode cX5_insert 49 = .ok (.iload_n 2, 1) := by decide +kernel
theorem dX5_insert_50 : decode cX5_insert 50 = .ok (.iload_n 1, 1) := by decide +kernel
theorem dX5_insert_51 : decode cX5_insert 51 = .ok (.iastore, 1) := by decide +kernel
theorem dX5_insert_52 : decode cX5_insert 52 = .ok (.aload_n 0, 1) := by decide +kernel
theorem dX5_insert_53 : decode cX5_insert 53 = .ok (.dup, 1) := by decide +kernel
theorem dX5_insert_54 : decode cX5_insert 54 = .ok (.getfield 24, 3) := by decide +kernel
theorem dX5_insert_57 : decode cX5_insert 57 = .ok (.iconst 1, 1) := by decide +kernel
theorem dX5_insert_58 : decode cX5_insert 58 = .ok (.iadd, 1) := by decide +kernel
theorem dX5_insert_59 : decode cX5_insert 59 = .ok (.putfield 24, 3) := by decide +kernel
theorem dX5_insert_62 : decode cX5_insert 62 = .ok (.return_, 1) := by decide +kernel
theorem dX5_isLess_0 : decode cX5_isLess 0 = .ok (.aload_n 0, 1) := by decide +kernel
theorem dX5_isLess_1 : decode cX5_isLess 1 = .ok (.getfield 15, 3) := by decide +kernel
theorem dX5_isLess_4 : decode cX5_isLess 4 = .ok (.iload_n 1, 1) := by decide +kernel
theorem dX5_isLess_5 : decode cX5_isLess 5 = .ok (.iaload, 1) := by decide +kernel
theorem dX5_isLess_6 : decode cX5_isLess 6 = .ok (.aload_n 0, 1) := by decide +kernel
theorem dX5_isLess_7 : decode cX5_isLess 7 = .ok (.getfield 15, 3) := by decide +kernel
theorem dX5_isLess_10 : decode cX5_isLess 10 = .ok (.iload_n 2, 1) := by decide +kernel
theorem dX5_isLess_11 : decode cX5_isLess 11 = .ok (.iaload, 1) := by decide +kernel
theorem dX5_isLess_12 : decode cX5_isLess 12 = .ok (.if_icmp .eq 24, 3) := by decide +kernel
theorem dX5_isLess_15 : decode cX5_isLess 15 = .ok (.aload_n 0, 1) := by decide +kernel
theorem dX5_isLess_16 : decode cX5_isLess 16 = .ok (.getfield 15, 3) := by decide +kernel
theorem dX5_isLess_19 : decode cX5_isLess 19 = .ok (.iload_n 1, 1) := by decide +kernel
theorem dX5_isLess_20 : decode cX5_isLess 20 = .ok (.iaload, 1) := by decide +kernel
theorem dX5_isLess_21 : decode cX5_isLess 21 = .ok (.aload_n 0, 1) := by decide +kernel
theorem dX5_isLess_22 : decode cX5_isLess 22 = .ok (.getfield 15, 3) := by decide +kernel
theorem dX5_isLess_25 : decode cX5_isLess 25 = .ok (.iload_n 2, 1) := by decide +kernel
theorem dX5_isLess_26 : decode cX5_isLess 26 = .ok (.iaload, 1) := by decide +kernel
theorem dX5_isLess_27 : decode cX5_isLess 27 = .ok (.if_icmp .ge 7, 3) := by decide +kernel
theorem dX5_isLess_30 : decode cX5_isLess 30 = .ok (.iconst 1, 1) := by decide +kernel
theorem dX5_isLess_31 : decode cX5_isLess 31 = .ok (.goto 4, 3) := by decide +kernel
theorem dX5_isLess_34 : decode cX5_isLess 34 = .ok (.iconst 0, 1) := by decide +kernel
theorem dX5_isLess_35 : decode cX5_isLess 35 = .ok (.ireturn, 1) := by decide +kernel
theorem dX5_isLess_36 : decode cX5_isLess 36 = .ok (.aload_n 0, 1) := by decide +kernel
theorem dX5_isLess_37 : decode cX5_isLess 37 = .ok (.getfield 18, 3) := by decide +kernel
theorem dX5_isLess_40 : decode cX5_isLess 40 = .ok (.iload_n 1, 1) := by decide +kernel
theorem dX5_isLess_41 : decode cX5_isLess 41 = .ok (.iaload, 1) := by decide +kernel
theorem dX5_isLess_42 : decode cX5_isLess 42 = .ok (.aload_n 0, 1) := by decide +kernel
theorem dX5_isLess_43 : decode cX5_isLess 43 = .ok (.getfield 18, 3) := by decide +kernel
theorem dX5_isLess_46 : decode cX5_isLess 46 = .ok (.iload_n 2, 1) := by decide +kernel
theorem dX5_isLess_47 : decode cX5_isLess 47 = .ok (.iaload, 1) := by decide +kernel
theorem dX5_isLess_48 : decode cX5_isLess 48 = .ok (.if_icmp .ge 7, 3) := by decide +kernel
theorem dX5_isLess_51 : decode cX5_isLess 51 = .ok (.iconst 1, 1) := by decide +kernel
theorem dX5_isLess_52 : decode cX5_isLess 52 = .ok (.goto 4, 3) := by decide +kernel
theorem dX5_isLess_55 : decode cX5_isLess 55 = .ok (.iconst 0, 1) := by decide +kernel
theorem dX5_isLess_56 : decode cX5_isLess 56 = .ok (.ireturn, 1) := by decide +kernel
set_option maxRecDepth 20000 in
theorem ggX5_rankWorthy_X5_rankRiders : GoodIn wsX5_rankWorthy wsX5_rankRiders := goodIn_r _ [8, 1, 9, 10, 11, 12, 13, 14, 15, 16, 17, 18, 19, 20, 21, 22, 23, 24, 25, 26, 27, 28, 29, 30, 31, 32, 33, 34, 35, 36, 37, 38, 39, 40, 7, 41, 2, 42, 43, 44, 45, 52, 53, 54, 55, 56, 57, 58, 59, 60, 61, 62, 63, 64, 65, 66, 67, 68, 69, 70, 71, 72, 73, 74, 75, 76, 77, 78, 79, 80, 81, 82, 83, 84, 85, 86, 87, 88, 89] rfl (by decide +kernel)
set_option maxRecDepth 20000 in
theorem gX5_rankWorthy_X5_rankRiders : GoodIn wsX5_rankWorthy (wsV RX5 38 RX5 yX5_rankRiders wsX5_rankRiders) := goodIn_app (goodIn_of _ (by decide +kernel)) ggX5_rankWorthy_X5_rankRiders
set_option maxRecDepth 20000 in
theorem ggX5_rankWorthy_X3_gained : GoodIn wsX5_rankWorthy wsX3_gained := goodIn_r _ [48, 15, 16, 17, 18, 12, 19, 20, 21, 49, 23, 50, 51, 30, 29, 57, 58, 59, 60, 61, 62, 63, 64, 65, 66, 67, 68, 69, 70, 71, 72, 73, 74, 75, 76, 77, 78, 79, 80, 81, 82, 83, 84, 85, 86, 87, 88, 89] rfl (by decide +kernel)
set_option maxRecDepth 20000 in
theorem gX5_rankWorthy_X3_gained_n86 : GoodIn wsX5_rankWorthy (wsX3_gained) := ggX5_rankWorthy_X3_gained
theorem dX5_rankWorthy_0 : decode cX5_rankWorthy 0 = .ok (.aload_n 0, 1) := by decide +kernel
theorem dX5_rankWorthy_1 : decode cX5_rankWorthy 1 = .ok (.aload_n 1, 1) := by decide +kernel
theorem dX5_rankWorthy_2 : decode cX5_rankWorthy 2 = .ok (.iconst (-1), 1) := by decide +kernel
theorem dX5_rankWorthy_3 : decode cX5_rankWorthy 3 = .ok (.bipush 50, 2) := by decide +kernel
theorem dX5_rankWorthy_5 : decode cX5_rankWorthy 5 = .ok (.invokevirtual 38, 3) := by decide +kernel
theorem dX5_rankWorthy_8 : decode cX5_rankWorthy 8 = .ok (.iconst 0, 1) := by decide +kernel
theorem dX5_rankWorthy_9 : decode cX5_rankWorthy 9 = .ok (.istore_n 3, 1) := by decide +kernel
theorem dX5_rankWorthy_10 : decode cX5_rankWorthy 10 = .ok (.iconst 0, 1) := by decide +kernel
theorem dX5_rankWorthy_11 : decode cX5_rankWorthy 11 = .ok (.istore 4, 2) := by decide +kernel
theorem dX5_rankWorthy_13 : decode cX5_rankWorthy 13 = .ok (.iload 4, 2) := by decide +kernel
theorem dX5_rankWorthy_15 : decode cX5_rankWorthy 15 = .ok (.aload_n 0, 1) := by decide +kernel
theorem dX5_rankWorthy_16 : decode cX5_rankWorthy 16 = .ok (.getfield 24, 3) := by decide +kernel
theorem dX5_rankWorthy_19 : decode cX5_rankWorthy 19 = .ok (.if_icmp .ge 112, 3) := by decide +kernel
theorem dX5_rankWorthy_22 : decode cX5_rankWorthy 22 = .ok (.aload_n 0, 1) := by decide +kernel
theorem dX5_rankWorthy_23 : decode cX5_rankWorthy 23 = .ok (.getfield 9, 3) := by decide +kernel
theorem dX5_rankWorthy_26 : decode cX5_rankWorthy 26 = .ok (.iload 4, 2) := by decide +kernel
theorem dX5_rankWorthy_28 : decode cX5_rankWorthy 28 = .ok (.iaload, 1) := by decide +kernel
theorem dX5_rankWorthy_29 : decode cX5_rankWorthy 29 = .ok (.istore 5, 2) := by decide +kernel
theorem dX5_rankWorthy_31 : decode cX5_rankWorthy 31 = .ok (.aload_n 0, 1) := by decide +kernel
theorem dX5_rankWorthy_32 : decode cX5_rankWorthy 32 = .ok (.getfield 21, 3) := by decide +kernel
theorem dX5_rankWorthy_35 : decode cX5_rankWorthy 35 = .ok (.iload 5, 2) := by decide +kernel
theorem dX5_rankWorthy_37 : decode cX5_rankWorthy 37 = .ok (.aload_n 1, 1) := by decide +kernel
theorem dX5_rankWorthy_38 : decode cX5_rankWorthy 38 = .ok (.iload 5, 2) := by decide +kernel
theorem dX5_rankWorthy_40 : decode cX5_rankWorthy 40 = .ok (.iload_n 2, 1) := by decide +kernel
theorem dX5_rankWorthy_41 : decode cX5_rankWorthy 41 = .ok (.invokevirtual 86, 3) := by decide +kernel
theorem dX5_rankWorthy_44 : decode cX5_rankWorthy 44 = .ok (.iastore, 1) := by decide +kernel
theorem dX5_rankWorthy_45 : decode cX5_rankWorthy 45 = .ok (.aload_n 0, 1) := by decide +kernel
theorem dX5_rankWorthy_46 : decode cX5_rankWorthy 46 = .ok (.getfield 21, 3) := by decide +kernel
theorem dX5_rankWorthy_49 : decode cX5_rankWorthy 49 = .ok (.iload 5, 2) := by decide +kernel
theorem dX5_rankWorthy_51 : decode cX5_rankWorthy 51 = .ok (.iaload, 1) := by decide +kernel
theorem dX5_rankWorthy_52 : decode cX5_rankWorthy 52 = .ok (.iconst 1, 1) := by decide +kernel
theorem dX5_rankWorthy_53 : decode cX5_rankWorthy 53 = .ok (.if_icmp .ge 6, 3) := by decide +kernel
theorem dX5_rankWorthy_56 : decode cX5_rankWorthy 56 = .ok (.goto 69, 3) := by decide +kernel
theorem dX5_rankWorthy_59 : decode cX5_rankWorthy 59 = .ok (.iload_n 3, 1) := by decide +kernel
theorem dX5_rankWorthy_60 : decode cX5_rankWorthy 60 = .ok (.istore 6, 2) := by decide +kernel
theorem dX5_rankWorthy_62 : decode cX5_rankWorthy 62 = .ok (.iload 6, 2) := by decide +kernel
theorem dX5_rankWorthy_64 : decode cX5_rankWorthy 64 = .ok (.ifCond .le 49, 3) := by decide +kernel
theorem dX5_rankWorthy_67 : decode cX5_rankWorthy 67 = .ok (.aload_n 0, 1) := by decide +kernel
theorem dX5_rankWorthy_68 : decode cX5_rankWorthy 68 = .ok (.getfield 21, 3) := by decide +kernel
theorem dX5_rankWorthy_71 : decode cX5_rankWorthy 71 = .ok (.aload_n 0, 1) := by decide +kernel
theorem dX5_rankWorthy_72 : decode cX5_rankWorthy 72 = .ok (.getfield 9, 3) := by decide +kernel
theorem dX5_rankWorthy_75 : decode cX5_rankWorthy 75 = .ok (.iload 6, 2) := by decide +kernel
theorem dX5_rankWorthy_77 : decode cX5_rankWorthy 77 = .ok (.iconst 1, 1) := by decide +kernel
theorem dX5_rankWorthy_78 : decode cX5_rankWorthy 78 = .ok (.isub, 1) := by decide +kernel
theorem dX5_rankWorthy_79 : decode cX5_rankWorthy 79 = .ok (.iaload, 1) := by decide +kernel
theorem dX5_rankWorthy_80 : decode cX5_rankWorthy 80 = .ok (.iaload, 1) := by decide +kernel
theorem dX5_rankWorthy_81 : decode cX5_rankWorthy 81 = .ok (.aload_n 0, 1) := by decide +kernel
theorem dX5_rankWorthy_82 : decode cX5_rankWorthy 82 = .ok (.getfield 21, 3) := by decide +kernel
theorem dX5_rankWorthy_85 : decode cX5_rankWorthy 85 = .ok (.iload 5, 2) := by decide +kernel
theorem dX5_rankWorthy_87 : decode cX5_rankWorthy 87 = .ok (.iaload, 1) := by decide +kernel
theorem dX5_rankWorthy_88 : decode cX5_rankWorthy 88 = .ok (.if_icmp .ge 25, 3) := by decide +kernel
theorem dX5_rankWorthy_91 : decode cX5_rankWorthy 91 = .ok (.aload_n 0, 1) := by decide +kernel
theorem dX5_rankWorthy_92 : decode cX5_rankWorthy 92 = .ok (.getfield 9, 3) := by decide +kernel
theorem dX5_rankWorthy_95 : decode cX5_rankWorthy 95 = .ok (.iload 6, 2) := by decide +kernel
theorem dX5_rankWorthy_97 : decode cX5_rankWorthy 97 = .ok (.aload_n 0, 1) := by decide +kernel
theorem dX5_rankWorthy_98 : decode cX5_rankWorthy 98 = .ok (.getfield 9, 3) := by decide +kernel
theorem dX5_rankWorthy_101 : decode cX5_rankWorthy 101 = .ok (.iload 6, 2) := by decide +kernel
theorem dX5_rankWorthy_103 : decode cX5_rankWorthy 103 = .ok (.iconst 1, 1) := by decide +kernel
theorem dX5_rankWorthy_104 : decode cX5_rankWorthy 104 = .ok (.isub, 1) := by decide +kernel
theorem dX5_rankWorthy_105 : decode cX5_rankWorthy 105 = .ok (.iaload, 1) := by decide +kernel
theorem dX5_rankWorthy_106 : decode cX5_rankWorthy 106 = .ok (.iastore, 1) := by decide +kernel
theorem dX5_rankWorthy_107 : decode cX5_rankWorthy 107 = .ok (.iinc 6 (-1), 3) := by decide +kernel
theorem dX5_rankWorthy_110 : decode cX5_rankWorthy 110 = .ok (.goto (-48), 3) := by decide +kernel
theorem dX5_rankWorthy_113 : decode cX5_rankWorthy 113 = .ok (.aload_n 0, 1) := by decide +kernel
theorem dX5_rankWorthy_114 : decode cX5_rankWorthy 114 = .ok (.getfield 9, 3) := by decide +kernel
theorem dX5_rankWorthy_117 : decode cX5_rankWorthy 117 = .ok (.iload 6, 2) := by decide +kernel
theorem dX5_rankWorthy_119 : decode cX5_rankWorthy 119 = .ok (.iload 5, 2) := by decide +kernel
theorem dX5_rankWorthy_121 : decode cX5_rankWorthy 121 = .ok (.iastore, 1) := by decide +kernel
theorem dX5_rankWorthy_122 : decode cX5_rankWorthy 122 = .ok (.iinc 3 1, 3) := by decide +kernel
theorem dX5_rankWorthy_125 : decode cX5_rankWorthy 125 = .ok (.iinc 4 1, 3) := by decide +kernel
theorem dX5_rankWorthy_128 : decode cX5_rankWorthy 128 = .ok (.goto (-115), 3) := by decide +kernel
theorem dX5_rankWorthy_131 : decode cX5_rankWorthy 131 = .ok (.aload_n 0, 1) := by decide +kernel
theorem dX5_rankWorthy_132 : decode cX5_rankWorthy 132 = .ok (.iload_n 3, 1) := by decide +kernel
theorem dX5_rankWorthy_133 : decode cX5_rankWorthy 133 = .ok (.putfield 24, 3) := by decide +kernel
theorem dX5_rankWorthy_136 : decode cX5_rankWorthy 136 = .ok (.return_, 1) := by decide +kernel
set_option maxRecDepth 20000 in
theorem ggX5_wearer_X5_rankList : GoodIn wsX5_wearer wsX5_rankList := goodIn_r _ [5, 6, 7, 8, 9, 10, 11, 12, 13, 14, 15, 4, 16, 17, 18, 19, 20, 21, 22, 23, 24, 25, 26, 27, 28, 29, 30, 31, 32, 33, 34, 35, 36, 37, 38, 39, 40, 41, 42, 43, 44, 45, 46, 47, 48, 49, 50, 51, 52, 53, 54, 55, 56, 57, 58, 59, 60, 61, 62, 63, 64, 65, 66, 67, 68, 69, 70, 71, 72, 73, 74, 75, 76, 77, 78, 79, 80, 81, 82, 83, 84, 85, 86, 87, 88, 89, 94, 95, 96, 97, 98, 99, 100, 101, 102, 103, 104, 105, 106, 107, 108, 109, 110, 111, 112, 113, 114, 115, 116, 117, 118, 119, 120, 121, 122, 123, 124, 125, 126, 127, 128, 129, 130, 131] rfl (by decide +kernel)
set_option maxRecDepth 20000 in
theorem gX5_wearer_X5_rankList : GoodIn wsX5_wearer (wsV RX5 89 RX5 yX5_rankList wsX5_rankList) := goodIn_app (goodIn_of _ (by decide +kernel)) ggX5_wearer_X5_rankList
set_option maxRecDepth 20000 in
theorem ggX5_wearer_X5_firstBut : GoodIn wsX5_wearer wsX5_firstBut := goodIn_r _ [93, 6, 44, 94, 95, 96, 97, 98] rfl (by decide +kernel)
set_option maxRecDepth 20000 in
theorem gX5_wearer_X5_firstBut : GoodIn wsX5_wearer (wsV RX5 92 RX5 yX5_firstBut wsX5_firstBut) := goodIn_app (goodIn_of _ (by decide +kernel)) ggX5_wearer_X5_firstBut
theorem dX5_wearer_0 : decode cX5_wearer 0 = .ok (.iconst 0, 1) := by decide +kernel
theorem dX5_wearer_1 : decode cX5_wearer 1 = .ok (.istore_n 3, 1) := by decide +kernel
theorem dX5_wearer_2 : decode cX5_wearer 2 = .ok (.iconst (-1), 1) := by decide +kernel
theorem dX5_wearer_3 : decode cX5_wearer 3 = .ok (.istore 4, 2) := by decide +kernel
theorem dX5_wearer_5 : decode cX5_wearer 5 = .ok (.iconst 0, 1) := by decide +kernel
theorem dX5_wearer_6 : decode cX5_wearer 6 = .ok (.istore 5, 2) := by decide +kernel
theorem dX5_wearer_8 : decode cX5_wearer 8 = .ok (.iload 5, 2) := by decide +kernel
theorem dX5_wearer_10 : decode cX5_wearer 10 = .ok (.iload_n 2, 1) := by decide +kernel
theorem dX5_wearer_11 : decode cX5_wearer 11 = .ok (.if_icmp .gt 36, 3) := by decide +kernel
theorem dX5_wearer_14 : decode cX5_wearer 14 = .ok (.aload_n 0, 1) := by decide +kernel
theorem dX5_wearer_15 : decode cX5_wearer 15 = .ok (.aload_n 1, 1) := by decide +kernel
theorem dX5_wearer_16 : decode cX5_wearer 16 = .ok (.iload 5, 2) := by decide +kernel
theorem dX5_wearer_18 : decode cX5_wearer 18 = .ok (.invokevirtual 89, 3) := by decide +kernel
theorem dX5_wearer_21 : decode cX5_wearer 21 = .ok (.aload_n 0, 1) := by decide +kernel
theorem dX5_wearer_22 : decode cX5_wearer 22 = .ok (.iload_n 3, 1) := by decide +kernel
theorem dX5_wearer_23 : decode cX5_wearer 23 = .ok (.invokevirtual 92, 3) := by decide +kernel
theorem dX5_wearer_26 : decode cX5_wearer 26 = .ok (.istore 4, 2) := by decide +kernel
theorem dX5_wearer_28 : decode cX5_wearer 28 = .ok (.iload 4, 2) := by decide +kernel
theorem dX5_wearer_30 : decode cX5_wearer 30 = .ok (.iconst (-1), 1) := by decide +kernel
theorem dX5_wearer_31 : decode cX5_wearer 31 = .ok (.if_icmp .eq 10, 3) := by decide +kernel
theorem dX5_wearer_34 : decode cX5_wearer 34 = .ok (.iload_n 3, 1) := by decide +kernel
theorem dX5_wearer_35 : decode cX5_wearer 35 = .ok (.iconst 1, 1) := by decide +kernel
theorem dX5_wearer_36 : decode cX5_wearer 36 = .ok (.iload 4, 2) := by decide +kernel
theorem dX5_wearer_38 : decode cX5_wearer 38 = .ok (.ishl, 1) := by decide +kernel
theorem dX5_wearer_39 : decode cX5_wearer 39 = .ok (.ior, 1) := by decide +kernel
theorem dX5_wearer_40 : decode cX5_wearer 40 = .ok (.istore_n 3, 1) := by decide +kernel
theorem dX5_wearer_41 : decode cX5_wearer 41 = .ok (.iinc 5 1, 3) := by decide +kernel
theorem dX5_wearer_44 : decode cX5_wearer 44 = .ok (.goto (-36), 3) := by decide +kernel
theorem dX5_wearer_47 : decode cX5_wearer 47 = .ok (.iload 4, 2) := by decide +kernel
theorem dX5_wearer_49 : decode cX5_wearer 49 = .ok (.ireturn, 1) := by decide +kernel
theorem dX5_firstBut_0 : decode cX5_firstBut 0 = .ok (.iconst 0, 1) := by decide +kernel
theorem dX5_firstBut_1 : decode cX5_firstBut 1 = .ok (.istore_n 2, 1) := by decide +kernel
theorem dX5_firstBut_2 : decode cX5_firstBut 2 = .ok (.iload_n 2, 1) := by decide +kernel
theorem dX5_firstBut_3 : decode cX5_firstBut 3 = .ok (.aload_n 0, 1) := by decide +kernel
theorem dX5_firstBut_4 : decode cX5_firstBut 4 = .ok (.getfield 24, 3) := by decide +kernel
theorem dX5_firstBut_7 : decode cX5_firstBut 7 = .ok (.if_icmp .ge 29, 3) := by decide +kernel
theorem dX5_firstBut_10 : decode cX5_firstBut 10 = .ok (.iload_n 1, 1) := by decide +kernel
theorem dX5_firstBut_11 : decode cX5_firstBut 11 = .ok (.aload_n 0, 1) := by decide +kernel
theorem dX5_firstBut_12 : decode cX5_firstBut 12 = .ok (.getfield 9, 3) := by decide +kernel
theorem dX5_firstBut_15 : decode cX5_firstBut 15 = .ok (.iload_n 2, 1) := by decide +kernel
theorem dX5_firstBut_16 : decode cX5_firstBut 16 = .ok (.iaload, 1) := by decide +kernel
theorem dX5_firstBut_17 : decode cX5_firstBut 17 = .ok (.ishr, 1) := by decide +kernel
theorem dX5_firstBut_18 : decode cX5_firstBut 18 = .ok (.iconst 1, 1) := by decide +kernel
theorem dX5_firstBut_19 : decode cX5_firstBut 19 = .ok (.iand, 1) := by decide +kernel
theorem dX5_firstBut_20 : decode cX5_firstBut 20 = .ok (.ifCond .ne 10, 3) := by decide +kernel
theorem dX5_firstBut_23 : decode cX5_firstBut 23 = .ok (.aload_n 0, 1) := by decide +kernel
theorem dX5_firstBut_24 : decode cX5_firstBut 24 = .ok (.getfield 9, 3) := by decide +kernel
theorem dX5_firstBut_27 : decode cX5_firstBut 27 = .ok (.iload_n 2, 1) := by decide +kernel
theorem dX5_firstBut_28 : decode cX5_firstBut 28 = .ok (.iaload, 1) := by decide +kernel
theorem dX5_firstBut_29 : decode cX5_firstBut 29 = .ok (.ireturn, 1) := by decide +kernel
theorem dX5_firstBut_30 : decode cX5_firstBut 30 = .ok (.iinc 2 1, 3) := by decide +kernel
theorem dX5_firstBut_33 : decode cX5_firstBut 33 = .ok (.goto (-31), 3) := by decide +kernel
theorem dX5_firstBut_36 : decode cX5_firstBut 36 = .ok (.iconst (-1), 1) := by decide +kernel
theorem dX5_firstBut_37 : decode cX5_firstBut 37 = .ok (.ireturn, 1) := by decide +kernel
set_option maxRecDepth 20000 in
theorem ggX5_lacking_X5_entry : GoodIn wsX5_lacking wsX5_entry := goodIn_r _ [7, 8, 9, 10, 11, 12, 13, 14, 15, 16, 17] rfl (by decide +kernel)
set_option maxRecDepth 20000 in
theorem gX5_lacking_X5_entry : GoodIn wsX5_lacking (wsV RX5 95 RX5 yX5_entry wsX5_entry) := goodIn_app (goodIn_of _ (by decide +kernel)) ggX5_lacking_X5_entry
theorem dX5_lacking_0 : decode cX5_lacking 0 = .ok (.aload_n 0, 1) := by decide +kernel
theorem dX5_lacking_1 : decode cX5_lacking 1 = .ok (.iconst 0, 1) := by decide +kernel
theorem dX5_lacking_2 : decode cX5_lacking 2 = .ok (.invokevirtual 95, 3) := by decide +kernel
theorem dX5_lacking_5 : decode cX5_lacking 5 = .ok (.istore_n 2, 1) := by decide +kernel
theorem dX5_lacking_6 : decode cX5_lacking 6 = .ok (.iload_n 2, 1) := by decide +kernel
theorem dX5_lacking_7 : decode cX5_lacking 7 = .ok (.iconst (-1), 1) := by decide +kernel
theorem dX5_lacking_8 : decode cX5_lacking 8 = .ok (.if_icmp .eq 8, 3) := by decide +kernel
theorem dX5_lacking_11 : decode cX5_lacking 11 = .ok (.iload_n 2, 1) := by decide +kernel
theorem dX5_lacking_12 : decode cX5_lacking 12 = .ok (.iload_n 1, 1) := by decide +kernel
theorem dX5_lacking_13 : decode cX5_lacking 13 = .ok (.if_icmp .ne 5, 3) := by decide +kernel
theorem dX5_lacking_16 : decode cX5_lacking 16 = .ok (.iconst 0, 1) := by decide +kernel
theorem dX5_lacking_17 : decode cX5_lacking 17 = .ok (.ireturn, 1) := by decide +kernel
theorem dX5_lacking_18 : decode cX5_lacking 18 = .ok (.aload_n 0, 1) := by decide +kernel
theorem dX5_lacking_19 : decode cX5_lacking 19 = .ok (.getfield 15, 3) := by decide +kernel
theorem dX5_lacking_22 : decode cX5_lacking 22 = .ok (.iload_n 1, 1) := by decide +kernel
theorem dX5_lacking_23 : decode cX5_lacking 23 = .ok (.iaload, 1) := by decide +kernel
theorem dX5_lacking_24 : decode cX5_lacking 24 = .ok (.aload_n 0, 1) := by decide +kernel
theorem dX5_lacking_25 : decode cX5_lacking 25 = .ok (.getfield 15, 3) := by decide +kernel
theorem dX5_lacking_28 : decode cX5_lacking 28 = .ok (.iload_n 2, 1) := by decide +kernel
theorem dX5_lacking_29 : decode cX5_lacking 29 = .ok (.iaload, 1) := by decide +kernel
theorem dX5_lacking_30 : decode cX5_lacking 30 = .ok (.isub, 1) := by decide +kernel
theorem dX5_lacking_31 : decode cX5_lacking 31 = .ok (.istore_n 3, 1) := by decide +kernel
theorem dX5_lacking_32 : decode cX5_lacking 32 = .ok (.aload_n 0, 1) := by decide +kernel
theorem dX5_lacking_33 : decode cX5_lacking 33 = .ok (.getfield 18, 3) := by decide +kernel
theorem dX5_lacking_36 : decode cX5_lacking 36 = .ok (.iload_n 1, 1) := by decide +kernel
theorem dX5_lacking_37 : decode cX5_lacking 37 = .ok (.iaload, 1) := by decide +kernel
theorem dX5_lacking_38 : decode cX5_lacking 38 = .ok (.aload_n 0, 1) := by decide +kernel
theorem dX5_lacking_39 : decode cX5_lacking 39 = .ok (.getfield 18, 3) := by decide +kernel
theorem dX5_lacking_42 : decode cX5_lacking 42 = .ok (.iload_n 2, 1) := by decide +kernel
theorem dX5_lacking_43 : decode cX5_lacking 43 = .ok (.iaload, 1) := by decide +kernel
theorem dX5_lacking_44 : decode cX5_lacking 44 = .ok (.if_icmp .lt 23, 3) := by decide +kernel
theorem dX5_lacking_47 : decode cX5_lacking 47 = .ok (.aload_n 0, 1) := by decide +kernel
theorem dX5_lacking_48 : decode cX5_lacking 48 = .ok (.getfield 18, 3) := by decide +kernel
theorem dX5_lacking_51 : decode cX5_lacking 51 = .ok (.iload_n 1, 1) := by decide +kernel
theorem dX5_lacking_52 : decode cX5_lacking 52 = .ok (.iaload, 1) := by decide +kernel
theorem dX5_lacking_53 : decode cX5_lacking 53 = .ok (.aload_n 0, 1) := by decide +kernel
theorem dX5_lacking_54 : decode cX5_lacking 54 = .ok (.getfield 18, 3) := by decide +kernel
theorem dX5_lacking_57 : decode cX5_lacking 57 = .ok (.iload_n 2, 1) := by decide +kernel
theorem dX5_lacking_58 : decode cX5_lacking 58 = .ok (.iaload, 1) := by decide +kernel
theorem dX5_lacking_59 : decode cX5_lacking 59 = .ok (.if_icmp .ne 12, 3) := by decide +kernel
theorem dX5_lacking_62 : decode cX5_lacking 62 = .ok (.iload_n 1, 1) := by decide +kernel
theorem dX5_lacking_63 : decode cX5_lacking 63 = .ok (.iload_n 2, 1) := by decide +kernel
theorem dX5_lacking_64 : decode cX5_lacking 64 = .ok (.if_icmp .ge 7, 3) := by decide +kernel
theorem dX5_lacking_67 : decode cX5_lacking 67 = .ok (.iconst 1, 1) := by decide +kernel
theorem dX5_lacking_68 : decode cX5_lacking 68 = .ok (.goto 4, 3) := by decide +kernel
theorem dX5_lacking_71 : decode cX5_lacking 71 = .ok (.iconst 0, 1) := by decide +kernel
theorem dX5_lacking_72 : decode cX5_lacking 72 = .ok (.istore 4, 2) := by decide +kernel
theorem dX5_lacking_74 : decode cX5_lacking 74 = .ok (.iload 4, 2) := by decide +kernel
theorem dX5_lacking_76 : decode cX5_lacking 76 = .ok (.ifCond .eq 7, 3) := by decide +kernel
theorem dX5_lacking_79 : decode cX5_lacking 79 = .ok (.iload_n 3, 1) := by decide +kernel
theorem dX5_lacking_80 : decode cX5_lacking 80 = .ok (.goto 6, 3) := by decide +kernel
theorem dX5_lacking_83 : decode cX5_lacking 83 = .ok (.iload_n 3, 1) := by decide +kernel
theorem dX5_lacking_84 : decode cX5_lacking 84 = .ok (.iconst 1, 1) := by decide +kernel
theorem dX5_lacking_85 : decode cX5_lacking 85 = .ok (.iadd, 1) := by decide +kernel
theorem dX5_lacking_86 : decode cX5_lacking 86 = .ok (.ireturn, 1) := by decide +kernel
theorem dX6_init_0 : decode cX6_init 0 = .ok (.aload_n 0, 1) := by decide +kernel
theorem dX6_init_1 : decode cX6_init 1 = .ok (.invokespecial 3, 3) := by decide +kernel
theorem dX6_init_4 : decode cX6_init 4 = .ok (.aload_n 0, 1) := by decide +kernel
theorem dX6_init_5 : decode cX6_init 5 = .ok (.sipush 600, 3) := by decide +kernel
theorem dX6_init_8 : decode cX6_init 8 = .ok (.newarray .byte, 2) := by decide +kernel
theorem dX6_init_10 : decode cX6_init 10 = .ok (.putfield 9, 3) := by decide +kernel
theorem dX6_init_13 : decode cX6_init 13 = .ok (.return_, 1) := by decide +kernel
theorem dX6_putFour_0 : decode cX6_putFour 0 = .ok (.bipush 24, 2) := by decide +kernel
theorem dX6_putFour_2 : decode cX6_putFour 2 = .ok (.istore_n 2, 1) := by decide +kernel
theorem dX6_putFour_3 : decode cX6_putFour 3 = .ok (.iload_n 2, 1) := by decide +kernel
theorem dX6_putFour_4 : decode cX6_putFour 4 = .ok (.ifCond .lt 42, 3) := by decide +kernel
theorem dX6_putFour_7 : decode cX6_putFour 7 = .ok (.aload_n 0, 1) := by decide +kernel
theorem dX6_putFour_8 : decode cX6_putFour 8 = .ok (.getfield 15, 3) := by decide +kernel
theorem dX6_putFour_11 : decode cX6_putFour 11 = .ok (.sipush 600, 3) := by decide +kernel
theorem dX6_putFour_14 : decode cX6_putFour 14 = .ok (.if_icmp .ge 32, 3) := by decide +kernel
theorem dX6_putFour_17 : decode cX6_putFour 17 = .ok (.aload_n 0, 1) := by decide +kernel
theorem dX6_putFour_18 : decode cX6_putFour 18 = .ok (.getfield 9, 3) := by decide +kernel
theorem dX6_putFour_21 : decode cX6_putFour 21 = .ok (.aload_n 0, 1) := by decide +kernel
theorem dX6_putFour_22 : decode cX6_putFour 22 = .ok (.getfield 15, 3) := by decide +kernel
theorem dX6_putFour_25 : decode cX6_putFour 25 = .ok (.iload_n 1, 1) := by decide +kernel
theorem dX6_putFour_26 : decode cX6_putFour 26 = .ok (.iload_n 2, 1) := by decide +kernel
theorem dX6_putFour_27 : decode cX6_putFour 27 = .ok (.ishr, 1) := by decide +kernel
theorem dX6_putFour_28 : decode cX6_putFour 28 = .ok (.i2b, 1) := by decide +kernel
theorem dX6_putFour_29 : decode cX6_putFour 29 = .ok (.bastore, 1) := by decide +kernel
theorem dX6_putFour_30 : decode cX6_putFour 30 = .ok (.aload_n 0, 1) := by decide +kernel
theorem dX6_putFour_31 : decode cX6_putFour 31 = .ok (.dup, 1) := by decide +kernel
theorem dX6_putFour_32 : decode cX6_putFour 32 = .ok (.getfield 15, 3) := by decide +kernel
theorem dX6_putFour_35 : decode cX6_putFour 35 = .ok (.iconst 1, 1) := by decide +kernel
theorem dX6_putFour_36 : decode cX6_putFour 36 = .ok (.iadd, 1) := by decide +kernel
theorem dX6_putFour_37 : decode cX6_putFour 37 = .ok (.putfield 15, 3) := by decide +kernel
theorem dX6_putFour_40 : decode cX6_putFour 40 = .ok (.iinc 2 (-8), 3) := by decide +kernel
theorem dX6_putFour_43 : decode cX6_putFour 43 = .ok (.goto (-40), 3) := by decide +kernel
theorem dX6_putFour_46 : decode cX6_putFour 46 = .ok (.return_, 1) := by decide +kernel
set_option maxRecDepth 20000 in
theorem ggX6_begin_X6_advance : GoodIn wsX6_begin wsX6_advance := goodIn_r _ [7, 2, 8, 9, 10, 11, 12, 13, 6, 14, 15, 16, 17, 18, 19, 20, 21] rfl (by decide +kernel)
set_option maxRecDepth 20000 in
theorem gX6_begin_X6_advance : GoodIn wsX6_begin (wsV RX6 25 RX6 yX6_advance wsX6_advance) := goodIn_app (goodIn_of _ (by decide +kernel)) ggX6_begin_X6_advance
theorem dX6_begin_0 : decode cX6_begin 0 = .ok (.aload_n 0, 1) := by decide +kernel
theorem dX6_begin_1 : decode cX6_begin 1 = .ok (.iconst 0, 1) := by decide +kernel
theorem dX6_begin_2 : decode cX6_begin 2 = .ok (.putfield 19, 3) := by decide +kernel
theorem dX6_begin_5 : decode cX6_begin 5 = .ok (.aload_n 0, 1) := by decide +kernel
theorem dX6_begin_6 : decode cX6_begin 6 = .ok (.iconst 0, 1) := by decide +kernel
theorem dX6_begin_7 : decode cX6_begin 7 = .ok (.putfield 22, 3) := by decide +kernel
theorem dX6_begin_10 : decode cX6_begin 10 = .ok (.aload_n 0, 1) := by decide +kernel
theorem dX6_begin_11 : decode cX6_begin 11 = .ok (.invokevirtual 25, 3) := by decide +kernel
theorem dX6_begin_14 : decode cX6_begin 14 = .ok (.return_, 1) := by decide +kernel
theorem dX6_hasMore_0 : decode cX6_hasMore 0 = .ok (.aload_n 0, 1) := by decide +kernel
theorem dX6_hasMore_1 : decode cX6_hasMore 1 = .ok (.getfield 19, 3) := by decide +kernel
theorem dX6_hasMore_4 : decode cX6_hasMore 4 = .ok (.ifCond .ne 14, 3) := by decide +kernel
theorem dX6_hasMore_7 : decode cX6_hasMore 7 = .ok (.aload_n 0, 1) := by decide +kernel
theorem dX6_hasMore_8 : decode cX6_hasMore 8 = .ok (.getfield 28, 3) := by decide +kernel
theorem dX6_hasMore_11 : decode cX6_hasMore 11 = .ok (.ifCond .eq 7, 3) := by decide +kernel
theorem dX6_hasMore_14 : decode cX6_hasMore 14 = .ok (.iconst 1, 1) := by decide +kernel
theorem dX6_hasMore_15 : decode cX6_hasMore 15 = .ok (.goto 4, 3) := by decide +kernel
theorem dX6_hasMore_18 : decode cX6_hasMore 18 = .ok (.iconst 0, 1) := by decide +kernel
theorem dX6_hasMore_19 : decode cX6_hasMore 19 = .ok (.ireturn, 1) := by decide +kernel
theorem dX6_hasInt_0 : decode cX6_hasInt 0 = .ok (.aload_n 0, 1) := by decide +kernel
theorem dX6_hasInt_1 : decode cX6_hasInt 1 = .ok (.getfield 19, 3) := by decide +kernel
theorem dX6_hasInt_4 : decode cX6_hasInt 4 = .ok (.ifCond .ne 15, 3) := by decide +kernel
theorem dX6_hasInt_7 : decode cX6_hasInt 7 = .ok (.aload_n 0, 1) := by decide +kernel
theorem dX6_hasInt_8 : decode cX6_hasInt 8 = .ok (.getfield 28, 3) := by decide +kernel
theorem dX6_hasInt_11 : decode cX6_hasInt 11 = .ok (.iconst 2, 1) := by decide +kernel
theorem dX6_hasInt_12 : decode cX6_hasInt 12 = .ok (.if_icmp .ne 7, 3) := by decide +kernel
theorem dX6_hasInt_15 : decode cX6_hasInt 15 = .ok (.iconst 1, 1) := by decide +kernel
theorem dX6_hasInt_16 : decode cX6_hasInt 16 = .ok (.goto 4, 3) := by decide +kernel
theorem dX6_hasInt_19 : decode cX6_hasInt 19 = .ok (.iconst 0, 1) := by decide +kernel
theorem dX6_hasInt_20 : decode cX6_hasInt 20 = .ok (.ireturn, 1) := by decide +kernel
set_option maxRecDepth 20000 in
theorem ggX6_takes_J0_length_8abf5 : GoodIn wsX6_takes wsJ0_length_8abf5 := goodIn_r _ [10, 11, 12, 13, 14, 9, 15, 16, 17] rfl (by decide +kernel)
set_option maxRecDepth 20000 in
theorem gX6_takes_J0_length_8abf5 : GoodIn wsX6_takes (wsV RX6 34 RJ0 yJ0_length_8abf5 wsJ0_length_8abf5) := goodIn_app (goodIn_of _ (by decide +kernel)) ggX6_takes_J0_length_8abf5
set_option maxRecDepth 20000 in
theorem ggX6_takes_J0_charAt_5068e : GoodIn wsX6_takes wsJ0_charAt_5068e := goodIn_r _ [21, 11, 22, 23, 24, 9, 25, 16, 17, 26, 27, 28, 29, 30, 31, 32, 33, 34, 35, 36, 37, 38, 39, 40, 41, 42, 43, 44, 45, 46, 47, 48, 49, 50, 51, 52, 53, 54] rfl (by decide +kernel)
set_option maxRecDepth 20000 in
theorem gX6_takes_J0_charAt_5068e : GoodIn wsX6_takes (wsV RX6 39 RJ0 yJ0_charAt_5068e wsJ0_charAt_5068e) := goodIn_app (goodIn_of _ (by decide +kernel)) ggX6_takes_J0_charAt_5068e
set_option maxRecDepth 20000 in
theorem ggX6_takes_X6_advance : GoodIn wsX6_takes wsX6_advance := goodIn_r _ [59, 3, 60, 4, 2, 61, 62, 63, 58, 64, 5, 65, 66, 67, 68, 69, 70] rfl (by decide +kernel)
set_option maxRecDepth 20000 in
theorem gX6_takes_X6_advance : GoodIn wsX6_takes (wsV RX6 25 RX6 yX6_advance wsX6_advance) := goodIn_app (goodIn_of _ (by decide +kernel)) ggX6_takes_X6_advance
theorem dX6_takes_0 : decode cX6_takes 0 = .ok (.aload_n 0, 1) := by decide +kernel
theorem dX6_takes_1 : decode cX6_takes 1 = .ok (.getfield 19, 3) := by decide +kernel
theorem dX6_takes_4 : decode cX6_takes 4 = .ok (.ifCond .ne 27, 3) := by decide +kernel
theorem dX6_takes_7 : decode cX6_takes 7 = .ok (.aload_n 0, 1) := by decide +kernel
theorem dX6_takes_8 : decode cX6_takes 8 = .ok (.getfield 28, 3) := by decide +kernel
theorem dX6_takes_11 : decode cX6_takes 11 = .ok (.iconst 1, 1) := by decide +kernel
theorem dX6_takes_12 : decode cX6_takes 12 = .ok (.if_icmp .ne 19, 3) := by decide +kernel
theorem dX6_takes_15 : decode cX6_takes 15 = .ok (.aload_n 0, 1) := by decide +kernel
theorem dX6_takes_16 : decode cX6_takes 16 = .ok (.getfield 22, 3) := by decide +kernel
theorem dX6_takes_19 : decode cX6_takes 19 = .ok (.aload_n 0, 1) := by decide +kernel
theorem dX6_takes_20 : decode cX6_takes 20 = .ok (.getfield 31, 3) := by decide +kernel
theorem dX6_takes_23 : decode cX6_takes 23 = .ok (.isub, 1) := by decide +kernel
theorem dX6_takes_24 : decode cX6_takes 24 = .ok (.aload_n 1, 1) := by decide +kernel
theorem dX6_takes_25 : decode cX6_takes 25 = .ok (.invokevirtual 34, 3) := by decide +kernel
theorem dX6_takes_28 : decode cX6_takes 28 = .ok (.if_icmp .eq 5, 3) := by decide +kernel
theorem dX6_takes_31 : decode cX6_takes 31 = .ok (.iconst 0, 1) := by decide +kernel
theorem dX6_takes_32 : decode cX6_takes 32 = .ok (.ireturn, 1) := by decide +kernel
theorem dX6_takes_33 : decode cX6_takes 33 = .ok (.iconst 0, 1) := by decide +kernel
theorem dX6_takes_34 : decode cX6_takes 34 = .ok (.istore_n 2, 1) := by decide +kernel
theorem dX6_takes_35 : decode cX6_takes 35 = .ok (.iload_n 2, 1) := by decide +kernel
theorem dX6_takes_36 : decode cX6_takes 36 = .ok (.aload_n 1, 1) := by decide +kernel
theorem dX6_takes_37 : decode cX6_takes 37 = .ok (.invokevirtual 34, 3) := by decide +kernel
theorem dX6_takes_40 : decode cX6_takes 40 = .ok (.if_icmp .ge 30, 3) := by decide +kernel
theorem dX6_takes_43 : decode cX6_takes 43 = .ok (.aload_n 0, 1) := by decide +kernel
theorem dX6_takes_44 : decode cX6_takes 44 = .ok (.getfield 9, 3) := by decide +kernel
theorem dX6_takes_47 : decode cX6_takes 47 = .ok (.aload_n 0, 1) := by decide +kernel
theorem dX6_takes_48 : decode cX6_takes 48 = .ok (.getfield 31, 3) := by decide +kernel
theorem dX6_takes_51 : decode cX6_takes 51 = .ok (.iload_n 2, 1) := by decide +kernel
theorem dX6_takes_52 : decode cX6_takes 52 = .ok (.iadd, 1) := by decide +kernel
theorem dX6_takes_53 : decode cX6_takes 53 = .ok (.baload, 1) := by decide +kernel
theorem dX6_takes_54 : decode cX6_takes 54 = .ok (.aload_n 1, 1) := by decide +kernel
theorem dX6_takes_55 : decode cX6_takes 55 = .ok (.iload_n 2, 1) := by decide +kernel
theorem dX6_takes_56 : decode cX6_takes 56 = .ok (.invokevirtual 39, 3) := by decide +kernel
theorem dX6_takes_59 : decode cX6_takes 59 = .ok (.if_icmp .eq 5, 3) := by decide +kernel
theorem dX6_takes_62 : decode cX6_takes 62 = .ok (.iconst 0, 1) := by decide +kernel
theorem dX6_takes_63 : decode cX6_takes 63 = .ok (.ireturn, 1) := by decide +kernel
theorem dX6_takes_64 : decode cX6_takes 64 = .ok (.iinc 2 1, 3) := by decide +kernel
theorem dX6_takes_67 : decode cX6_takes 67 = .ok (.goto (-32), 3) := by decide +kernel
theorem dX6_takes_70 : decode cX6_takes 70 = .ok (.aload_n 0, 1) := by decide +kernel
theorem dX6_takes_71 : decode cX6_takes 71 = .ok (.invokevirtual 25, 3) := by decide +kernel
theorem dX6_takes_74 : decode cX6_takes 74 = .ok (.iconst 1, 1) := by decide +kernel
theorem dX6_takes_75 : decode cX6_takes 75 = .ok (.ireturn, 1) := by decide +kernel
set_option maxRecDepth 20000 in
theorem ggX6_takeInt_X6_cannotStand : GoodIn wsX6_takeInt wsX6_cannotStand := goodIn_r _ [10, 1, 3, 23, 24, 25, 26, 27, 28] rfl (by decide +kernel)
set_option maxRecDepth 20000 in
theorem gX6_takeInt_X6_cannotStand : GoodIn wsX6_takeInt (wsV RX6 43 RX6 yX6_cannotStand wsX6_cannotStand) := goodIn_app (goodIn_of _ (by decide +kernel)) ggX6_takeInt_X6_cannotStand
set_option maxRecDepth 20000 in
theorem ggX6_takeInt_X8_within : GoodIn wsX6_takeInt wsX8_within := goodIn_r _ [13] rfl (by decide +kernel)
set_option maxRecDepth 20000 in
theorem gX6_takeInt_X8_within_n46 : GoodIn wsX6_takeInt (wsX8_within) := ggX6_takeInt_X8_within
set_option maxRecDepth 20000 in
theorem ggX6_takeInt_X6_advance : GoodIn wsX6_takeInt wsX6_advance := goodIn_r _ [17, 4, 18, 3, 2, 19, 20, 21, 9, 22, 5, 23, 24, 25, 26, 27, 28] rfl (by decide +kernel)
set_option maxRecDepth 20000 in
theorem gX6_takeInt_X6_advance : GoodIn wsX6_takeInt (wsV RX6 25 RX6 yX6_advance wsX6_advance) := goodIn_app (goodIn_of _ (by decide +kernel)) ggX6_takeInt_X6_advance
theorem dX6_takeInt_0 : decode cX6_takeInt 0 = .ok (.aload_n 0, 1) := by decide +kernel
theorem dX6_takeInt_1 : decode cX6_takeInt 1 = .ok (.getfield 19, 3) := by decide +kernel
theorem dX6_takeInt_4 : decode cX6_takeInt 4 = .ok (.ifCond .ne 11, 3) := by decide +kernel
theorem dX6_takeInt_7 : decode cX6_takeInt 7 = .ok (.aload_n 0, 1) := by decide +kernel
theorem dX6_takeInt_8 : decode cX6_takeInt 8 = .ok (.getfield 28, 3) := by decide +kernel
theorem dX6_takeInt_11 : decode cX6_takeInt 11 = .ok (.iconst 2, 1) := by decide +kernel
theorem dX6_takeInt_12 : decode cX6_takeInt 12 = .ok (.if_icmp .eq 8, 3) := by decide +kernel
theorem dX6_takeInt_15 : decode cX6_takeInt 15 = .ok (.aload_n 0, 1) := by decide +kernel
theorem dX6_takeInt_16 : decode cX6_takeInt 16 = .ok (.invokevirtual 43, 3) := by decide +kernel
theorem dX6_takeInt_19 : decode cX6_takeInt 19 = .ok (.ireturn, 1) := by decide +kernel
theorem dX6_takeInt_20 : decode cX6_takeInt 20 = .ok (.iconst 0, 1) := by decide +kernel
theorem dX6_takeInt_21 : decode cX6_takeInt 21 = .ok (.istore_n 3, 1) := by decide +kernel
theorem dX6_takeInt_22 : decode cX6_takeInt 22 = .ok (.aload_n 0, 1) := by decide +kernel
theorem dX6_takeInt_23 : decode cX6_takeInt 23 = .ok (.getfield 31, 3) := by decide +kernel
theorem dX6_takeInt_26 : decode cX6_takeInt 26 = .ok (.istore 4, 2) := by decide +kernel
theorem dX6_takeInt_28 : decode cX6_takeInt 28 = .ok (.iload 4, 2) := by decide +kernel
theorem dX6_takeInt_30 : decode cX6_takeInt 30 = .ok (.aload_n 0, 1) := by decide +kernel
theorem dX6_takeInt_31 : decode cX6_takeInt 31 = .ok (.getfield 22, 3) := by decide +kernel
theorem dX6_takeInt_34 : decode cX6_takeInt 34 = .ok (.if_icmp .ge 25, 3) := by decide +kernel
theorem dX6_takeInt_37 : decode cX6_takeInt 37 = .ok (.iload_n 3, 1) := by decide +kernel
theorem dX6_takeInt_38 : decode cX6_takeInt 38 = .ok (.bipush 10, 2) := by decide +kernel
theorem dX6_takeInt_40 : decode cX6_takeInt 40 = .ok (.imul, 1) := by decide +kernel
theorem dX6_takeInt_41 : decode cX6_takeInt 41 = .ok (.aload_n 0, 1) := by decide +kernel
theorem dX6_takeInt_42 : decode cX6_takeInt 42 = .ok (.getfield 9, 3) := by decide +kernel
theorem dX6_takeInt_45 : decode cX6_takeInt 45 = .ok (.iload 4, 2) := by decide +kernel
theorem dX6_takeInt_47 : decode cX6_takeInt 47 = .ok (.baload, 1) := by decide +kernel
theorem dX6_takeInt_48 : decode cX6_takeInt 48 = .ok (.bipush 48, 2) := by decide +kernel
theorem dX6_takeInt_50 : decode cX6_takeInt 50 = .ok (.isub, 1) := by decide +kernel
theorem dX6_takeInt_51 : decode cX6_takeInt 51 = .ok (.iadd, 1) := by decide +kernel
theorem dX6_takeInt_52 : decode cX6_takeInt 52 = .ok (.istore_n 3, 1) := by decide +kernel
theorem dX6_takeInt_53 : decode cX6_takeInt 53 = .ok (.iinc 4 1, 3) := by decide +kernel
theorem dX6_takeInt_56 : decode cX6_takeInt 56 = .ok (.goto (-28), 3) := by decide +kernel
theorem dX6_takeInt_59 : decode cX6_takeInt 59 = .ok (.iload_n 3, 1) := by decide +kernel
theorem dX6_takeInt_60 : decode cX6_takeInt 60 = .ok (.iload_n 1, 1) := by decide +kernel
theorem dX6_takeInt_61 : decode cX6_takeInt 61 = .ok (.iload_n 2, 1) := by decide +kernel
theorem dX6_takeInt_62 : decode cX6_takeInt 62 = .ok (.invokestatic 46, 3) := by decide +kernel
theorem dX6_takeInt_65 : decode cX6_takeInt 65 = .ok (.ifCond .ne 18, 3) := by decide +kernel
theorem dX6_takeInt_68 : decode cX6_takeInt 68 = .ok (.aload_n 0, 1) := by decide +kernel
theorem dX6_takeInt_69 : decode cX6_takeInt 69 = .ok (.iconst 2, 1) := by decide +kernel
theorem dX6_takeInt_70 : decode cX6_takeInt 70 = .ok (.bipush 8, 2) := by decide +kernel
theorem dX6_takeInt_72 : decode cX6_takeInt 72 = .ok (.aload_n 0, 1) := by decide +kernel
theorem dX6_takeInt_73 : decode cX6_takeInt 73 = .ok (.getfield 31, 3) := by decide +kernel
theorem dX6_takeInt_76 : decode cX6_takeInt 76 = .ok (.imul, 1) := by decide +kernel
theorem dX6_takeInt_77 : decode cX6_takeInt 77 = .ok (.iadd, 1) := by decide +kernel
theorem dX6_takeInt_78 : decode cX6_takeInt 78 = .ok (.putfield 19, 3) := by decide +kernel
theorem dX6_takeInt_81 : decode cX6_takeInt 81 = .ok (.iconst (-1), 1) := by decide +kernel
theorem dX6_takeInt_82 : decode cX6_takeInt 82 = .ok (.ireturn, 1) := by decide +kernel
theorem dX6_takeInt_83 : decode cX6_takeInt 83 = .ok (.aload_n 0, 1) := by decide +kernel
theorem dX6_takeInt_84 : decode cX6_takeInt 84 = .ok (.invokevirtual 25, 3) := by decide +kernel
theorem dX6_takeInt_87 : decode cX6_takeInt 87 = .ok (.iload_n 3, 1) := by decide +kernel
theorem dX6_takeInt_88 : decode cX6_takeInt 88 = .ok (.ireturn, 1) := by decide +kernel
set_option maxRecDepth 20000 in
theorem ggX6_endStatement_X6_cannotStand : GoodIn wsX6_endStatement wsX6_cannotStand := goodIn_r _ [7, 1, 8, 20, 21, 22, 23, 24, 25] rfl (by decide +kernel)
set_option maxRecDepth 20000 in
theorem gX6_endStatement_X6_cannotStand : GoodIn wsX6_endStatement (wsV RX6 43 RX6 yX6_cannotStand wsX6_cannotStand) := goodIn_app (goodIn_of _ (by decide +kernel)) ggX6_endStatement_X6_cannotStand
set_option maxRecDepth 20000 in
theorem ggX6_endStatement_X6_advance : GoodIn wsX6_endStatement wsX6_advance := goodIn_r _ [12, 13, 14, 8, 2, 15, 16, 17, 6, 18, 19, 20, 21, 22, 23, 24, 25] rfl (by decide +kernel)
set_option maxRecDepth 20000 in
theorem gX6_endStatement_X6_advance : GoodIn wsX6_endStatement (wsV RX6 25 RX6 yX6_advance wsX6_advance) := goodIn_app (goodIn_of _ (by decide +kernel)) ggX6_endStatement_X6_advance
theorem dX6_endStatement_0 : decode cX6_endStatement 0 = .ok (.aload_n 0, 1) := by decide +kernel
theorem dX6_endStatement_1 : decode cX6_endStatement 1 = .ok (.getfield 19, 3) := by decide +kernel
theorem dX6_endStatement_4 : decode cX6_endStatement 4 = .ok (.ifCond .ne 11, 3) := by decide +kernel
theorem dX6_endStatement_7 : decode cX6_endStatement 7 = .ok (.aload_n 0, 1) := by decide +kernel
theorem dX6_endStatement_8 : decode cX6_endStatement 8 = .ok (.getfield 28, 3) := by decide +kernel
theorem dX6_endStatement_11 : decode cX6_endStatement 11 = .ok (.iconst 3, 1) := by decide +kernel
theorem dX6_endStatement_12 : decode cX6_endStatement 12 = .ok (.if_icmp .eq 11, 3) := by decide +kernel
theorem dX6_endStatement_15 : decode cX6_endStatement 15 = .ok (.aload_n 0, 1) := by decide +kernel
theorem dX6_endStatement_16 : decode cX6_endStatement 16 = .ok (.invokevirtual 43, 3) := by decide +kernel
theorem dX6_endStatement_19 : decode cX6_endStatement 19 = .ok (.pop, 1) := by decide +kernel
theorem dX6_endStatement_20 : decode cX6_endStatement 20 = .ok (.goto 24, 3) := by decide +kernel
theorem dX6_endStatement_23 : decode cX6_endStatement 23 = .ok (.iload_n 2, 1) := by decide +kernel
theorem dX6_endStatement_24 : decode cX6_endStatement 24 = .ok (.ifCond .ne 16, 3) := by decide +kernel
theorem dX6_endStatement_27 : decode cX6_endStatement 27 = .ok (.aload_n 0, 1) := by decide +kernel
theorem dX6_endStatement_28 : decode cX6_endStatement 28 = .ok (.iconst 3, 1) := by decide +kernel
theorem dX6_endStatement_29 : decode cX6_endStatement 29 = .ok (.bipush 8, 2) := by decide +kernel
theorem dX6_endStatement_31 : decode cX6_endStatement 31 = .ok (.iload_n 1, 1) := by decide +kernel
theorem dX6_endStatement_32 : decode cX6_endStatement 32 = .ok (.imul, 1) := by decide +kernel
theorem dX6_endStatement_33 : decode cX6_endStatement 33 = .ok (.iadd, 1) := by decide +kernel
theorem dX6_endStatement_34 : decode cX6_endStatement 34 = .ok (.putfield 19, 3) := by decide +kernel
theorem dX6_endStatement_37 : decode cX6_endStatement 37 = .ok (.goto 7, 3) := by decide +kernel
theorem dX6_endStatement_40 : decode cX6_endStatement 40 = .ok (.aload_n 0, 1) := by decide +kernel
theorem dX6_endStatement_41 : decode cX6_endStatement 41 = .ok (.invokevirtual 25, 3) := by decide +kernel
theorem dX6_endStatement_44 : decode cX6_endStatement 44 = .ok (.return_, 1) := by decide +kernel
theorem dX6_cannotStand_0 : decode cX6_cannotStand 0 = .ok (.aload_n 0, 1) := by decide +kernel
theorem dX6_cannotStand_1 : decode cX6_cannotStand 1 = .ok (.getfield 19, 3) := by decide +kernel
theorem dX6_cannotStand_4 : decode cX6_cannotStand 4 = .ok (.ifCond .ne 16, 3) := by decide +kernel
theorem dX6_cannotStand_7 : decode cX6_cannotStand 7 = .ok (.aload_n 0, 1) := by decide +kernel
theorem dX6_cannotStand_8 : decode cX6_cannotStand 8 = .ok (.iconst 1, 1) := by decide +kernel
theorem dX6_cannotStand_9 : decode cX6_cannotStand 9 = .ok (.bipush 8, 2) := by decide +kernel
theorem dX6_cannotStand_11 : decode cX6_cannotStand 11 = .ok (.aload_n 0, 1) := by decide +kernel
theorem dX6_cannotStand_12 : decode cX6_cannotStand 12 = .ok (.getfield 31, 3) := by decide +kernel
theorem dX6_cannotStand_15 : decode cX6_cannotStand 15 = .ok (.imul, 1) := by decide +kernel
theorem dX6_cannotStand_16 : decode cX6_cannotStand 16 = .ok (.iadd, 1) := by decide +kernel
theorem dX6_cannotStand_17 : decode cX6_cannotStand 17 = .ok (.putfield 19, 3) := by decide +kernel
theorem dX6_cannotStand_20 : decode cX6_cannotStand 20 = .ok (.iconst (-1), 1) := by decide +kernel
theorem dX6_cannotStand_21 : decode cX6_cannotStand 21 = .ok (.ireturn, 1) := by decide +kernel
set_option maxRecDepth 20000 in
theorem ggX6_advance_X6_kindAt : GoodIn wsX6_advance wsX6_kindAt := goodIn_r _ [9, 2, 10, 11, 12, 13, 14, 15, 16] rfl (by decide +kernel)
set_option maxRecDepth 20000 in
theorem gX6_advance_X6_kindAt : GoodIn wsX6_advance (wsV RX6 50 RX6 yX6_kindAt wsX6_kindAt) := goodIn_app (goodIn_of _ (by decide +kernel)) ggX6_advance_X6_kindAt
theorem dX6_advance_0 : decode cX6_advance 0 = .ok (.aload_n 0, 1) := by decide +kernel
theorem dX6_advance_1 : decode cX6_advance 1 = .ok (.getfield 22, 3) := by decide +kernel
theorem dX6_advance_4 : decode cX6_advance 4 = .ok (.aload_n 0, 1) := by decide +kernel
theorem dX6_advance_5 : decode cX6_advance 5 = .ok (.getfield 15, 3) := by decide +kernel
theorem dX6_advance_8 : decode cX6_advance 8 = .ok (.if_icmp .ge 28, 3) := by decide +kernel
theorem dX6_advance_11 : decode cX6_advance 11 = .ok (.aload_n 0, 1) := by decide +kernel
theorem dX6_advance_12 : decode cX6_advance 12 = .ok (.aload_n 0, 1) := by decide +kernel
theorem dX6_advance_13 : decode cX6_advance 13 = .ok (.getfield 22, 3) := by decide +kernel
theorem dX6_advance_16 : decode cX6_advance 16 = .ok (.invokevirtual 50, 3) := by decide +kernel
theorem dX6_advance_19 : decode cX6_advance 19 = .ok (.iconst 4, 1) := by decide +kernel
theorem dX6_advance_20 : decode cX6_advance 20 = .ok (.if_icmp .ne 16, 3) := by decide +kernel
theorem dX6_advance_23 : decode cX6_advance 23 = .ok (.aload_n 0, 1) := by decide +kernel
theorem dX6_advance_24 : decode cX6_advance 24 = .ok (.dup, 1) := by decide +kernel
theorem dX6_advance_25 : decode cX6_advance 25 = .ok (.getfield 22, 3) := by decide +kernel
theorem dX6_advance_28 : decode cX6_advance 28 = .ok (.iconst 1, 1) := by decide +kernel
theorem dX6_advance_29 : decode cX6_advance 29 = .ok (.iadd, 1) := by decide +kernel
theorem dX6_advance_30 : decode cX6_advance 30 = .ok (.putfield 22, 3) := by decide +kernel
theorem dX6_advance_33 : decode cX6_advance 33 = .ok (.goto (-33), 3) := by decide +kernel
theorem dX6_advance_36 : decode cX6_advance 36 = .ok (.aload_n 0, 1) := by decide +kernel
theorem dX6_advance_37 : decode cX6_advance 37 = .ok (.aload_n 0, 1) := by decide +kernel
theorem dX6_advance_38 : decode cX6_advance 38 = .ok (.getfield 22, 3) := by decide +kernel
theorem dX6_advance_41 : decode cX6_advance 41 = .ok (.putfield 31, 3) := by decide +kernel
theorem dX6_advance_44 : decode cX6_advance 44 = .ok (.aload_n 0, 1) := by decide +kernel
theorem dX6_advance_45 : decode cX6_advance 45 = .ok (.aload_n 0, 1) := by decide +kernel
theorem dX6_advance_46 : decode cX6_advance 46 = .ok (.aload_n 0, 1) := by decide +kernel
theorem dX6_advance_47 : decode cX6_advance 47 = .ok (.getfield 31, 3) := by decide +kernel
theorem dX6_advance_50 : decode cX6_advance 50 = .ok (.invokevirtual 50, 3) := by decide +kernel
theorem dX6_advance_53 : decode cX6_advance 53 = .ok (.putfield 28, 3) := by decide +kernel
theorem dX6_advance_56 : decode cX6_advance 56 = .ok (.aload_n 0, 1) := by decide +kernel
theorem dX6_advance_57 : decode cX6_advance 57 = .ok (.getfield 28, 3) := by decide +kernel
theorem dX6_advance_60 : decode cX6_advance 60 = .ok (.iconst 3, 1) := by decide +kernel
theorem dX6_advance_61 : decode cX6_advance 61 = .ok (.if_icmp .ne 16, 3) := by decide +kernel
theorem dX6_advance_64 : decode cX6_advance 64 = .ok (.aload_n 0, 1) := by decide +kernel
theorem dX6_advance_65 : decode cX6_advance 65 = .ok (.dup, 1) := by decide +kernel
theorem dX6_advance_66 : decode cX6_advance 66 = .ok (.getfield 22, 3) := by decide +kernel
theorem dX6_advance_69 : decode cX6_advance 69 = .ok (.iconst 1, 1) := by decide +kernel
theorem dX6_advance_70 : decode cX6_advance 70 = .ok (.iadd, 1) := by decide +kernel
theorem dX6_advance_71 : decode cX6_advance 71 = .ok (.putfield 22, 3) := by decide +kernel
theorem dX6_advance_74 : decode cX6_advance 74 = .ok (.goto 58, 3) := by decide +kernel
theorem dX6_advance_77 : decode cX6_advance 77 = .ok (.aload_n 0, 1) := by decide +kernel
theorem dX6_advance_78 : decode cX6_advance 78 = .ok (.getfield 28, 3) := by decide +kernel
theorem dX6_advance_81 : decode cX6_advance 81 = .ok (.iconst 1, 1) := by decide +kernel
theorem dX6_advance_82 : decode cX6_advance 82 = .ok (.if_icmp .eq 11, 3) := by decide +kernel
theorem dX6_advance_85 : decode cX6_advance 85 = .ok (.aload_n 0, 1) := by decide +kernel
theorem dX6_advance_86 : decode cX6_advance 86 = .ok (.getfield 28, 3) := by decide +kernel
theorem dX6_advance_89 : decode cX6_advance 89 = .ok (.iconst 2, 1) := by decide +kernel
theorem dX6_advance_90 : decode cX6_advance 90 = .ok (.if_icmp .ne 42, 3) := by decide +kernel
theorem dX6_advance_93 : decode cX6_advance 93 = .ok (.aload_n 0, 1) := by decide +kernel
theorem dX6_advance_94 : decode cX6_advance 94 = .ok (.getfield 22, 3) := by decide +kernel
theorem dX6_advance_97 : decode cX6_advance 97 = .ok (.aload_n 0, 1) := by decide +kernel
theorem dX6_advance_98 : decode cX6_advance 98 = .ok (.getfield 15, 3) := by decide +kernel
theorem dX6_advance_101 : decode cX6_advance 101 = .ok (.if_icmp .ge 31, 3) := by decide +kernel
theorem dX6_advance_104 : decode cX6_advance 104 = .ok (.aload_n 0, 1) := by decide +kernel
theorem dX6_advance_105 : decode cX6_advance 105 = .ok (.aload_n 0, 1) := by decide +kernel
theorem dX6_advance_106 : decode cX6_advance 106 = .ok (.getfield 22, 3) := by decide +kernel
theorem dX6_advance_109 : decode cX6_advance 109 = .ok (.invokevirtual 50, 3) := by decide +kernel
theorem dX6_advance_112 : decode cX6_advance 112 = .ok (.aload_n 0, 1) := by decide +kernel
theorem dX6_advance_113 : decode cX6_advance 113 = .ok (.getfield 28, 3) := by decide +kernel
theorem dX6_advance_116 : decode cX6_advance 116 = .ok (.if_icmp .ne 16, 3) := by decide +kernel
theorem dX6_advance_119 : decode cX6_advance 119 = .ok (.aload_n 0, 1) := by decide +kernel
theorem dX6_advance_120 : decode cX6_advance 120 = .ok (.dup, 1) := by decide +kernel
theorem dX6_advance_121 : decode cX6_advance 121 = .ok (.getfield 22, 3) := by decide +kernel
theorem dX6_advance_124 : decode cX6_advance 124 = .ok (.iconst 1, 1) := by decide +kernel
theorem dX6_advance_125 : decode cX6_advance 125 = .ok (.iadd, 1) := by decide +kernel
theorem dX6_advance_126 : decode cX6_advance 126 = .ok (.putfield 22, 3) := by decide +kernel
theorem dX6_advance_129 : decode cX6_advance 129 = .ok (.goto (-36), 3) := by decide +kernel
theorem dX6_advance_132 : decode cX6_advance 132 = .ok (.aload_n 0, 1) := by decide +kernel
theorem dX6_advance_133 : decode cX6_advance 133 = .ok (.getfield 28, 3) := by decide +kernel
theorem dX6_advance_136 : decode cX6_advance 136 = .ok (.iconst 2, 1) := by decide +kernel
theorem dX6_advance_137 : decode cX6_advance 137 = .ok (.if_icmp .ne 22, 3) := by decide +kernel
theorem dX6_advance_140 : decode cX6_advance 140 = .ok (.aload_n 0, 1) := by decide +kernel
theorem dX6_advance_141 : decode cX6_advance 141 = .ok (.getfield 22, 3) := by decide +kernel
theorem dX6_advance_144 : decode cX6_advance 144 = .ok (.aload_n 0, 1) := by decide +kernel
theorem dX6_advance_145 : decode cX6_advance 145 = .ok (.getfield 31, 3) := by decide +kernel
theorem dX6_advance_148 : decode cX6_advance 148 = .ok (.isub, 1) := by decide +kernel
theorem dX6_advance_149 : decode cX6_advance 149 = .ok (.bipush 6, 2) := by decide +kernel
theorem dX6_advance_151 : decode cX6_advance 151 = .ok (.if_icmp .le 8, 3) := by decide +kernel
theorem dX6_advance_154 : decode cX6_advance 154 = .ok (.aload_n 0, 1) := by decide +kernel
theorem dX6_advance_155 : decode cX6_advance 155 = .ok (.iconst 5, 1) := by decide +kernel
theorem dX6_advance_156 : decode cX6_advance 156 = .ok (.putfield 28, 3) := by decide +kernel
theorem dX6_advance_159 : decode cX6_advance 159 = .ok (.return_, 1) := by decide +kernel
theorem dX6_kindAt_0 : decode cX6_kindAt 0 = .ok (.iload_n 1, 1) := by decide +kernel
theorem dX6_kindAt_1 : decode cX6_kindAt 1 = .ok (.aload_n 0, 1) := by decide +kernel
theorem dX6_kindAt_2 : decode cX6_kindAt 2 = .ok (.getfield 15, 3) := by decide +kernel
theorem dX6_kindAt_5 : decode cX6_kindAt 5 = .ok (.if_icmp .lt 5, 3) := by decide +kernel
theorem dX6_kindAt_8 : decode cX6_kindAt 8 = .ok (.iconst 0, 1) := by decide +kernel
theorem dX6_kindAt_9 : decode cX6_kindAt 9 = .ok (.ireturn, 1) := by decide +kernel
theorem dX6_kindAt_10 : decode cX6_kindAt 10 = .ok (.aload_n 0, 1) := by decide +kernel
theorem dX6_kindAt_11 : decode cX6_kindAt 11 = .ok (.getfield 9, 3) := by decide +kernel
theorem dX6_kindAt_14 : decode cX6_kindAt 14 = .ok (.iload_n 1, 1) := by decide +kernel
theorem dX6_kindAt_15 : decode cX6_kindAt 15 = .ok (.baload, 1) := by decide +kernel
theorem dX6_kindAt_16 : decode cX6_kindAt 16 = .ok (.istore_n 2, 1) := by decide +kernel
theorem dX6_kindAt_17 : decode cX6_kindAt 17 = .ok (.iload_n 2, 1) := by decide +kernel
theorem dX6_kindAt_18 : decode cX6_kindAt 18 = .ok (.bipush 32, 2) := by decide +kernel
theorem dX6_kindAt_20 : decode cX6_kindAt 20 = .ok (.if_icmp .eq 9, 3) := by decide +kernel
theorem dX6_kindAt_23 : decode cX6_kindAt 23 = .ok (.iload_n 2, 1) := by decide +kernel
theorem dX6_kindAt_24 : decode cX6_kindAt 24 = .ok (.bipush 10, 2) := by decide +kernel
theorem dX6_kindAt_26 : decode cX6_kindAt 26 = .ok (.if_icmp .ne 5, 3) := by decide +kernel
theorem dX6_kindAt_29 : decode cX6_kindAt 29 = .ok (.iconst 4, 1) := by decide +kernel
theorem dX6_kindAt_30 : decode cX6_kindAt 30 = .ok (.ireturn, 1) := by decide +kernel
theorem dX6_kindAt_31 : decode cX6_kindAt 31 = .ok (.iload_n 2, 1) := by decide +kernel
theorem dX6_kindAt_32 : decode cX6_kindAt 32 = .ok (.bipush 97, 2) := by decide +kernel
theorem dX6_kindAt_34 : decode cX6_kindAt 34 = .ok (.if_icmp .lt 11, 3) := by decide +kernel
theorem dX6_kindAt_37 : decode cX6_kindAt 37 = .ok (.iload_n 2, 1) := by decide +kernel
theorem dX6_kindAt_38 : decode cX6_kindAt 38 = .ok (.bipush 122, 2) := by decide +kernel
theorem dX6_kindAt_40 : decode cX6_kindAt 40 = .ok (.if_icmp .gt 5, 3) := by decide +kernel
theorem dX6_kindAt_43 : decode cX6_kindAt 43 = .ok (.iconst 1, 1) := by decide +kernel
theorem dX6_kindAt_44 : decode cX6_kindAt 44 = .ok (.ireturn, 1) := by decide +kernel
theorem dX6_kindAt_45 : decode cX6_kindAt 45 = .ok (.iload_n 2, 1) := by decide +kernel
theorem dX6_kindAt_46 : decode cX6_kindAt 46 = .ok (.bipush 48, 2) := by decide +kernel
theorem dX6_kindAt_48 : decode cX6_kindAt 48 = .ok (.if_icmp .lt 11, 3) := by decide +kernel
theorem dX6_kindAt_51 : decode cX6_kindAt 51 = .ok (.iload_n 2, 1) := by decide +kernel
theorem dX6_kindAt_52 : decode cX6_kindAt 52 = .ok (.bipush 57, 2) := by decide +kernel
theorem dX6_kindAt_54 : decode cX6_kindAt 54 = .ok (.if_icmp .gt 5, 3) := by decide +kernel
theorem dX6_kindAt_57 : decode cX6_kindAt 57 = .ok (.iconst 2, 1) := by decide +kernel
theorem dX6_kindAt_58 : decode cX6_kindAt 58 = .ok (.ireturn, 1) := by decide +kernel
theorem dX6_kindAt_59 : decode cX6_kindAt 59 = .ok (.iload_n 2, 1) := by decide +kernel
theorem dX6_kindAt_60 : decode cX6_kindAt 60 = .ok (.bipush 59, 2) := by decide +kernel
theorem dX6_kindAt_62 : decode cX6_kindAt 62 = .ok (.if_icmp .ne 7, 3) := by decide +kernel
theorem dX6_kindAt_65 : decode cX6_kindAt 65 = .ok (.iconst 3, 1) := by decide +kernel
theorem dX6_kindAt_66 : decode cX6_kindAt 66 = .ok (.goto 4, 3) := by decide +kernel
theorem dX6_kindAt_69 : decode cX6_kindAt 69 = .ok (.iconst 5, 1) := by decide +kernel
theorem dX6_kindAt_70 : decode cX6_kindAt 70 = .ok (.ireturn, 1) := by decide +kernel
set_option maxRecDepth 20000 in
theorem ggX7_tellStatement_X6_takes : GoodIn wsX7_tellStatement wsX6_takes := goodIn_r _ [4, 5, 6, 7, 8, 9, 10, 11, 12, 13, 14, 15, 16, 17, 18, 19, 20, 21, 22, 23, 24, 25, 26, 27, 28, 29, 30, 31, 32, 33, 34, 35, 36, 37, 38, 39, 40, 41, 42, 43, 44, 45, 46, 47, 48, 49, 50, 51, 52, 53, 54, 55, 56, 57, 58, 59, 60, 61, 2, 62, 63, 64, 65, 66, 67, 314, 315, 316, 317, 318, 319] rfl (by decide +kernel)
set_option maxRecDepth 20000 in
theorem gX7_tellStatement_X6_takes_n11 : GoodIn wsX7_tellStatement (wsX6_takes) := ggX7_tellStatement_X6_takes
set_option maxRecDepth 20000 in
theorem ggX7_tellStatement_X3_addTeam : GoodIn wsX7_tellStatement wsX3_addTeam := goodIn_r _ [71, 72, 320, 321, 322, 323, 324, 325, 326, 327, 328, 329] rfl (by decide +kernel)
set_option maxRecDepth 20000 in
theorem gX7_tellStatement_X3_addTeam_n17 : GoodIn wsX7_tellStatement (wsX3_addTeam) := ggX7_tellStatement_X3_addTeam
set_option maxRecDepth 20000 in
theorem ggX7_tellStatement_X7_tellRider : GoodIn wsX7_tellStatement wsX7_tellRider := goodIn_r _ [76, 77, 2, 78, 79, 5, 6, 8, 7, 9, 80, 81, 82, 83, 84, 85, 86, 59, 60, 61, 62, 63, 64, 65, 66, 67, 87, 69, 88, 89, 90, 72, 91, 92, 93, 94, 95, 96, 97, 98, 99, 100, 320, 321, 322, 323, 324, 325, 326, 327, 328, 329, 314, 315, 316, 317, 318, 319, 330, 331, 332, 333, 334, 335, 336, 337, 338, 339, 340, 341, 342, 343, 344, 345, 346, 347, 348, 349] rfl (by decide +kernel)
set_option maxRecDepth 20000 in
theorem gX7_tellStatement_X7_tellRider : GoodIn wsX7_tellStatement (va_wsS RX7 25 yX7_tellRider wsX7_tellRider) := goodIn_app (goodIn_of _ (by decide +kernel)) ggX7_tellStatement_X7_tellRider
set_option maxRecDepth 20000 in
theorem ggX7_tellStatement_X7_tellStage : GoodIn wsX7_tellStatement wsX7_tellStage := goodIn_r _ [103, 104, 105, 75, 106, 1, 2, 3, 4, 5, 6, 7, 8, 9, 10, 11, 12, 13, 14, 15, 16, 17, 18, 19, 20, 21, 22, 23, 24, 25, 26, 27, 28, 29, 30, 31, 32, 33, 34, 35, 36, 37, 38, 39, 40, 41, 42, 43, 44, 45, 46, 47, 48, 49, 50, 51, 52, 53, 54, 55, 56, 57, 58, 59, 60, 61, 62, 63, 64, 65, 66, 67, 81, 82, 83, 77, 78, 79, 80, 84, 85, 86, 107, 69, 108, 109, 99, 91, 100, 110, 111, 112, 113, 90, 94, 114, 115, 116, 117, 118, 119, 120, 121, 122, 123, 124, 125, 126, 127, 128, 129, 130, 131, 132, 133, 134, 135, 136, 137, 138, 139, 140, 141, 142, 143, 144, 145, 146, 147, 148, 149, 150, 151, 314, 315, 316, 317, 318, 319, 320, 321, 322, 323, 324, 325, 326, 327, 328, 329, 330, 331, 332, 333, 334, 335, 336, 337, 338, 339, 340, 341, 342, 343, 344, 345, 346, 347, 348, 349, 350, 351, 352, 353, 354, 355, 356] rfl (by decide +kernel)
set_option maxRecDepth 20000 in
theorem gX7_tellStatement_X7_tellStage : GoodIn wsX7_tellStatement (va_wsS RX7 33 yX7_tellStage wsX7_tellStage) := goodIn_app (goodIn_of _ (by decide +kernel)) ggX7_tellStatement_X7_tellStage
set_option maxRecDepth 20000 in
theorem ggX7_tellStatement_X7_tellFinishes : GoodIn wsX7_tellStatement wsX7_tellFinishes := goodIn_r _ [154, 155, 156, 2, 157, 158, 5, 6, 159, 160, 75, 161, 77, 78, 79, 8, 7, 9, 80, 81, 82, 83, 84, 85, 86, 59, 60, 61, 62, 63, 64, 65, 66, 67, 162, 69, 163, 164, 91, 100, 99, 165, 166, 167, 168, 94, 169, 170, 171, 172, 90, 173, 115, 174, 175, 131, 176, 119, 314, 315, 316, 317, 318, 319, 320, 321, 322, 323, 324, 325, 326, 327, 328, 329, 330, 331, 332, 333, 334, 335, 336, 337, 338, 339, 340, 341, 342, 343, 344, 345, 346, 347, 348, 349] rfl (by decide +kernel)
set_option maxRecDepth 20000 in
theorem gX7_tellStatement_X7_tellFinishes : GoodIn wsX7_tellStatement (va_wsS RX7 38 yX7_tellFinishes wsX7_tellFinishes) := goodIn_app (goodIn_of _ (by decide +kernel)) ggX7_tellStatement_X7_tellFinishes
set_option maxRecDepth 20000 in
theorem ggX7_tellStatement_X7_tellCrossings : GoodIn wsX7_tellStatement wsX7_tellCrossings := goodIn_r _ [179, 180, 69, 181, 182, 99, 100, 77, 2, 78, 79, 5, 6, 8, 7, 9, 80, 81, 82, 83, 84, 85, 86, 59, 60, 61, 62, 63, 64, 65, 66, 67, 156, 157, 158, 159, 160, 75, 161, 183, 184, 185, 91, 165, 166, 167, 168, 94, 169, 170, 171, 172, 90, 186, 121, 187, 188, 126, 139, 140, 189, 190, 191, 192, 320, 321, 322, 323, 324, 325, 326, 327, 328, 329, 330, 331, 332, 333, 334, 335, 336, 337, 338, 339, 340, 341, 342, 343, 344, 345, 346, 347, 348, 349, 350, 351, 352, 353, 354, 355, 356, 314, 315, 316, 317, 318, 319] rfl (by decide +kernel)
set_option maxRecDepth 20000 in
theorem gX7_tellStatement_X7_tellCrossings : GoodIn wsX7_tellStatement (va_wsS RX7 43 yX7_tellCrossings wsX7_tellCrossings) := goodIn_app (goodIn_of _ (by decide +kernel)) ggX7_tellStatement_X7_tellCrossings
set_option maxRecDepth 20000 in
theorem ggX7_tellStatement_X7_tellFall : GoodIn wsX7_tellStatement wsX7_tellFall := goodIn_r _ [195, 159, 160, 75, 161, 77, 2, 78, 79, 5, 6, 8, 7, 9, 80, 81, 82, 83, 84, 85, 86, 59, 60, 61, 62, 63, 64, 65, 66, 67, 196, 69, 197, 198, 99, 100, 1, 3, 4, 10, 11, 12, 13, 14, 15, 16, 17, 18, 19, 20, 21, 22, 23, 24, 25, 26, 27, 28, 29, 30, 31, 32, 33, 34, 35, 36, 37, 38, 39, 40, 41, 42, 43, 44, 45, 46, 47, 48, 49, 50, 51, 52, 53, 54, 55, 56, 57, 58, 199, 200, 201, 91, 165, 166, 167, 168, 94, 169, 170, 171, 172, 90, 202, 115, 203, 204, 132, 118, 133, 320, 321, 322, 323, 324, 325, 326, 327, 328, 329, 314, 315, 316, 317, 318, 319, 330, 331, 332, 333, 334, 335, 336, 337, 338, 339, 340, 341, 342, 343, 344, 345, 346, 347, 348, 349, 350, 351, 352, 353, 354, 355, 356] rfl (by decide +kernel)
set_option maxRecDepth 20000 in
theorem gX7_tellStatement_X7_tellFall : GoodIn wsX7_tellStatement (va_wsS RX7 48 yX7_tellFall wsX7_tellFall) := goodIn_app (goodIn_of _ (by decide +kernel)) ggX7_tellStatement_X7_tellFall
set_option maxRecDepth 20000 in
theorem ggX7_tellStatement_X7_tellJury : GoodIn wsX7_tellStatement wsX7_tellJury := goodIn_r _ [207, 159, 160, 75, 161, 77, 2, 78, 79, 5, 6, 8, 7, 9, 80, 81, 82, 83, 84, 85, 86, 59, 60, 61, 62, 63, 64, 65, 66, 67, 208, 69, 209, 210, 91, 100, 99, 165, 166, 167, 168, 94, 169, 170, 171, 172, 90, 211, 115, 212, 213, 134, 214, 320, 321, 322, 323, 324, 325, 326, 327, 328, 329, 314, 315, 316, 317, 318, 319, 330, 331, 332, 333, 334, 335, 336, 337, 338, 339, 340, 341, 342, 343, 344, 345, 346, 347, 348, 349] rfl (by decide +kernel)
set_option maxRecDepth 20000 in
theorem gX7_tellStatement_X7_tellJury : GoodIn wsX7_tellStatement (va_wsS RX7 53 yX7_tellJury wsX7_tellJury) := goodIn_app (goodIn_of _ (by decide +kernel)) ggX7_tellStatement_X7_tellJury
set_option maxRecDepth 20000 in
theorem ggX7_tellStatement_X7_takeRider : GoodIn wsX7_tellStatement wsX7_takeRider := goodIn_r _ [161, 77, 2, 78, 79, 5, 6, 8, 7, 9, 80, 81, 82, 83, 84, 85, 86, 59, 60, 61, 62, 63, 64, 65, 66, 67, 320, 321, 322, 323, 324, 325, 326, 327, 328, 329, 314, 315, 316, 317, 318, 319] rfl (by decide +kernel)
set_option maxRecDepth 20000 in
theorem gX7_tellStatement_X7_takeRider : GoodIn wsX7_tellStatement (va_wsS RX7 58 yX7_takeRider wsX7_takeRider) := goodIn_app (goodIn_of _ (by decide +kernel)) ggX7_tellStatement_X7_takeRider
set_option maxRecDepth 20000 in
theorem ggX7_tellStatement_X3_addGrace : GoodIn wsX7_tellStatement wsX3_addGrace := goodIn_r _ [217, 91, 100, 99, 165, 166, 167, 69, 168, 94, 169, 170, 171, 172, 90, 84, 85, 86, 218, 115, 219, 220, 135, 320, 321, 322, 323, 324, 325, 326, 327, 328, 329, 330, 331, 332, 333, 334, 335, 336, 337, 338, 339, 340, 341, 342, 343, 344, 345, 346, 347, 348, 349] rfl (by decide +kernel)
set_option maxRecDepth 20000 in
theorem gX7_tellStatement_X3_addGrace_n62 : GoodIn wsX7_tellStatement (wsX3_addGrace) := ggX7_tellStatement_X3_addGrace
set_option maxRecDepth 20000 in
theorem ggX7_tellStatement_X3_dropRider : GoodIn wsX7_tellStatement wsX3_dropRider := goodIn_r _ [223, 91, 100, 99, 94, 165, 166, 167, 69, 168, 169, 170, 171, 172, 90, 84, 85, 86, 128, 115, 129, 130, 131, 119, 132, 133, 134, 135, 118, 136, 121, 137, 138, 126, 139, 140, 320, 321, 322, 323, 324, 325, 326, 327, 328, 329, 330, 331, 332, 333, 334, 335, 336, 337, 338, 339, 340, 341, 342, 343, 344, 345, 346, 347, 348, 349, 350, 351, 352, 353, 354, 355, 356] rfl (by decide +kernel)
set_option maxRecDepth 20000 in
theorem gX7_tellStatement_X3_dropRider_n68 : GoodIn wsX7_tellStatement (wsX3_dropRider) := ggX7_tellStatement_X3_dropRider
set_option maxRecDepth 20000 in
theorem ggX7_tellStatement_X6_takeInt : GoodIn wsX7_tellStatement wsX6_takeInt := goodIn_r _ [79, 5, 6, 8, 7, 9, 80, 81, 82, 2, 83, 84, 85, 86, 59, 60, 61, 62, 63, 64, 65, 66, 67, 314, 315, 316, 317, 318, 319] rfl (by decide +kernel)
set_option maxRecDepth 20000 in
theorem gX7_tellStatement_X6_takeInt_n73 : GoodIn wsX7_tellStatement (wsX6_takeInt) := ggX7_tellStatement_X6_takeInt
set_option maxRecDepth 20000 in
theorem ggX7_tellStatement_X3_setGap : GoodIn wsX7_tellStatement wsX3_setGap := goodIn_r _ [226, 227, 84, 85, 86, 320, 321, 322, 323, 324, 325, 326, 327, 328, 329] rfl (by decide +kernel)
set_option maxRecDepth 20000 in
theorem gX7_tellStatement_X3_setGap_n77 : GoodIn wsX7_tellStatement (wsX3_setGap) := ggX7_tellStatement_X3_setGap
set_option maxRecDepth 20000 in
theorem ggX7_tellStatement_X3_setZone : GoodIn wsX7_tellStatement wsX3_setZone := goodIn_r _ [230, 231, 84, 85, 86, 320, 321, 322, 323, 324, 325, 326, 327, 328, 329] rfl (by decide +kernel)
set_option maxRecDepth 20000 in
theorem gX7_tellStatement_X3_setZone_n82 : GoodIn wsX7_tellStatement (wsX3_setZone) := ggX7_tellStatement_X3_setZone
set_option maxRecDepth 20000 in
theorem ggX7_tellStatement_X3_closeStage : GoodIn wsX7_tellStatement wsX3_closeStage := goodIn_r _ [234, 91, 100, 99, 227, 231, 235, 115, 236, 237, 131, 238, 239, 240, 241, 242, 243, 119, 244, 245, 246, 247, 248, 249, 118, 250, 251, 252, 253, 254, 255, 256, 257, 258, 259, 260, 261, 262, 263, 264, 265, 266, 267, 133, 268, 269, 270, 271, 132, 272, 273, 274, 275, 84, 85, 86, 276, 277, 278, 279, 280, 281, 282, 283, 284, 285, 286, 135, 287, 288, 289, 290, 291, 292, 293, 294, 295, 296, 297, 298, 299, 300, 301, 302, 303, 304, 305, 306, 307, 308, 309, 69, 310, 90, 94, 311, 312, 313, 320, 321, 322, 323, 324, 325, 326, 327, 328, 329, 330, 331, 332, 333, 334, 335, 336, 337, 338, 339, 340, 341, 342, 343, 344, 345, 346, 347, 348, 349, 350, 351, 352, 353, 354, 355, 356, 357, 358, 359] rfl (by decide +kernel)
set_option maxRecDepth 20000 in
theorem gX7_tellStatement_X3_closeStage_n87 : GoodIn wsX7_tellStatement (wsX3_closeStage) := ggX7_tellStatement_X3_closeStage
set_option maxRecDepth 20000 in
theorem ggX7_tellStatement_X6_cannotStand : GoodIn wsX7_tellStatement wsX6_cannotStand := goodIn_r _ [83, 5, 8, 314, 315, 316, 317, 318, 319] rfl (by decide +kernel)
set_option maxRecDepth 20000 in
theorem gX7_tellStatement_X6_cannotStand_n90 : GoodIn wsX7_tellStatement (wsX6_cannotStand) := ggX7_tellStatement_X6_cannotStand
theorem dX7_tellStatement_0 : decode cX7_tellStatement 0 = .ok (.aload_n 1, 1) := by decide +kernel
theorem dX7_tellStatement_1 : decode cX7_tellStatement 1 = .ok (.ldc 9, 2) := by decide +kernel
theorem dX7_tellStatement_3 : decode cX7_tellStatement 3 = .ok (.invokevirtual 11, 3) := by decide +kernel
theorem dX7_tellStatement_6 : decode cX7_tellStatement 6 = .ok (.ifCond .eq 17, 3) := by decide +kernel
theorem dX7_tellStatement_9 : decode cX7_tellStatement 9 = .ok (.aload_n 0, 1) := by decide +kernel
theorem dX7_tellStatement_10 : decode cX7_tellStatement 10 = .ok (.invokevirtual 17, 3) := by decide +kernel
theorem dX7_tellStatement_13 : decode cX7_tellStatement 13 = .ok (.iconst (-1), 1) := by decide +kernel
theorem dX7_tellStatement_14 : decode cX7_tellStatement 14 = .ok (.if_icmp .eq 7, 3) := by decide +kernel
theorem dX7_tellStatement_17 : decode cX7_tellStatement 17 = .ok (.iconst 1, 1) := by decide +kernel
theorem dX7_tellStatement_18 : decode cX7_tellStatement 18 = .ok (.goto 4, 3) := by decide +kernel
theorem dX7_tellStatement_21 : decode cX7_tellStatement 21 = .ok (.iconst 0, 1) := by decide +kernel
theorem dX7_tellStatement_22 : decode cX7_tellStatement 22 = .ok (.ireturn, 1) := by decide +kernel
theorem dX7_tellStatement_23 : decode cX7_tellStatement 23 = .ok (.aload_n 1, 1) := by decide +kernel
theorem dX7_tellStatement_24 : decode cX7_tellStatement 24 = .ok (.ldc 23, 2) := by decide +kernel
theorem dX7_tellStatement_26 : decode cX7_tellStatement 26 = .ok (.invokevirtual 11, 3) := by decide +kernel
theorem dX7_tellStatement_29 : decode cX7_tellStatement 29 = .ok (.ifCond .eq 9, 3) := by decide +kernel
theorem dX7_tellStatement_32 : decode cX7_tellStatement 32 = .ok (.aload_n 0, 1) := by decide +kernel
theorem dX7_tellStatement_33 : decode cX7_tellStatement 33 = .ok (.aload_n 1, 1) := by decide +kernel
theorem dX7_tellStatement_34 : decode cX7_tellStatement 34 = .ok (.invokestatic 25, 3) := by decide +kernel
theorem dX7_tellStatement_37 : decode cX7_tellStatement 37 = .ok (.ireturn, 1) := by decide +kernel
theorem dX7_tellStatement_38 : decode cX7_tellStatement 38 = .ok (.aload_n 1, 1) := by decide +kernel
theorem dX7_tellStatement_39 : decode cX7_tellStatement 39 = .ok (.ldc 31, 2) := by decide +kernel
theorem dX7_tellStatement_41 : decode cX7_tellStatement 41 = .ok (.invokevirtual 11, 3) := by decide +kernel
theorem dX7_tellStatement_44 : decode cX7_tellStatement 44 = .ok (.ifCond .eq 9, 3) := by decide +kernel
theorem dX7_tellStatement_47 : decode cX7_tellStatement 47 = .ok (.aload_n 0, 1) := by decide +kernel
theorem dX7_tellStatement_48 : decode cX7_tellStatement 48 = .ok (.aload_n 1, 1) := by decide +kernel
theorem dX7_tellStatement_49 : decode cX7_tellStatement 49 = .ok (.invokestatic 33, 3) := by decide +kernel
theorem dX7_tellStatement_52 : decode cX7_tellStatement 52 = .ok (.ireturn, 1) := by decide +kernel
theorem dX7_tellStatement_53 : decode cX7_tellStatement 53 = .ok (.aload_n 1, 1) := by decide +kernel
theorem dX7_tellStatement_54 : decode cX7_tellStatement 54 = .ok (.ldc 36, 2) := by decide +kernel
theorem dX7_tellStatement_56 : decode cX7_tellStatement 56 = .ok (.invokevirtual 11, 3) := by decide +kernel
theorem dX7_tellStatement_59 : decode cX7_tellStatement 59 = .ok (.ifCond .eq 9, 3) := by decide +kernel
theorem dX7_tellStatement_62 : decode cX7_tellStatement 62 = .ok (.aload_n 0, 1) := by decide +kernel
theorem dX7_tellStatement_63 : decode cX7_tellStatement 63 = .ok (.aload_n 1, 1) := by decide +kernel
theorem dX7_tellStatement_64 : decode cX7_tellStatement 64 = .ok (.invokestatic 38, 3) := by decide +kernel
theorem dX7_tellStatement_67 : decode cX7_tellStatement 67 = .ok (.ireturn, 1) := by decide +kernel
theorem dX7_tellStatement_68 : decode cX7_tellStatement 68 = .ok (.aload_n 1, 1) := by decide +kernel
theorem dX7_tellStatement_69 : decode cX7_tellStatement 69 = .ok (.ldc 41, 2) := by decide +kernel
theorem dX7_tellStatement_71 : decode cX7_tellStatement 71 = .ok (.invokevirtual 11, 3) := by decide +kernel
theorem dX7_tellStatement_74 : decode cX7_tellStatement 74 = .ok (.ifCond .eq 9, 3) := by decide +kernel
theorem dX7_tellStatement_77 : decode cX7_tellStatement 77 = .ok (.aload_n 0, 1) := by decide +kernel
theorem dX7_tellStatement_78 : decode cX7_tellStatement 78 = .ok (.aload_n 1, 1) := by decide +kernel
theorem dX7_tellStatement_79 : decode cX7_tellStatement 79 = .ok (.invokestatic 43, 3) := by decide +kernel
theorem dX7_tellStatement_82 : decode cX7_tellStatement 82 = .ok (.ireturn, 1) := by decide +kernel
theorem dX7_tellStatement_83 : decode cX7_tellStatement 83 = .ok (.aload_n 1, 1) := by decide +kernel
theorem dX7_tellStatement_84 : decode cX7_tellStatement 84 = .ok (.ldc 46, 2) := by decide +kernel
theorem dX7_tellStatement_86 : decode cX7_tellStatement 86 = .ok (.invokevirtual 11, 3) := by decide +kernel
theorem dX7_tellStatement_89 : decode cX7_tellStatement 89 = .ok (.ifCond .eq 9, 3) := by decide +kernel
theorem dX7_tellStatement_92 : decode cX7_tellStatement 92 = .ok (.aload_n 0, 1) := by decide +kernel
theorem dX7_tellStatement_93 : decode cX7_tellStatement 93 = .ok (.aload_n 1, 1) := by decide +kernel
theorem dX7_tellStatement_94 : decode cX7_tellStatement 94 = .ok (.invokestatic 48, 3) := by decide +kernel
theorem dX7_tellStatement_97 : decode cX7_tellStatement 97 = .ok (.ireturn, 1) := by decide +kernel
theorem dX7_tellStatement_98 : decode cX7_tellStatement 98 = .ok (.aload_n 1, 1) := by decide +kernel
theorem dX7_tellStatement_99 : decode cX7_tellStatement 99 = .ok (.ldc 51, 2) := by decide +kernel
theorem dX7_tellStatement_101 : decode cX7_tellStatement 101 = .ok (.invokevirtual 11, 3) := by decide +kernel
theorem dX7_tellStatement_104 : decode cX7_tellStatement 104 = .ok (.ifCond .eq 9, 3) := by decide +kernel
theorem dX7_tellStatement_107 : decode cX7_tellStatement 107 = .ok (.aload_n 0, 1) := by decide +kernel
theorem dX7_tellStatement_108 : decode cX7_tellStatement 108 = .ok (.aload_n 1, 1) := by decide +kernel
theorem dX7_tellStatement_109 : decode cX7_tellStatement 109 = .ok (.invokestatic 53, 3) := by decide +kernel
theorem dX7_tellStatement_112 : decode cX7_tellStatement 112 = .ok (.ireturn, 1) := by decide +kernel
theorem dX7_tellStatement_113 : decode cX7_tellStatement 113 = .ok (.aload_n 1, 1) := by decide +kernel
theorem dX7_tellStatement_114 : decode cX7_tellStatement 114 = .ok (.ldc 56, 2) := by decide +kernel
theorem dX7_tellStatement_116 : decode cX7_tellStatement 116 = .ok (.invokevirtual 11, 3) := by decide +kernel
theorem dX7_tellStatement_119 : decode cX7_tellStatement 119 = .ok (.ifCond .eq 13, 3) := by decide +kernel
theorem dX7_tellStatement_122 : decode cX7_tellStatement 122 = .ok (.aload_n 0, 1) := by decide +kernel
theorem dX7_tellStatement_123 : decode cX7_tellStatement 123 = .ok (.aload_n 0, 1) := by decide +kernel
theorem dX7_tellStatement_124 : decode cX7_tellStatement 124 = .ok (.aload_n 1, 1) := by decide +kernel
theorem dX7_tellStatement_125 : decode cX7_tellStatement 125 = .ok (.invokestatic 58, 3) := by decide +kernel
theorem dX7_tellStatement_128 : decode cX7_tellStatement 128 = .ok (.invokevirtual 62, 3) := by decide +kernel
theorem dX7_tellStatement_131 : decode cX7_tellStatement 131 = .ok (.ireturn, 1) := by decide +kernel
theorem dX7_tellStatement_132 : decode cX7_tellStatement 132 = .ok (.aload_n 1, 1) := by decide +kernel
theorem dX7_tellStatement_133 : decode cX7_tellStatement 133 = .ok (.ldc 66, 2) := by decide +kernel
theorem dX7_tellStatement_135 : decode cX7_tellStatement 135 = .ok (.invokevirtual 11, 3) := by decide +kernel
theorem dX7_tellStatement_138 : decode cX7_tellStatement 138 = .ok (.ifCond .eq 13, 3) := by decide +kernel
theorem dX7_tellStatement_141 : decode cX7_tellStatement 141 = .ok (.aload_n 0, 1) := by decide +kernel
theorem dX7_tellStatement_142 : decode cX7_tellStatement 142 = .ok (.aload_n 0, 1) := by decide +kernel
theorem dX7_tellStatement_143 : decode cX7_tellStatement 143 = .ok (.aload_n 1, 1) := by decide +kernel
theorem dX7_tellStatement_144 : decode cX7_tellStatement 144 = .ok (.invokestatic 58, 3) := by decide +kernel
theorem dX7_tellStatement_147 : decode cX7_tellStatement 147 = .ok (.invokevirtual 68, 3) := by decide +kernel
theorem dX7_tellStatement_150 : decode cX7_tellStatement 150 = .ok (.ireturn, 1) := by decide +kernel
theorem dX7_tellStatement_151 : decode cX7_tellStatement 151 = .ok (.aload_n 1, 1) := by decide +kernel
theorem dX7_tellStatement_152 : decode cX7_tellStatement 152 = .ok (.ldc 71, 2) := by decide +kernel
theorem dX7_tellStatement_154 : decode cX7_tellStatement 154 = .ok (.invokevirtual 11, 3) := by decide +kernel
theorem dX7_tellStatement_157 : decode cX7_tellStatement 157 = .ok (.ifCond .eq 15, 3) := by decide +kernel
theorem dX7_tellStatement_160 : decode cX7_tellStatement 160 = .ok (.aload_n 0, 1) := by decide +kernel
theorem dX7_tellStatement_161 : decode cX7_tellStatement 161 = .ok (.aload_n 1, 1) := by decide +kernel
theorem dX7_tellStatement_162 : decode cX7_tellStatement 162 = .ok (.iconst 1, 1) := by decide +kernel
theorem dX7_tellStatement_163 : decode cX7_tellStatement 163 = .ok (.bipush 99, 2) := by decide +kernel
theorem dX7_tellStatement_165 : decode cX7_tellStatement 165 = .ok (.invokevirtual 73, 3) := by decide +kernel
theorem dX7_tellStatement_168 : decode cX7_tellStatement 168 = .ok (.invokevirtual 77, 3) := by decide +kernel
theorem dX7_tellStatement_171 : decode cX7_tellStatement 171 = .ok (.ireturn, 1) := by decide +kernel
theorem dX7_tellStatement_172 : decode cX7_tellStatement 172 = .ok (.aload_n 1, 1) := by decide +kernel
theorem dX7_tellStatement_173 : decode cX7_tellStatement 173 = .ok (.ldc 80, 2) := by decide +kernel
theorem dX7_tellStatement_175 : decode cX7_tellStatement 175 = .ok (.invokevirtual 11, 3) := by decide +kernel
theorem dX7_tellStatement_178 : decode cX7_tellStatement 178 = .ok (.ifCond .eq 15, 3) := by decide +kernel
theorem dX7_tellStatement_181 : decode cX7_tellStatement 181 = .ok (.aload_n 0, 1) := by decide +kernel
theorem dX7_tellStatement_182 : decode cX7_tellStatement 182 = .ok (.aload_n 1, 1) := by decide +kernel
theorem dX7_tellStatement_183 : decode cX7_tellStatement 183 = .ok (.iconst 0, 1) := by decide +kernel
theorem dX7_tellStatement_184 : decode cX7_tellStatement 184 = .ok (.bipush 9, 2) := by decide +kernel
theorem dX7_tellStatement_186 : decode cX7_tellStatement 186 = .ok (.invokevirtual 73, 3) := by decide +kernel
theorem dX7_tellStatement_189 : decode cX7_tellStatement 189 = .ok (.invokevirtual 82, 3) := by decide +kernel
theorem dX7_tellStatement_192 : decode cX7_tellStatement 192 = .ok (.ireturn, 1) := by decide +kernel
theorem dX7_tellStatement_193 : decode cX7_tellStatement 193 = .ok (.aload_n 1, 1) := by decide +kernel
theorem dX7_tellStatement_194 : decode cX7_tellStatement 194 = .ok (.ldc 85, 2) := by decide +kernel
theorem dX7_tellStatement_196 : decode cX7_tellStatement 196 = .ok (.invokevirtual 11, 3) := by decide +kernel
theorem dX7_tellStatement_199 : decode cX7_tellStatement 199 = .ok (.ifCond .eq 17, 3) := by decide +kernel
theorem dX7_tellStatement_202 : decode cX7_tellStatement 202 = .ok (.aload_n 0, 1) := by decide +kernel
theorem dX7_tellStatement_203 : decode cX7_tellStatement 203 = .ok (.invokevirtual 87, 3) := by decide +kernel
theorem dX7_tellStatement_206 : decode cX7_tellStatement 206 = .ok (.iconst (-1), 1) := by decide +kernel
theorem dX7_tellStatement_207 : decode cX7_tellStatement 207 = .ok (.if_icmp .eq 7, 3) := by decide +kernel
theorem dX7_tellStatement_210 : decode cX7_tellStatement 210 = .ok (.iconst 1, 1) := by decide +kernel
theorem dX7_tellStatement_211 : decode cX7_tellStatement 211 = .ok (.goto 4, 3) := by decide +kernel
theorem dX7_tellStatement_214 : decode cX7_tellStatement 214 = .ok (.iconst 0, 1) := by decide +kernel
theorem dX7_tellStatement_215 : decode cX7_tellStatement 215 = .ok (.ireturn, 1) := by decide +kernel
theorem dX7_tellStatement_216 : decode cX7_tellStatement 216 = .ok (.aload_n 1, 1) := by decide +kernel
theorem dX7_tellStatement_217 : decode cX7_tellStatement 217 = .ok (.invokevirtual 90, 3) := by decide +kernel
theorem dX7_tellStatement_220 : decode cX7_tellStatement 220 = .ok (.pop, 1) := by decide +kernel
theorem dX7_tellStatement_221 : decode cX7_tellStatement 221 = .ok (.iconst 0, 1) := by decide +kernel
theorem dX7_tellStatement_222 : decode cX7_tellStatement 222 = .ok (.ireturn, 1) := by decide +kernel
set_option maxRecDepth 20000 in
theorem ggX7_tellRider_X6_takeInt : GoodIn wsX7_tellRider wsX6_takeInt := goodIn_r _ [4, 5, 6, 7, 8, 9, 10, 11, 12, 2, 13, 14, 15, 16, 17, 18, 19, 20, 21, 22, 23, 24, 25, 52, 53, 54, 55, 56, 57] rfl (by decide +kernel)
set_option maxRecDepth 20000 in
theorem gX7_tellRider_X6_takeInt_n73 : GoodIn wsX7_tellRider (wsX6_takeInt) := ggX7_tellRider_X6_takeInt
set_option maxRecDepth 20000 in
theorem ggX7_tellRider_X3_addRider : GoodIn wsX7_tellRider wsX3_addRider := goodIn_r _ [29, 30, 31, 32, 33, 34, 35, 14, 15, 16, 36, 37, 38, 27, 39, 40, 41, 42, 43, 44, 45, 46, 47, 48, 49, 50, 51, 58, 59, 60, 61, 62, 63, 64, 65, 66, 67, 68, 69, 70, 71, 72, 73, 74, 75, 76, 77] rfl (by decide +kernel)
set_option maxRecDepth 20000 in
theorem gX7_tellRider_X3_addRider_n97 : GoodIn wsX7_tellRider (wsX3_addRider) := ggX7_tellRider_X3_addRider
theorem dX7_tellRider_0 : decode cX7_tellRider 0 = .ok (.aload_n 1, 1) := by decide +kernel
theorem dX7_tellRider_1 : decode cX7_tellRider 1 = .ok (.iconst 0, 1) := by decide +kernel
theorem dX7_tellRider_2 : decode cX7_tellRider 2 = .ok (.aload_n 0, 1) := by decide +kernel
theorem dX7_tellRider_3 : decode cX7_tellRider 3 = .ok (.getfield 93, 3) := by decide +kernel
theorem dX7_tellRider_6 : decode cX7_tellRider 6 = .ok (.iconst 1, 1) := by decide +kernel
theorem dX7_tellRider_7 : decode cX7_tellRider 7 = .ok (.isub, 1) := by decide +kernel
theorem dX7_tellRider_8 : decode cX7_tellRider 8 = .ok (.invokevirtual 73, 3) := by decide +kernel
theorem dX7_tellRider_11 : decode cX7_tellRider 11 = .ok (.istore_n 2, 1) := by decide +kernel
theorem dX7_tellRider_12 : decode cX7_tellRider 12 = .ok (.aload_n 1, 1) := by decide +kernel
theorem dX7_tellRider_13 : decode cX7_tellRider 13 = .ok (.bipush 16, 2) := by decide +kernel
theorem dX7_tellRider_15 : decode cX7_tellRider 15 = .ok (.bipush 50, 2) := by decide +kernel
theorem dX7_tellRider_17 : decode cX7_tellRider 17 = .ok (.invokevirtual 73, 3) := by decide +kernel
theorem dX7_tellRider_20 : decode cX7_tellRider 20 = .ok (.istore_n 3, 1) := by decide +kernel
theorem dX7_tellRider_21 : decode cX7_tellRider 21 = .ok (.aload_n 0, 1) := by decide +kernel
theorem dX7_tellRider_22 : decode cX7_tellRider 22 = .ok (.iload_n 2, 1) := by decide +kernel
theorem dX7_tellRider_23 : decode cX7_tellRider 23 = .ok (.iload_n 3, 1) := by decide +kernel
theorem dX7_tellRider_24 : decode cX7_tellRider 24 = .ok (.invokevirtual 97, 3) := by decide +kernel
theorem dX7_tellRider_27 : decode cX7_tellRider 27 = .ok (.iconst (-1), 1) := by decide +kernel
theorem dX7_tellRider_28 : decode cX7_tellRider 28 = .ok (.if_icmp .eq 7, 3) := by decide +kernel
theorem dX7_tellRider_31 : decode cX7_tellRider 31 = .ok (.iconst 1, 1) := by decide +kernel
theorem dX7_tellRider_32 : decode cX7_tellRider 32 = .ok (.goto 4, 3) := by decide +kernel
theorem dX7_tellRider_35 : decode cX7_tellRider 35 = .ok (.iconst 0, 1) := by decide +kernel
theorem dX7_tellRider_36 : decode cX7_tellRider 36 = .ok (.ireturn, 1) := by decide +kernel
set_option maxRecDepth 20000 in
theorem ggX7_tellStage_X7_takeKind : GoodIn wsX7_tellStage wsX7_takeKind := goodIn_r _ [4, 5, 6, 7, 8, 9, 10, 11, 12, 13, 14, 15, 16, 17, 18, 19, 20, 21, 22, 23, 24, 25, 26, 27, 28, 29, 30, 31, 32, 33, 34, 35, 36, 37, 38, 39, 40, 41, 42, 43, 44, 45, 46, 47, 48, 49, 50, 51, 52, 53, 54, 55, 56, 57, 58, 59, 60, 61, 62, 63, 64, 65, 66, 67, 68, 69, 70, 71, 72, 73, 74, 133, 134, 135, 136, 137, 138] rfl (by decide +kernel)
set_option maxRecDepth 20000 in
theorem gX7_tellStage_X7_takeKind : GoodIn wsX7_tellStage (va_wsS RX7 100 yX7_takeKind wsX7_takeKind) := goodIn_app (goodIn_of _ (by decide +kernel)) ggX7_tellStage_X7_takeKind
set_option maxRecDepth 20000 in
theorem ggX7_tellStage_X6_takeInt : GoodIn wsX7_tellStage wsX6_takeInt := goodIn_r _ [77, 9, 10, 12, 11, 13, 78, 72, 73, 6, 74, 79, 80, 81, 63, 64, 65, 66, 67, 68, 69, 70, 71, 133, 134, 135, 136, 137, 138] rfl (by decide +kernel)
set_option maxRecDepth 20000 in
theorem gX7_tellStage_X6_takeInt_n73 : GoodIn wsX7_tellStage (wsX6_takeInt) := ggX7_tellStage_X6_takeInt
set_option maxRecDepth 20000 in
theorem ggX7_tellStage_X3_openStage : GoodIn wsX7_tellStage wsX3_openStage := goodIn_r _ [85, 86, 87, 88, 79, 80, 81, 89, 90, 91, 83, 92, 93, 94, 95, 96, 97, 98, 99, 100, 101, 102, 103, 104, 105, 106, 107, 108, 109, 110, 111, 112, 113, 114, 115, 116, 117, 118, 119, 120, 121, 139, 140, 141, 142, 143, 144, 145, 146, 147, 148, 149, 150, 151, 152, 153, 154, 155, 156, 157, 158, 159, 160, 161, 162, 163, 164, 165, 166, 167, 168, 169, 170, 171, 172, 173, 174, 175] rfl (by decide +kernel)
set_option maxRecDepth 20000 in
theorem gX7_tellStage_X3_openStage_n104 : GoodIn wsX7_tellStage (wsX3_openStage) := ggX7_tellStage_X3_openStage
set_option maxRecDepth 20000 in
theorem ggX7_tellStage_X6_takes : GoodIn wsX7_tellStage wsX6_takes := goodIn_r _ [8, 9, 10, 11, 12, 13, 14, 15, 16, 17, 18, 19, 20, 21, 22, 23, 24, 25, 26, 27, 28, 29, 30, 31, 32, 33, 34, 35, 36, 37, 38, 39, 40, 41, 42, 43, 44, 45, 46, 47, 48, 49, 50, 51, 52, 53, 54, 55, 56, 57, 58, 59, 60, 61, 62, 63, 64, 65, 6, 66, 67, 68, 69, 70, 71, 133, 134, 135, 136, 137, 138] rfl (by decide +kernel)
set_option maxRecDepth 20000 in
theorem gX7_tellStage_X6_takes_n11 : GoodIn wsX7_tellStage (wsX6_takes) := ggX7_tellStage_X6_takes
set_option maxRecDepth 20000 in
theorem ggX7_tellStage_X7_takeHow : GoodIn wsX7_tellStage wsX7_takeHow := goodIn_r _ [124, 5, 6, 7, 8, 9, 10, 11, 12, 13, 14, 15, 16, 17, 18, 19, 20, 21, 22, 23, 24, 25, 26, 27, 28, 29, 30, 31, 32, 33, 34, 35, 36, 37, 38, 39, 40, 41, 42, 43, 44, 45, 46, 47, 48, 49, 50, 51, 52, 53, 54, 55, 56, 57, 58, 59, 60, 61, 62, 63, 64, 65, 66, 67, 68, 69, 70, 71, 75, 76, 77, 78, 72, 73, 74, 79, 80, 81, 133, 134, 135, 136, 137, 138] rfl (by decide +kernel)
set_option maxRecDepth 20000 in
theorem gX7_tellStage_X7_takeHow : GoodIn wsX7_tellStage (va_wsS RX7 109 yX7_takeHow wsX7_takeHow) := goodIn_app (goodIn_of _ (by decide +kernel)) ggX7_tellStage_X7_takeHow
set_option maxRecDepth 20000 in
theorem ggX7_tellStage_X3_addMark : GoodIn wsX7_tellStage wsX3_addMark := goodIn_r _ [127, 87, 88, 86, 128, 102, 129, 130, 107, 131, 106, 132, 120, 79, 80, 81, 139, 140, 141, 142, 143, 144, 145, 146, 147, 148, 149, 150, 151, 152, 153, 154, 155, 156, 157, 158, 159, 160, 161, 162, 163, 164, 165, 166, 167, 168, 169, 170, 171, 172, 173, 174, 175] rfl (by decide +kernel)
set_option maxRecDepth 20000 in
theorem gX7_tellStage_X3_addMark_n112 : GoodIn wsX7_tellStage (wsX3_addMark) := ggX7_tellStage_X3_addMark
theorem dX7_tellStage_0 : decode cX7_tellStage 0 = .ok (.aload_n 1, 1) := by decide +kernel
theorem dX7_tellStage_1 : decode cX7_tellStage 1 = .ok (.invokestatic 100, 3) := by decide +kernel
theorem dX7_tellStage_4 : decode cX7_tellStage 4 = .ok (.istore_n 2, 1) := by decide +kernel
theorem dX7_tellStage_5 : decode cX7_tellStage 5 = .ok (.aload_n 1, 1) := by decide +kernel
theorem dX7_tellStage_6 : decode cX7_tellStage 6 = .ok (.iconst 1, 1) := by decide +kernel
theorem dX7_tellStage_7 : decode cX7_tellStage 7 = .ok (.sipush 300, 3) := by decide +kernel
theorem dX7_tellStage_10 : decode cX7_tellStage 10 = .ok (.invokevirtual 73, 3) := by decide +kernel
theorem dX7_tellStage_13 : decode cX7_tellStage 13 = .ok (.istore_n 3, 1) := by decide +kernel
theorem dX7_tellStage_14 : decode cX7_tellStage 14 = .ok (.aload_n 0, 1) := by decide +kernel
theorem dX7_tellStage_15 : decode cX7_tellStage 15 = .ok (.iload_n 2, 1) := by decide +kernel
theorem dX7_tellStage_16 : decode cX7_tellStage 16 = .ok (.iload_n 3, 1) := by decide +kernel
theorem dX7_tellStage_17 : decode cX7_tellStage 17 = .ok (.invokevirtual 104, 3) := by decide +kernel
theorem dX7_tellStage_20 : decode cX7_tellStage 20 = .ok (.iconst (-1), 1) := by decide +kernel
theorem dX7_tellStage_21 : decode cX7_tellStage 21 = .ok (.if_icmp .eq 7, 3) := by decide +kernel
theorem dX7_tellStage_24 : decode cX7_tellStage 24 = .ok (.iconst 1, 1) := by decide +kernel
theorem dX7_tellStage_25 : decode cX7_tellStage 25 = .ok (.goto 4, 3) := by decide +kernel
theorem dX7_tellStage_28 : decode cX7_tellStage 28 = .ok (.iconst 0, 1) := by decide +kernel
theorem dX7_tellStage_29 : decode cX7_tellStage 29 = .ok (.istore 4, 2) := by decide +kernel
theorem dX7_tellStage_31 : decode cX7_tellStage 31 = .ok (.iconst 1, 1) := by decide +kernel
theorem dX7_tellStage_32 : decode cX7_tellStage 32 = .ok (.istore 5, 2) := by decide +kernel
theorem dX7_tellStage_34 : decode cX7_tellStage 34 = .ok (.iconst 0, 1) := by decide +kernel
theorem dX7_tellStage_35 : decode cX7_tellStage 35 = .ok (.istore 6, 2) := by decide +kernel
theorem dX7_tellStage_37 : decode cX7_tellStage 37 = .ok (.iload 6, 2) := by decide +kernel
theorem dX7_tellStage_39 : decode cX7_tellStage 39 = .ok (.sipush 600, 3) := by decide +kernel
theorem dX7_tellStage_42 : decode cX7_tellStage 42 = .ok (.if_icmp .ge 65, 3) := by decide +kernel
theorem dX7_tellStage_45 : decode cX7_tellStage 45 = .ok (.aload_n 1, 1) := by decide +kernel
theorem dX7_tellStage_46 : decode cX7_tellStage 46 = .ok (.ldc 107, 2) := by decide +kernel
theorem dX7_tellStage_48 : decode cX7_tellStage 48 = .ok (.invokevirtual 11, 3) := by decide +kernel
theorem dX7_tellStage_51 : decode cX7_tellStage 51 = .ok (.ifCond .eq 56, 3) := by decide +kernel
theorem dX7_tellStage_54 : decode cX7_tellStage 54 = .ok (.aload_n 1, 1) := by decide +kernel
theorem dX7_tellStage_55 : decode cX7_tellStage 55 = .ok (.iload 5, 2) := by decide +kernel
theorem dX7_tellStage_57 : decode cX7_tellStage 57 = .ok (.iload_n 3, 1) := by decide +kernel
theorem dX7_tellStage_58 : decode cX7_tellStage 58 = .ok (.iconst 1, 1) := by decide +kernel
theorem dX7_tellStage_59 : decode cX7_tellStage 59 = .ok (.isub, 1) := by decide +kernel
theorem dX7_tellStage_60 : decode cX7_tellStage 60 = .ok (.invokevirtual 73, 3) := by decide +kernel
theorem dX7_tellStage_63 : decode cX7_tellStage 63 = .ok (.istore 7, 2) := by decide +kernel
theorem dX7_tellStage_65 : decode cX7_tellStage 65 = .ok (.aload_n 1, 1) := by decide +kernel
theorem dX7_tellStage_66 : decode cX7_tellStage 66 = .ok (.invokestatic 109, 3) := by decide +kernel
theorem dX7_tellStage_69 : decode cX7_tellStage 69 = .ok (.istore 8, 2) := by decide +kernel
theorem dX7_tellStage_71 : decode cX7_tellStage 71 = .ok (.aload_n 0, 1) := by decide +kernel
theorem dX7_tellStage_72 : decode cX7_tellStage 72 = .ok (.iload 7, 2) := by decide +kernel
theorem dX7_tellStage_74 : decode cX7_tellStage 74 = .ok (.iload 8, 2) := by decide +kernel
theorem dX7_tellStage_76 : decode cX7_tellStage 76 = .ok (.invokevirtual 112, 3) := by decide +kernel
theorem dX7_tellStage_79 : decode cX7_tellStage 79 = .ok (.iconst (-1), 1) := by decide +kernel
theorem dX7_tellStage_80 : decode cX7_tellStage 80 = .ok (.if_icmp .eq 12, 3) := by decide +kernel
theorem dX7_tellStage_83 : decode cX7_tellStage 83 = .ok (.iload 4, 2) := by decide +kernel
theorem dX7_tellStage_85 : decode cX7_tellStage 85 = .ok (.ifCond .eq 7, 3) := by decide +kernel
theorem dX7_tellStage_88 : decode cX7_tellStage 88 = .ok (.iconst 1, 1) := by decide +kernel
theorem dX7_tellStage_89 : decode cX7_tellStage 89 = .ok (.goto 4, 3) := by decide +kernel
theorem dX7_tellStage_92 : decode cX7_tellStage 92 = .ok (.iconst 0, 1) := by decide +kernel
theorem dX7_tellStage_93 : decode cX7_tellStage 93 = .ok (.istore 4, 2) := by decide +kernel
theorem dX7_tellStage_95 : decode cX7_tellStage 95 = .ok (.iload 7, 2) := by decide +kernel
theorem dX7_tellStage_97 : decode cX7_tellStage 97 = .ok (.iconst 1, 1) := by decide +kernel
theorem dX7_tellStage_98 : decode cX7_tellStage 98 = .ok (.iadd, 1) := by decide +kernel
theorem dX7_tellStage_99 : decode cX7_tellStage 99 = .ok (.istore 5, 2) := by decide +kernel
theorem dX7_tellStage_101 : decode cX7_tellStage 101 = .ok (.iinc 6 1, 3) := by decide +kernel
theorem dX7_tellStage_104 : decode cX7_tellStage 104 = .ok (.goto (-67), 3) := by decide +kernel
theorem dX7_tellStage_107 : decode cX7_tellStage 107 = .ok (.iload 4, 2) := by decide +kernel
theorem dX7_tellStage_109 : decode cX7_tellStage 109 = .ok (.ireturn, 1) := by decide +kernel
set_option maxRecDepth 20000 in
theorem ggX7_takeKind_X6_takes : GoodIn wsX7_takeKind wsX6_takes := goodIn_r _ [4, 5, 6, 7, 8, 9, 10, 11, 12, 13, 14, 15, 16, 17, 18, 19, 20, 21, 22, 23, 24, 25, 26, 27, 28, 29, 30, 31, 32, 33, 34, 35, 36, 37, 38, 39, 40, 41, 42, 43, 44, 45, 46, 47, 48, 49, 50, 51, 52, 53, 54, 55, 56, 57, 58, 59, 60, 61, 2, 62, 63, 64, 65, 66, 67, 71, 72, 73, 74, 75, 76] rfl (by decide +kernel)
set_option maxRecDepth 20000 in
theorem gX7_takeKind_X6_takes_n11 : GoodIn wsX7_takeKind (wsX6_takes) := ggX7_takeKind_X6_takes
set_option maxRecDepth 20000 in
theorem ggX7_takeKind_X6_cannotStand : GoodIn wsX7_takeKind wsX6_cannotStand := goodIn_r _ [70, 5, 8, 71, 72, 73, 74, 75, 76] rfl (by decide +kernel)
set_option maxRecDepth 20000 in
theorem gX7_takeKind_X6_cannotStand_n90 : GoodIn wsX7_takeKind (wsX6_cannotStand) := ggX7_takeKind_X6_cannotStand
theorem dX7_takeKind_0 : decode cX7_takeKind 0 = .ok (.aload_n 0, 1) := by decide +kernel
theorem dX7_takeKind_1 : decode cX7_takeKind 1 = .ok (.ldc 115, 2) := by decide +kernel
theorem dX7_takeKind_3 : decode cX7_takeKind 3 = .ok (.invokevirtual 11, 3) := by decide +kernel
theorem dX7_takeKind_6 : decode cX7_takeKind 6 = .ok (.ifCond .eq 5, 3) := by decide +kernel
theorem dX7_takeKind_9 : decode cX7_takeKind 9 = .ok (.iconst 0, 1) := by decide +kernel
theorem dX7_takeKind_10 : decode cX7_takeKind 10 = .ok (.ireturn, 1) := by decide +kernel
theorem dX7_takeKind_11 : decode cX7_takeKind 11 = .ok (.aload_n 0, 1) := by decide +kernel
theorem dX7_takeKind_12 : decode cX7_takeKind 12 = .ok (.ldc 117, 2) := by decide +kernel
theorem dX7_takeKind_14 : decode cX7_takeKind 14 = .ok (.invokevirtual 11, 3) := by decide +kernel
theorem dX7_takeKind_17 : decode cX7_takeKind 17 = .ok (.ifCond .eq 5, 3) := by decide +kernel
theorem dX7_takeKind_20 : decode cX7_takeKind 20 = .ok (.iconst 1, 1) := by decide +kernel
theorem dX7_takeKind_21 : decode cX7_takeKind 21 = .ok (.ireturn, 1) := by decide +kernel
theorem dX7_takeKind_22 : decode cX7_takeKind 22 = .ok (.aload_n 0, 1) := by decide +kernel
theorem dX7_takeKind_23 : decode cX7_takeKind 23 = .ok (.ldc 119, 2) := by decide +kernel
theorem dX7_takeKind_25 : decode cX7_takeKind 25 = .ok (.invokevirtual 11, 3) := by decide +kernel
theorem dX7_takeKind_28 : decode cX7_takeKind 28 = .ok (.ifCond .eq 5, 3) := by decide +kernel
theorem dX7_takeKind_31 : decode cX7_takeKind 31 = .ok (.iconst 2, 1) := by decide +kernel
theorem dX7_takeKind_32 : decode cX7_takeKind 32 = .ok (.ireturn, 1) := by decide +kernel
theorem dX7_takeKind_33 : decode cX7_takeKind 33 = .ok (.aload_n 0, 1) := by decide +kernel
theorem dX7_takeKind_34 : decode cX7_takeKind 34 = .ok (.ldc 121, 2) := by decide +kernel
theorem dX7_takeKind_36 : decode cX7_takeKind 36 = .ok (.invokevirtual 11, 3) := by decide +kernel
theorem dX7_takeKind_39 : decode cX7_takeKind 39 = .ok (.ifCond .eq 7, 3) := by decide +kernel
theorem dX7_takeKind_42 : decode cX7_takeKind 42 = .ok (.iconst 3, 1) := by decide +kernel
theorem dX7_takeKind_43 : decode cX7_takeKind 43 = .ok (.goto 7, 3) := by decide +kernel
theorem dX7_takeKind_46 : decode cX7_takeKind 46 = .ok (.aload_n 0, 1) := by decide +kernel
theorem dX7_takeKind_47 : decode cX7_takeKind 47 = .ok (.invokevirtual 90, 3) := by decide +kernel
theorem dX7_takeKind_50 : decode cX7_takeKind 50 = .ok (.ireturn, 1) := by decide +kernel
set_option maxRecDepth 20000 in
theorem ggX7_takeHow_X6_takes : GoodIn wsX7_takeHow wsX6_takes := goodIn_r _ [4, 5, 6, 7, 8, 9, 10, 11, 12, 13, 14, 15, 16, 17, 18, 19, 20, 21, 22, 23, 24, 25, 26, 27, 28, 29, 30, 31, 32, 33, 34, 35, 36, 37, 38, 39, 40, 41, 42, 43, 44, 45, 46, 47, 48, 49, 50, 51, 52, 53, 54, 55, 56, 57, 58, 59, 60, 61, 2, 62, 63, 64, 65, 66, 67, 78, 79, 80, 81, 82, 83] rfl (by decide +kernel)
set_option maxRecDepth 20000 in
theorem gX7_takeHow_X6_takes_n11 : GoodIn wsX7_takeHow (wsX6_takes) := ggX7_takeHow_X6_takes
set_option maxRecDepth 20000 in
theorem ggX7_takeHow_X6_takeInt : GoodIn wsX7_takeHow wsX6_takeInt := goodIn_r _ [70, 5, 6, 8, 7, 9, 71, 72, 73, 2, 74, 75, 76, 77, 59, 60, 61, 62, 63, 64, 65, 66, 67, 78, 79, 80, 81, 82, 83] rfl (by decide +kernel)
set_option maxRecDepth 20000 in
theorem gX7_takeHow_X6_takeInt_n73 : GoodIn wsX7_takeHow (wsX6_takeInt) := ggX7_takeHow_X6_takeInt
set_option maxRecDepth 20000 in
theorem ggX7_takeHow_X6_cannotStand : GoodIn wsX7_takeHow wsX6_cannotStand := goodIn_r _ [74, 5, 8, 78, 79, 80, 81, 82, 83] rfl (by decide +kernel)
set_option maxRecDepth 20000 in
theorem gX7_takeHow_X6_cannotStand_n90 : GoodIn wsX7_takeHow (wsX6_cannotStand) := ggX7_takeHow_X6_cannotStand
theorem dX7_takeHow_0 : decode cX7_takeHow 0 = .ok (.aload_n 0, 1) := by decide +kernel
theorem dX7_takeHow_1 : decode cX7_takeHow 1 = .ok (.ldc 123, 2) := by decide +kernel
theorem dX7_takeHow_3 : decode cX7_takeHow 3 = .ok (.invokevirtual 11, 3) := by decide +kernel
theorem dX7_takeHow_6 : decode cX7_takeHow 6 = .ok (.ifCond .eq 5, 3) := by decide +kernel
theorem dX7_takeHow_9 : decode cX7_takeHow 9 = .ok (.iconst 0, 1) := by decide +kernel
theorem dX7_takeHow_10 : decode cX7_takeHow 10 = .ok (.ireturn, 1) := by decide +kernel
theorem dX7_takeHow_11 : decode cX7_takeHow 11 = .ok (.aload_n 0, 1) := by decide +kernel
theorem dX7_takeHow_12 : decode cX7_takeHow 12 = .ok (.ldc 125, 2) := by decide +kernel
theorem dX7_takeHow_14 : decode cX7_takeHow 14 = .ok (.invokevirtual 11, 3) := by decide +kernel
theorem dX7_takeHow_17 : decode cX7_takeHow 17 = .ok (.ifCond .eq 12, 3) := by decide +kernel
theorem dX7_takeHow_20 : decode cX7_takeHow 20 = .ok (.aload_n 0, 1) := by decide +kernel
theorem dX7_takeHow_21 : decode cX7_takeHow 21 = .ok (.iconst 1, 1) := by decide +kernel
theorem dX7_takeHow_22 : decode cX7_takeHow 22 = .ok (.iconst 4, 1) := by decide +kernel
theorem dX7_takeHow_23 : decode cX7_takeHow 23 = .ok (.invokevirtual 73, 3) := by decide +kernel
theorem dX7_takeHow_26 : decode cX7_takeHow 26 = .ok (.goto 7, 3) := by decide +kernel
theorem dX7_takeHow_29 : decode cX7_takeHow 29 = .ok (.aload_n 0, 1) := by decide +kernel
theorem dX7_takeHow_30 : decode cX7_takeHow 30 = .ok (.invokevirtual 90, 3) := by decide +kernel
theorem dX7_takeHow_33 : decode cX7_takeHow 33 = .ok (.ireturn, 1) := by decide +kernel
set_option maxRecDepth 20000 in
theorem ggX7_tellFinishes_X6_hasInt : GoodIn wsX7_tellFinishes wsX6_hasInt := goodIn_r _ [5, 6, 7, 58, 59, 60, 61, 62, 63] rfl (by decide +kernel)
set_option maxRecDepth 20000 in
theorem gX7_tellFinishes_X6_hasInt_n127 : GoodIn wsX7_tellFinishes (wsX6_hasInt) := ggX7_tellFinishes_X6_hasInt
set_option maxRecDepth 20000 in
theorem ggX7_tellFinishes_X7_takeRider : GoodIn wsX7_tellFinishes wsX7_takeRider := goodIn_r _ [11, 12, 3, 13, 14, 6, 7, 15, 16, 17, 18, 19, 20, 21, 22, 23, 24, 25, 26, 27, 28, 29, 30, 31, 32, 33, 64, 65, 66, 67, 68, 69, 70, 71, 72, 73, 58, 59, 60, 61, 62, 63] rfl (by decide +kernel)
set_option maxRecDepth 20000 in
theorem gX7_tellFinishes_X7_takeRider : GoodIn wsX7_tellFinishes (va_wsS RX7 58 yX7_takeRider wsX7_takeRider) := goodIn_app (goodIn_of _ (by decide +kernel)) ggX7_tellFinishes_X7_takeRider
set_option maxRecDepth 20000 in
theorem ggX7_tellFinishes_X6_takeInt : GoodIn wsX7_tellFinishes wsX6_takeInt := goodIn_r _ [14, 6, 7, 15, 16, 17, 18, 19, 20, 3, 21, 22, 23, 24, 25, 26, 27, 28, 29, 30, 31, 32, 33, 58, 59, 60, 61, 62, 63] rfl (by decide +kernel)
set_option maxRecDepth 20000 in
theorem gX7_tellFinishes_X6_takeInt_n73 : GoodIn wsX7_tellFinishes (wsX6_takeInt) := ggX7_tellFinishes_X6_takeInt
set_option maxRecDepth 20000 in
theorem ggX7_tellFinishes_X3_addFinish : GoodIn wsX7_tellFinishes wsX3_addFinish := goodIn_r _ [37, 38, 39, 40, 41, 42, 43, 35, 44, 45, 46, 47, 48, 49, 50, 22, 23, 24, 51, 52, 53, 54, 55, 56, 57, 64, 65, 66, 67, 68, 69, 70, 71, 72, 73, 74, 75, 76, 77, 78, 79, 80, 81, 82, 83, 84, 85, 86, 87, 88, 89, 90, 91, 92, 93] rfl (by decide +kernel)
set_option maxRecDepth 20000 in
theorem gX7_tellFinishes_X3_addFinish_n132 : GoodIn wsX7_tellFinishes (wsX3_addFinish) := ggX7_tellFinishes_X3_addFinish
theorem dX7_tellFinishes_0 : decode cX7_tellFinishes 0 = .ok (.iconst 1, 1) := by decide +kernel
theorem dX7_tellFinishes_1 : decode cX7_tellFinishes 1 = .ok (.istore_n 2, 1) := by decide +kernel
theorem dX7_tellFinishes_2 : decode cX7_tellFinishes 2 = .ok (.iconst 0, 1) := by decide +kernel
theorem dX7_tellFinishes_3 : decode cX7_tellFinishes 3 = .ok (.istore_n 3, 1) := by decide +kernel
theorem dX7_tellFinishes_4 : decode cX7_tellFinishes 4 = .ok (.iload_n 3, 1) := by decide +kernel
theorem dX7_tellFinishes_5 : decode cX7_tellFinishes 5 = .ok (.sipush 600, 3) := by decide +kernel
theorem dX7_tellFinishes_8 : decode cX7_tellFinishes 8 = .ok (.if_icmp .ge 53, 3) := by decide +kernel
theorem dX7_tellFinishes_11 : decode cX7_tellFinishes 11 = .ok (.aload_n 1, 1) := by decide +kernel
theorem dX7_tellFinishes_12 : decode cX7_tellFinishes 12 = .ok (.invokevirtual 127, 3) := by decide +kernel
theorem dX7_tellFinishes_15 : decode cX7_tellFinishes 15 = .ok (.ifCond .eq 46, 3) := by decide +kernel
theorem dX7_tellFinishes_18 : decode cX7_tellFinishes 18 = .ok (.aload_n 0, 1) := by decide +kernel
theorem dX7_tellFinishes_19 : decode cX7_tellFinishes 19 = .ok (.aload_n 1, 1) := by decide +kernel
theorem dX7_tellFinishes_20 : decode cX7_tellFinishes 20 = .ok (.invokestatic 58, 3) := by decide +kernel
theorem dX7_tellFinishes_23 : decode cX7_tellFinishes 23 = .ok (.istore 4, 2) := by decide +kernel
theorem dX7_tellFinishes_25 : decode cX7_tellFinishes 25 = .ok (.aload_n 1, 1) := by decide +kernel
theorem dX7_tellFinishes_26 : decode cX7_tellFinishes 26 = .ok (.iconst 1, 1) := by decide +kernel
theorem dX7_tellFinishes_27 : decode cX7_tellFinishes 27 = .ok (.ldc 131, 2) := by decide +kernel
theorem dX7_tellFinishes_29 : decode cX7_tellFinishes 29 = .ok (.invokevirtual 73, 3) := by decide +kernel
theorem dX7_tellFinishes_32 : decode cX7_tellFinishes 32 = .ok (.istore 5, 2) := by decide +kernel
theorem dX7_tellFinishes_34 : decode cX7_tellFinishes 34 = .ok (.aload_n 0, 1) := by decide +kernel
theorem dX7_tellFinishes_35 : decode cX7_tellFinishes 35 = .ok (.iload 4, 2) := by decide +kernel
theorem dX7_tellFinishes_37 : decode cX7_tellFinishes 37 = .ok (.iload 5, 2) := by decide +kernel
theorem dX7_tellFinishes_39 : decode cX7_tellFinishes 39 = .ok (.invokevirtual 132, 3) := by decide +kernel
theorem dX7_tellFinishes_42 : decode cX7_tellFinishes 42 = .ok (.ifCond .eq 11, 3) := by decide +kernel
theorem dX7_tellFinishes_45 : decode cX7_tellFinishes 45 = .ok (.iload_n 2, 1) := by decide +kernel
theorem dX7_tellFinishes_46 : decode cX7_tellFinishes 46 = .ok (.ifCond .eq 7, 3) := by decide +kernel
theorem dX7_tellFinishes_49 : decode cX7_tellFinishes 49 = .ok (.iconst 1, 1) := by decide +kernel
theorem dX7_tellFinishes_50 : decode cX7_tellFinishes 50 = .ok (.goto 4, 3) := by decide +kernel
theorem dX7_tellFinishes_53 : decode cX7_tellFinishes 53 = .ok (.iconst 0, 1) := by decide +kernel
theorem dX7_tellFinishes_54 : decode cX7_tellFinishes 54 = .ok (.istore_n 2, 1) := by decide +kernel
theorem dX7_tellFinishes_55 : decode cX7_tellFinishes 55 = .ok (.iinc 3 1, 3) := by decide +kernel
theorem dX7_tellFinishes_58 : decode cX7_tellFinishes 58 = .ok (.goto (-54), 3) := by decide +kernel
theorem dX7_tellFinishes_61 : decode cX7_tellFinishes 61 = .ok (.iload_n 2, 1) := by decide +kernel
theorem dX7_tellFinishes_62 : decode cX7_tellFinishes 62 = .ok (.ireturn, 1) := by decide +kernel
set_option maxRecDepth 20000 in
theorem ggX7_tellCrossings_X3_latestMarks : GoodIn wsX7_tellCrossings wsX3_latestMarks := goodIn_r _ [4, 5, 6, 64, 65, 66, 67, 68, 69, 70, 71, 72, 73, 74, 75, 76, 77, 78, 79, 80, 81, 82, 83, 84, 85, 86, 87, 88, 89, 90, 91, 92, 93, 94, 95, 96, 97, 98, 99, 100] rfl (by decide +kernel)
set_option maxRecDepth 20000 in
theorem gX7_tellCrossings_X3_latestMarks_n136 : GoodIn wsX7_tellCrossings (wsX3_latestMarks) := ggX7_tellCrossings_X3_latestMarks
set_option maxRecDepth 20000 in
theorem ggX7_tellCrossings_X6_takeInt : GoodIn wsX7_tellCrossings wsX6_takeInt := goodIn_r _ [10, 11, 12, 13, 14, 15, 16, 17, 18, 8, 19, 20, 21, 22, 23, 24, 25, 26, 27, 28, 29, 30, 31, 101, 102, 103, 104, 105, 106] rfl (by decide +kernel)
set_option maxRecDepth 20000 in
theorem gX7_tellCrossings_X6_takeInt_n73 : GoodIn wsX7_tellCrossings (wsX6_takeInt) := ggX7_tellCrossings_X6_takeInt
set_option maxRecDepth 20000 in
theorem ggX7_tellCrossings_X6_hasInt : GoodIn wsX7_tellCrossings wsX6_hasInt := goodIn_r _ [34, 11, 12, 101, 102, 103, 104, 105, 106] rfl (by decide +kernel)
set_option maxRecDepth 20000 in
theorem gX7_tellCrossings_X6_hasInt_n127 : GoodIn wsX7_tellCrossings (wsX6_hasInt) := ggX7_tellCrossings_X6_hasInt
set_option maxRecDepth 20000 in
theorem ggX7_tellCrossings_X7_takeRider : GoodIn wsX7_tellCrossings wsX7_takeRider := goodIn_r _ [38, 7, 8, 9, 10, 11, 12, 13, 14, 15, 16, 17, 18, 19, 20, 21, 22, 23, 24, 25, 26, 27, 28, 29, 30, 31, 64, 65, 66, 67, 68, 69, 70, 71, 72, 73, 101, 102, 103, 104, 105, 106] rfl (by decide +kernel)
set_option maxRecDepth 20000 in
theorem gX7_tellCrossings_X7_takeRider : GoodIn wsX7_tellCrossings (va_wsS RX7 58 yX7_takeRider wsX7_takeRider) := goodIn_app (goodIn_of _ (by decide +kernel)) ggX7_tellCrossings_X7_takeRider
set_option maxRecDepth 20000 in
theorem ggX7_tellCrossings_X3_addCrossing : GoodIn wsX7_tellCrossings wsX3_addCrossing := goodIn_r _ [41, 42, 6, 5, 43, 44, 45, 2, 46, 47, 48, 49, 50, 51, 52, 20, 21, 22, 53, 54, 55, 56, 57, 58, 59, 60, 61, 62, 63, 64, 65, 66, 67, 68, 69, 70, 71, 72, 73, 74, 75, 76, 77, 78, 79, 80, 81, 82, 83, 84, 85, 86, 87, 88, 89, 90, 91, 92, 93, 94, 95, 96, 97, 98, 99, 100] rfl (by decide +kernel)
set_option maxRecDepth 20000 in
theorem gX7_tellCrossings_X3_addCrossing_n139 : GoodIn wsX7_tellCrossings (wsX3_addCrossing) := ggX7_tellCrossings_X3_addCrossing
theorem dX7_tellCrossings_0 : decode cX7_tellCrossings 0 = .ok (.aload_n 1, 1) := by decide +kernel
theorem dX7_tellCrossings_1 : decode cX7_tellCrossings 1 = .ok (.iconst 0, 1) := by decide +kernel
theorem dX7_tellCrossings_2 : decode cX7_tellCrossings 2 = .ok (.aload_n 0, 1) := by decide +kernel
theorem dX7_tellCrossings_3 : decode cX7_tellCrossings 3 = .ok (.invokevirtual 136, 3) := by decide +kernel
theorem dX7_tellCrossings_6 : decode cX7_tellCrossings 6 = .ok (.iconst 1, 1) := by decide +kernel
theorem dX7_tellCrossings_7 : decode cX7_tellCrossings 7 = .ok (.isub, 1) := by decide +kernel
theorem dX7_tellCrossings_8 : decode cX7_tellCrossings 8 = .ok (.invokevirtual 73, 3) := by decide +kernel
theorem dX7_tellCrossings_11 : decode cX7_tellCrossings 11 = .ok (.istore_n 2, 1) := by decide +kernel
theorem dX7_tellCrossings_12 : decode cX7_tellCrossings 12 = .ok (.iconst 1, 1) := by decide +kernel
theorem dX7_tellCrossings_13 : decode cX7_tellCrossings 13 = .ok (.istore_n 3, 1) := by decide +kernel
theorem dX7_tellCrossings_14 : decode cX7_tellCrossings 14 = .ok (.iconst 0, 1) := by decide +kernel
theorem dX7_tellCrossings_15 : decode cX7_tellCrossings 15 = .ok (.istore 4, 2) := by decide +kernel
theorem dX7_tellCrossings_17 : decode cX7_tellCrossings 17 = .ok (.iload 4, 2) := by decide +kernel
theorem dX7_tellCrossings_19 : decode cX7_tellCrossings 19 = .ok (.sipush 600, 3) := by decide +kernel
theorem dX7_tellCrossings_22 : decode cX7_tellCrossings 22 = .ok (.if_icmp .ge 40, 3) := by decide +kernel
theorem dX7_tellCrossings_25 : decode cX7_tellCrossings 25 = .ok (.aload_n 1, 1) := by decide +kernel
theorem dX7_tellCrossings_26 : decode cX7_tellCrossings 26 = .ok (.invokevirtual 127, 3) := by decide +kernel
theorem dX7_tellCrossings_29 : decode cX7_tellCrossings 29 = .ok (.ifCond .eq 33, 3) := by decide +kernel
theorem dX7_tellCrossings_32 : decode cX7_tellCrossings 32 = .ok (.aload_n 0, 1) := by decide +kernel
theorem dX7_tellCrossings_33 : decode cX7_tellCrossings 33 = .ok (.iload_n 2, 1) := by decide +kernel
theorem dX7_tellCrossings_34 : decode cX7_tellCrossings 34 = .ok (.aload_n 0, 1) := by decide +kernel
theorem dX7_tellCrossings_35 : decode cX7_tellCrossings 35 = .ok (.aload_n 1, 1) := by decide +kernel
theorem dX7_tellCrossings_36 : decode cX7_tellCrossings 36 = .ok (.invokestatic 58, 3) := by decide +kernel
theorem dX7_tellCrossings_39 : decode cX7_tellCrossings 39 = .ok (.invokevirtual 139, 3) := by decide +kernel
theorem dX7_tellCrossings_42 : decode cX7_tellCrossings 42 = .ok (.iconst (-1), 1) := by decide +kernel
theorem dX7_tellCrossings_43 : decode cX7_tellCrossings 43 = .ok (.if_icmp .eq 11, 3) := by decide +kernel
theorem dX7_tellCrossings_46 : decode cX7_tellCrossings 46 = .ok (.iload_n 3, 1) := by decide +kernel
theorem dX7_tellCrossings_47 : decode cX7_tellCrossings 47 = .ok (.ifCond .eq 7, 3) := by decide +kernel
theorem dX7_tellCrossings_50 : decode cX7_tellCrossings 50 = .ok (.iconst 1, 1) := by decide +kernel
theorem dX7_tellCrossings_51 : decode cX7_tellCrossings 51 = .ok (.goto 4, 3) := by decide +kernel
theorem dX7_tellCrossings_54 : decode cX7_tellCrossings 54 = .ok (.iconst 0, 1) := by decide +kernel
theorem dX7_tellCrossings_55 : decode cX7_tellCrossings 55 = .ok (.istore_n 3, 1) := by decide +kernel
theorem dX7_tellCrossings_56 : decode cX7_tellCrossings 56 = .ok (.iinc 4 1, 3) := by decide +kernel
theorem dX7_tellCrossings_59 : decode cX7_tellCrossings 59 = .ok (.goto (-42), 3) := by decide +kernel
theorem dX7_tellCrossings_62 : decode cX7_tellCrossings 62 = .ok (.iload_n 3, 1) := by decide +kernel
theorem dX7_tellCrossings_63 : decode cX7_tellCrossings 63 = .ok (.ireturn, 1) := by decide +kernel
set_option maxRecDepth 20000 in
theorem ggX7_tellFall_X7_takeRider : GoodIn wsX7_tellFall wsX7_takeRider := goodIn_r _ [4, 5, 6, 7, 8, 9, 10, 11, 12, 13, 14, 15, 16, 17, 18, 19, 20, 21, 22, 23, 24, 25, 26, 27, 28, 29, 109, 110, 111, 112, 113, 114, 115, 116, 117, 118, 119, 120, 121, 122, 123, 124] rfl (by decide +kernel)
set_option maxRecDepth 20000 in
theorem gX7_tellFall_X7_takeRider : GoodIn wsX7_tellFall (va_wsS RX7 58 yX7_takeRider wsX7_takeRider) := goodIn_app (goodIn_of _ (by decide +kernel)) ggX7_tellFall_X7_takeRider
set_option maxRecDepth 20000 in
theorem ggX7_tellFall_X3_latestLength : GoodIn wsX7_tellFall wsX3_latestLength := goodIn_r _ [33, 34, 35, 109, 110, 111, 112, 113, 114, 115, 116, 117, 118, 125, 126, 127, 128, 129, 130, 131, 132, 133, 134, 135, 136, 137, 138, 139, 140, 141, 142, 143, 144, 145, 146, 147, 148, 149, 150, 151] rfl (by decide +kernel)
set_option maxRecDepth 20000 in
theorem gX7_tellFall_X3_latestLength_n142 : GoodIn wsX7_tellFall (wsX3_latestLength) := ggX7_tellFall_X3_latestLength
set_option maxRecDepth 20000 in
theorem ggX7_tellFall_X6_takeInt : GoodIn wsX7_tellFall wsX6_takeInt := goodIn_r _ [8, 9, 10, 11, 12, 13, 14, 15, 16, 6, 17, 18, 19, 20, 21, 22, 23, 24, 25, 26, 27, 28, 29, 119, 120, 121, 122, 123, 124] rfl (by decide +kernel)
set_option maxRecDepth 20000 in
theorem gX7_tellFall_X6_takeInt_n73 : GoodIn wsX7_tellFall (wsX6_takeInt) := ggX7_tellFall_X6_takeInt
set_option maxRecDepth 20000 in
theorem ggX7_tellFall_X6_takes : GoodIn wsX7_tellFall wsX6_takes := goodIn_r _ [38, 9, 10, 12, 11, 13, 39, 40, 41, 42, 43, 44, 45, 46, 47, 48, 49, 50, 51, 52, 53, 54, 55, 56, 57, 58, 59, 60, 61, 62, 63, 64, 65, 66, 67, 68, 69, 70, 71, 72, 73, 74, 75, 76, 77, 78, 79, 80, 81, 82, 83, 84, 85, 86, 87, 21, 22, 23, 6, 24, 25, 26, 27, 28, 29, 119, 120, 121, 122, 123, 124] rfl (by decide +kernel)
set_option maxRecDepth 20000 in
theorem gX7_tellFall_X6_takes_n11 : GoodIn wsX7_tellFall (wsX6_takes) := ggX7_tellFall_X6_takes
set_option maxRecDepth 20000 in
theorem ggX7_tellFall_X3_addFall : GoodIn wsX7_tellFall wsX3_addFall := goodIn_r _ [90, 91, 35, 34, 92, 93, 94, 31, 95, 96, 97, 98, 99, 100, 101, 18, 19, 20, 102, 103, 104, 105, 106, 107, 108, 109, 110, 111, 112, 113, 114, 115, 116, 117, 118, 125, 126, 127, 128, 129, 130, 131, 132, 133, 134, 135, 136, 137, 138, 139, 140, 141, 142, 143, 144, 145, 146, 147, 148, 149, 150, 151] rfl (by decide +kernel)
set_option maxRecDepth 20000 in
theorem gX7_tellFall_X3_addFall_n147 : GoodIn wsX7_tellFall (wsX3_addFall) := ggX7_tellFall_X3_addFall
theorem dX7_tellFall_0 : decode cX7_tellFall 0 = .ok (.aload_n 0, 1) := by decide +kernel
theorem dX7_tellFall_1 : decode cX7_tellFall 1 = .ok (.aload_n 1, 1) := by decide +kernel
theorem dX7_tellFall_2 : decode cX7_tellFall 2 = .ok (.invokestatic 58, 3) := by decide +kernel
theorem dX7_tellFall_5 : decode cX7_tellFall 5 = .ok (.istore_n 2, 1) := by decide +kernel
theorem dX7_tellFall_6 : decode cX7_tellFall 6 = .ok (.aload_n 1, 1) := by decide +kernel
theorem dX7_tellFall_7 : decode cX7_tellFall 7 = .ok (.iconst 0, 1) := by decide +kernel
theorem dX7_tellFall_8 : decode cX7_tellFall 8 = .ok (.aload_n 0, 1) := by decide +kernel
theorem dX7_tellFall_9 : decode cX7_tellFall 9 = .ok (.invokevirtual 142, 3) := by decide +kernel
theorem dX7_tellFall_12 : decode cX7_tellFall 12 = .ok (.invokevirtual 73, 3) := by decide +kernel
theorem dX7_tellFall_15 : decode cX7_tellFall 15 = .ok (.istore_n 3, 1) := by decide +kernel
theorem dX7_tellFall_16 : decode cX7_tellFall 16 = .ok (.aload_n 1, 1) := by decide +kernel
theorem dX7_tellFall_17 : decode cX7_tellFall 17 = .ok (.ldc 145, 2) := by decide +kernel
theorem dX7_tellFall_19 : decode cX7_tellFall 19 = .ok (.invokevirtual 11, 3) := by decide +kernel
theorem dX7_tellFall_22 : decode cX7_tellFall 22 = .ok (.ifCond .eq 11, 3) := by decide +kernel
theorem dX7_tellFall_25 : decode cX7_tellFall 25 = .ok (.aload_n 0, 1) := by decide +kernel
theorem dX7_tellFall_26 : decode cX7_tellFall 26 = .ok (.aload_n 1, 1) := by decide +kernel
theorem dX7_tellFall_27 : decode cX7_tellFall 27 = .ok (.invokestatic 58, 3) := by decide +kernel
theorem dX7_tellFall_30 : decode cX7_tellFall 30 = .ok (.goto 4, 3) := by decide +kernel
theorem dX7_tellFall_33 : decode cX7_tellFall 33 = .ok (.iconst (-1), 1) := by decide +kernel
theorem dX7_tellFall_34 : decode cX7_tellFall 34 = .ok (.istore 4, 2) := by decide +kernel
theorem dX7_tellFall_36 : decode cX7_tellFall 36 = .ok (.aload_n 0, 1) := by decide +kernel
theorem dX7_tellFall_37 : decode cX7_tellFall 37 = .ok (.iload_n 2, 1) := by decide +kernel
theorem dX7_tellFall_38 : decode cX7_tellFall 38 = .ok (.iload_n 3, 1) := by decide +kernel
theorem dX7_tellFall_39 : decode cX7_tellFall 39 = .ok (.iload 4, 2) := by decide +kernel
theorem dX7_tellFall_41 : decode cX7_tellFall 41 = .ok (.invokevirtual 147, 3) := by decide +kernel
theorem dX7_tellFall_44 : decode cX7_tellFall 44 = .ok (.ireturn, 1) := by decide +kernel
set_option maxRecDepth 20000 in
theorem ggX7_tellJury_X7_takeRider : GoodIn wsX7_tellJury wsX7_takeRider := goodIn_r _ [4, 5, 6, 7, 8, 9, 10, 11, 12, 13, 14, 15, 16, 17, 18, 19, 20, 21, 22, 23, 24, 25, 26, 27, 28, 29, 53, 54, 55, 56, 57, 58, 59, 60, 61, 62, 63, 64, 65, 66, 67, 68] rfl (by decide +kernel)
set_option maxRecDepth 20000 in
theorem gX7_tellJury_X7_takeRider : GoodIn wsX7_tellJury (va_wsS RX7 58 yX7_takeRider wsX7_takeRider) := goodIn_app (goodIn_of _ (by decide +kernel)) ggX7_tellJury_X7_takeRider
set_option maxRecDepth 20000 in
theorem ggX7_tellJury_X6_takeInt : GoodIn wsX7_tellJury wsX6_takeInt := goodIn_r _ [8, 9, 10, 11, 12, 13, 14, 15, 16, 6, 17, 18, 19, 20, 21, 22, 23, 24, 25, 26, 27, 28, 29, 63, 64, 65, 66, 67, 68] rfl (by decide +kernel)
set_option maxRecDepth 20000 in
theorem gX7_tellJury_X6_takeInt_n73 : GoodIn wsX7_tellJury (wsX6_takeInt) := ggX7_tellJury_X6_takeInt
set_option maxRecDepth 20000 in
theorem ggX7_tellJury_X3_addJury : GoodIn wsX7_tellJury wsX3_addJury := goodIn_r _ [33, 34, 35, 36, 37, 38, 39, 31, 40, 41, 42, 43, 44, 45, 46, 18, 19, 20, 47, 48, 49, 50, 51, 52, 53, 54, 55, 56, 57, 58, 59, 60, 61, 62, 69, 70, 71, 72, 73, 74, 75, 76, 77, 78, 79, 80, 81, 82, 83, 84, 85, 86, 87, 88] rfl (by decide +kernel)
set_option maxRecDepth 20000 in
theorem gX7_tellJury_X3_addJury_n151 : GoodIn wsX7_tellJury (wsX3_addJury) := ggX7_tellJury_X3_addJury
theorem dX7_tellJury_0 : decode cX7_tellJury 0 = .ok (.aload_n 0, 1) := by decide +kernel
theorem dX7_tellJury_1 : decode cX7_tellJury 1 = .ok (.aload_n 1, 1) := by decide +kernel
theorem dX7_tellJury_2 : decode cX7_tellJury 2 = .ok (.invokestatic 58, 3) := by decide +kernel
theorem dX7_tellJury_5 : decode cX7_tellJury 5 = .ok (.istore_n 2, 1) := by decide +kernel
theorem dX7_tellJury_6 : decode cX7_tellJury 6 = .ok (.aload_n 1, 1) := by decide +kernel
theorem dX7_tellJury_7 : decode cX7_tellJury 7 = .ok (.iconst 1, 1) := by decide +kernel
theorem dX7_tellJury_8 : decode cX7_tellJury 8 = .ok (.sipush 3600, 3) := by decide +kernel
theorem dX7_tellJury_11 : decode cX7_tellJury 11 = .ok (.invokevirtual 73, 3) := by decide +kernel
theorem dX7_tellJury_14 : decode cX7_tellJury 14 = .ok (.istore_n 3, 1) := by decide +kernel
theorem dX7_tellJury_15 : decode cX7_tellJury 15 = .ok (.aload_n 0, 1) := by decide +kernel
theorem dX7_tellJury_16 : decode cX7_tellJury 16 = .ok (.iload_n 2, 1) := by decide +kernel
theorem dX7_tellJury_17 : decode cX7_tellJury 17 = .ok (.iload_n 3, 1) := by decide +kernel
theorem dX7_tellJury_18 : decode cX7_tellJury 18 = .ok (.invokevirtual 151, 3) := by decide +kernel
theorem dX7_tellJury_21 : decode cX7_tellJury 21 = .ok (.iconst (-1), 1) := by decide +kernel
theorem dX7_tellJury_22 : decode cX7_tellJury 22 = .ok (.if_icmp .eq 7, 3) := by decide +kernel
theorem dX7_tellJury_25 : decode cX7_tellJury 25 = .ok (.iconst 1, 1) := by decide +kernel
theorem dX7_tellJury_26 : decode cX7_tellJury 26 = .ok (.goto 4, 3) := by decide +kernel
theorem dX7_tellJury_29 : decode cX7_tellJury 29 = .ok (.iconst 0, 1) := by decide +kernel
theorem dX7_tellJury_30 : decode cX7_tellJury 30 = .ok (.ireturn, 1) := by decide +kernel
set_option maxRecDepth 20000 in
theorem ggX7_takeRider_X6_takeInt : GoodIn wsX7_takeRider wsX6_takeInt := goodIn_r _ [4, 5, 6, 7, 8, 9, 10, 11, 12, 2, 13, 14, 15, 16, 17, 18, 19, 20, 21, 22, 23, 24, 25, 36, 37, 38, 39, 40, 41] rfl (by decide +kernel)
set_option maxRecDepth 20000 in
theorem gX7_takeRider_X6_takeInt_n73 : GoodIn wsX7_takeRider (wsX6_takeInt) := ggX7_takeRider_X6_takeInt
theorem dX7_takeRider_0 : decode cX7_takeRider 0 = .ok (.aload_n 1, 1) := by decide +kernel
theorem dX7_takeRider_1 : decode cX7_takeRider 1 = .ok (.iconst 0, 1) := by decide +kernel
theorem dX7_takeRider_2 : decode cX7_takeRider 2 = .ok (.aload_n 0, 1) := by decide +kernel
theorem dX7_takeRider_3 : decode cX7_takeRider 3 = .ok (.getfield 154, 3) := by decide +kernel
theorem dX7_takeRider_6 : decode cX7_takeRider 6 = .ok (.iconst 1, 1) := by decide +kernel
theorem dX7_takeRider_7 : decode cX7_takeRider 7 = .ok (.isub, 1) := by decide +kernel
theorem dX7_takeRider_8 : decode cX7_takeRider 8 = .ok (.invokevirtual 73, 3) := by decide +kernel
theorem dX7_takeRider_11 : decode cX7_takeRider 11 = .ok (.ireturn, 1) := by decide +kernel
set_option maxRecDepth 20000 in
theorem ggX8_init_X3_init : GoodIn wsX8_init wsX3_init := goodIn_r _ [19, 20, 2, 3, 21, 22, 23, 24, 25, 26, 27, 28, 29, 30, 31, 32, 33, 34, 35, 36, 37, 38, 39, 40, 41, 42, 43, 44, 45, 46, 47, 48, 49, 50, 51, 52, 53, 54, 55, 56, 57, 58, 59, 60, 61, 62, 63, 64, 65, 66, 79, 80, 81, 82, 83, 84, 85, 86, 87, 88, 105, 106, 107, 108, 109, 110, 111, 112, 113, 114, 115, 116, 117, 118, 119, 120, 121, 122, 123, 124, 125, 126, 127, 128, 129, 130, 131, 132, 133, 134] rfl (by decide +kernel)
set_option maxRecDepth 20000 in
theorem gX8_init_X3_init_n9 : GoodIn wsX8_init (wsX3_init) := ggX8_init_X3_init
set_option maxRecDepth 20000 in
theorem ggX8_init_X5_init : GoodIn wsX8_init wsX5_init := goodIn_r _ [68, 69, 2, 3, 23, 70, 71, 72, 73, 94, 95, 96, 97, 98] rfl (by decide +kernel)
set_option maxRecDepth 20000 in
theorem gX8_init_X5_init_n25 : GoodIn wsX8_init (wsX5_init) := ggX8_init_X5_init
set_option maxRecDepth 20000 in
theorem ggX8_init_X6_init : GoodIn wsX8_init wsX6_init := goodIn_r _ [75, 76, 2, 3, 77, 78, 99, 100, 101, 102, 103, 104] rfl (by decide +kernel)
set_option maxRecDepth 20000 in
theorem gX8_init_X6_init_n32 : GoodIn wsX8_init (wsX6_init) := ggX8_init_X6_init
theorem dX8_init_0 : decode cX8_init 0 = .ok (.aload_n 0, 1) := by decide +kernel
theorem dX8_init_1 : decode cX8_init 1 = .ok (.invokespecial 1, 3) := by decide +kernel
theorem dX8_init_4 : decode cX8_init 4 = .ok (.aload_n 0, 1) := by decide +kernel
theorem dX8_init_5 : decode cX8_init 5 = .ok (.new 7, 3) := by decide +kernel
theorem dX8_init_8 : decode cX8_init 8 = .ok (.dup, 1) := by decide +kernel
theorem dX8_init_9 : decode cX8_init 9 = .ok (.invokespecial 9, 3) := by decide +kernel
theorem dX8_init_12 : decode cX8_init 12 = .ok (.putfield 10, 3) := by decide +kernel
theorem dX8_init_15 : decode cX8_init 15 = .ok (.aload_n 0, 1) := by decide +kernel
theorem dX8_init_16 : decode cX8_init 16 = .ok (.new 7, 3) := by decide +kernel
theorem dX8_init_19 : decode cX8_init 19 = .ok (.dup, 1) := by decide +kernel
theorem dX8_init_20 : decode cX8_init 20 = .ok (.invokespecial 9, 3) := by decide +kernel
theorem dX8_init_23 : decode cX8_init 23 = .ok (.putfield 16, 3) := by decide +kernel
theorem dX8_init_26 : decode cX8_init 26 = .ok (.aload_n 0, 1) := by decide +kernel
theorem dX8_init_27 : decode cX8_init 27 = .ok (.iconst 2, 1) := by decide +kernel
theorem dX8_init_28 : decode cX8_init 28 = .ok (.anewarray 7, 3) := by decide +kernel
theorem dX8_init_31 : decode cX8_init 31 = .ok (.putfield 19, 3) := by decide +kernel
theorem dX8_init_34 : decode cX8_init 34 = .ok (.aload_n 0, 1) := by decide +kernel
theorem dX8_init_35 : decode cX8_init 35 = .ok (.new 23, 3) := by decide +kernel
theorem dX8_init_38 : decode cX8_init 38 = .ok (.dup, 1) := by decide +kernel
theorem dX8_init_39 : decode cX8_init 39 = .ok (.invokespecial 25, 3) := by decide +kernel
theorem dX8_init_42 : decode cX8_init 42 = .ok (.putfield 26, 3) := by decide +kernel
theorem dX8_init_45 : decode cX8_init 45 = .ok (.aload_n 0, 1) := by decide +kernel
theorem dX8_init_46 : decode cX8_init 46 = .ok (.new 30, 3) := by decide +kernel
theorem dX8_init_49 : decode cX8_init 49 = .ok (.dup, 1) := by decide +kernel
theorem dX8_init_50 : decode cX8_init 50 = .ok (.invokespecial 32, 3) := by decide +kernel
theorem dX8_init_53 : decode cX8_init 53 = .ok (.putfield 33, 3) := by decide +kernel
theorem dX8_init_56 : decode cX8_init 56 = .ok (.return_, 1) := by decide +kernel
set_option maxRecDepth 20000 in
theorem ggX8_feed_X6_putFour : GoodIn wsX8_feed wsX6_putFour := goodIn_r _ [5, 6, 7, 13, 14, 15, 16, 17, 18] rfl (by decide +kernel)
set_option maxRecDepth 20000 in
theorem gX8_feed_X6_putFour_n41 : GoodIn wsX8_feed (wsX6_putFour) := ggX8_feed_X6_putFour
theorem dX8_feed_0 : decode cX8_feed 0 = .ok (.aload_n 0, 1) := by decide +kernel
theorem dX8_feed_1 : decode cX8_feed 1 = .ok (.getfield 33, 3) := by decide +kernel
theorem dX8_feed_4 : decode cX8_feed 4 = .ok (.getfield 37, 3) := by decide +kernel
theorem dX8_feed_7 : decode cX8_feed 7 = .ok (.bipush 20, 2) := by decide +kernel
theorem dX8_feed_9 : decode cX8_feed 9 = .ok (.iadd, 1) := by decide +kernel
theorem dX8_feed_10 : decode cX8_feed 10 = .ok (.sipush 600, 3) := by decide +kernel
theorem dX8_feed_13 : decode cX8_feed 13 = .ok (.if_icmp .le 5, 3) := by decide +kernel
theorem dX8_feed_16 : decode cX8_feed 16 = .ok (.iconst (-1), 1) := by decide +kernel
theorem dX8_feed_17 : decode cX8_feed 17 = .ok (.ireturn, 1) := by decide +kernel
theorem dX8_feed_18 : decode cX8_feed 18 = .ok (.aload_n 0, 1) := by decide +kernel
theorem dX8_feed_19 : decode cX8_feed 19 = .ok (.getfield 33, 3) := by decide +kernel
theorem dX8_feed_22 : decode cX8_feed 22 = .ok (.iload_n 1, 1) := by decide +kernel
theorem dX8_feed_23 : decode cX8_feed 23 = .ok (.invokevirtual 41, 3) := by decide +kernel
theorem dX8_feed_26 : decode cX8_feed 26 = .ok (.aload_n 0, 1) := by decide +kernel
theorem dX8_feed_27 : decode cX8_feed 27 = .ok (.getfield 33, 3) := by decide +kernel
theorem dX8_feed_30 : decode cX8_feed 30 = .ok (.iload_n 2, 1) := by decide +kernel
theorem dX8_feed_31 : decode cX8_feed 31 = .ok (.invokevirtual 41, 3) := by decide +kernel
theorem dX8_feed_34 : decode cX8_feed 34 = .ok (.aload_n 0, 1) := by decide +kernel
theorem dX8_feed_35 : decode cX8_feed 35 = .ok (.getfield 33, 3) := by decide +kernel
theorem dX8_feed_38 : decode cX8_feed 38 = .ok (.iload_n 3, 1) := by decide +kernel
theorem dX8_feed_39 : decode cX8_feed 39 = .ok (.invokevirtual 41, 3) := by decide +kernel
theorem dX8_feed_42 : decode cX8_feed 42 = .ok (.aload_n 0, 1) := by decide +kernel
theorem dX8_feed_43 : decode cX8_feed 43 = .ok (.getfield 33, 3) := by decide +kernel
theorem dX8_feed_46 : decode cX8_feed 46 = .ok (.iload 4, 2) := by decide +kernel
theorem dX8_feed_48 : decode cX8_feed 48 = .ok (.invokevirtual 41, 3) := by decide +kernel
theorem dX8_feed_51 : decode cX8_feed 51 = .ok (.aload_n 0, 1) := by decide +kernel
theorem dX8_feed_52 : decode cX8_feed 52 = .ok (.getfield 33, 3) := by decide +kernel
theorem dX8_feed_55 : decode cX8_feed 55 = .ok (.iload 5, 2) := by decide +kernel
theorem dX8_feed_57 : decode cX8_feed 57 = .ok (.invokevirtual 41, 3) := by decide +kernel
theorem dX8_feed_60 : decode cX8_feed 60 = .ok (.aload_n 0, 1) := by decide +kernel
theorem dX8_feed_61 : decode cX8_feed 61 = .ok (.getfield 33, 3) := by decide +kernel
theorem dX8_feed_64 : decode cX8_feed 64 = .ok (.getfield 37, 3) := by decide +kernel
theorem dX8_feed_67 : decode cX8_feed 67 = .ok (.ireturn, 1) := by decide +kernel
set_option maxRecDepth 20000 in
theorem ggX8_end_X8_within : GoodIn wsX8_end wsX8_within := goodIn_r _ [5] rfl (by decide +kernel)
set_option maxRecDepth 20000 in
theorem gX8_end_X8_within : GoodIn wsX8_end (va_wsS RX8 45 yX8_within wsX8_within) := goodIn_app (goodIn_of _ (by decide +kernel)) ggX8_end_X8_within
theorem dX8_end_0 : decode cX8_end 0 = .ok (.iload_n 1, 1) := by decide +kernel
theorem dX8_end_1 : decode cX8_end 1 = .ok (.iconst 0, 1) := by decide +kernel
theorem dX8_end_2 : decode cX8_end 2 = .ok (.aload_n 0, 1) := by decide +kernel
theorem dX8_end_3 : decode cX8_end 3 = .ok (.getfield 33, 3) := by decide +kernel
theorem dX8_end_6 : decode cX8_end 6 = .ok (.getfield 37, 3) := by decide +kernel
theorem dX8_end_9 : decode cX8_end 9 = .ok (.invokestatic 45, 3) := by decide +kernel
theorem dX8_end_12 : decode cX8_end 12 = .ok (.ifCond .ne 5, 3) := by decide +kernel
theorem dX8_end_15 : decode cX8_end 15 = .ok (.iconst 0, 1) := by decide +kernel
theorem dX8_end_16 : decode cX8_end 16 = .ok (.ireturn, 1) := by decide +kernel
theorem dX8_end_17 : decode cX8_end 17 = .ok (.aload_n 0, 1) := by decide +kernel
theorem dX8_end_18 : decode cX8_end 18 = .ok (.getfield 33, 3) := by decide +kernel
theorem dX8_end_21 : decode cX8_end 21 = .ok (.iload_n 1, 1) := by decide +kernel
theorem dX8_end_22 : decode cX8_end 22 = .ok (.putfield 37, 3) := by decide +kernel
theorem dX8_end_25 : decode cX8_end 25 = .ok (.iconst 1, 1) := by decide +kernel
theorem dX8_end_26 : decode cX8_end 26 = .ok (.ireturn, 1) := by decide +kernel
set_option maxRecDepth 20000 in
theorem ggX8_tell_X3_copyFrom : GoodIn wsX8_tell wsX3_copyFrom := goodIn_r _ [7, 8, 9, 10, 11, 12, 13, 14, 15, 16, 17, 18, 19, 20, 21, 22, 23, 24, 25, 26, 27, 28, 29, 30, 31, 32, 33, 34, 35, 36, 37, 38, 39, 40, 41, 42, 43, 44, 45, 46, 47, 48, 49, 50, 51, 52, 53, 54, 55, 56, 57, 58, 59, 60, 61, 62, 63, 64, 65, 66, 359, 360, 361, 362, 363, 364, 365, 366, 367, 368, 369, 370, 371, 372, 373, 374, 375, 376, 377, 378, 379, 380, 381, 382, 383, 384, 385, 386, 387, 388, 389, 390, 391, 392, 393, 394, 395, 396, 397, 398] rfl (by decide +kernel)
set_option maxRecDepth 20000 in
theorem gX8_tell_X3_copyFrom_n49 : GoodIn wsX8_tell (wsX3_copyFrom) := ggX8_tell_X3_copyFrom
set_option maxRecDepth 20000 in
theorem ggX8_tell_X6_begin : GoodIn wsX8_tell wsX6_begin := goodIn_r _ [70, 71, 72, 73, 74, 75, 68, 76, 77, 78, 79, 80, 81, 82, 83, 84, 353, 354, 355, 356, 357, 358] rfl (by decide +kernel)
set_option maxRecDepth 20000 in
theorem gX8_tell_X6_begin_n53 : GoodIn wsX8_tell (wsX6_begin) := ggX8_tell_X6_begin
set_option maxRecDepth 20000 in
theorem ggX8_tell_X6_hasMore : GoodIn wsX8_tell wsX6_hasMore := goodIn_r _ [87, 71, 79, 353, 354, 355, 356, 357, 358] rfl (by decide +kernel)
set_option maxRecDepth 20000 in
theorem gX8_tell_X6_hasMore_n56 : GoodIn wsX8_tell (wsX6_hasMore) := ggX8_tell_X6_hasMore
set_option maxRecDepth 20000 in
theorem ggX8_tell_X7_tellStatement : GoodIn wsX8_tell wsX7_tellStatement := goodIn_r _ [90, 91, 68, 92, 93, 71, 79, 72, 78, 84, 94, 95, 96, 97, 98, 99, 100, 101, 102, 103, 104, 105, 106, 107, 108, 109, 110, 111, 112, 113, 114, 115, 116, 117, 118, 119, 120, 121, 122, 123, 124, 125, 126, 127, 128, 129, 130, 131, 132, 133, 134, 135, 136, 137, 138, 139, 140, 141, 142, 73, 74, 75, 76, 77, 80, 81, 82, 83, 143, 5, 144, 145, 8, 146, 147, 89, 148, 149, 150, 151, 152, 153, 154, 155, 156, 157, 158, 159, 160, 161, 9, 11, 14, 19, 20, 162, 163, 164, 165, 10, 21, 166, 167, 168, 169, 170, 171, 172, 173, 174, 175, 176, 177, 178, 179, 23, 180, 181, 26, 34, 182, 48, 183, 184, 51, 52, 53, 185, 186, 187, 188, 28, 30, 31, 32, 33, 189, 190, 191, 57, 58, 192, 193, 194, 195, 196, 197, 198, 199, 200, 54, 56, 201, 202, 203, 204, 205, 206, 207, 208, 209, 210, 211, 212, 213, 214, 215, 216, 217, 218, 219, 220, 221, 222, 223, 224, 225, 226, 227, 228, 229, 230, 231, 232, 233, 234, 235, 236, 237, 238, 239, 240, 241, 242, 243, 244, 245, 246, 247, 248, 249, 250, 251, 252, 253, 254, 255, 256, 257, 258, 259, 260, 261, 262, 263, 264, 265, 266, 267, 268, 269, 270, 271, 272, 273, 274, 275, 12, 276, 277, 278, 13, 279, 280, 281, 282, 283, 284, 35, 36, 285, 286, 287, 41, 37, 38, 288, 289, 290, 291, 292, 293, 294, 295, 296, 297, 298, 299, 42, 39, 300, 301, 302, 303, 304, 305, 306, 307, 308, 309, 310, 311, 312, 313, 314, 315, 316, 317, 318, 319, 320, 321, 43, 322, 44, 45, 40, 46, 323, 60, 324, 325, 63, 65, 66, 326, 327, 328, 329, 330, 331, 332, 333, 334, 335, 336, 337, 338, 339, 340, 341, 342, 343, 344, 353, 354, 355, 356, 357, 358, 359, 360, 361, 362, 363, 364, 365, 366, 367, 368, 369, 370, 371, 372, 373, 374, 375, 376, 377, 378, 379, 380, 381, 382, 383, 384, 385, 386, 387, 388, 389, 390, 391, 392, 393, 394, 395, 396, 397, 398] rfl (by decide +kernel)
set_option maxRecDepth 20000 in
theorem gX8_tell_X7_tellStatement_n63 : GoodIn wsX8_tell (wsX7_tellStatement) := ggX8_tell_X7_tellStatement
set_option maxRecDepth 20000 in
theorem ggX8_tell_X6_endStatement : GoodIn wsX8_tell wsX6_endStatement := goodIn_r _ [347, 71, 79, 152, 153, 154, 68, 155, 78, 73, 74, 75, 76, 72, 77, 80, 81, 82, 83, 84, 353, 354, 355, 356, 357, 358] rfl (by decide +kernel)
set_option maxRecDepth 20000 in
theorem gX8_tell_X6_endStatement_n69 : GoodIn wsX8_tell (wsX6_endStatement) := ggX8_tell_X6_endStatement
theorem dX8_tell_0 : decode cX8_tell 0 = .ok (.aload_n 0, 1) := by decide +kernel
theorem dX8_tell_1 : decode cX8_tell 1 = .ok (.getfield 16, 3) := by decide +kernel
theorem dX8_tell_4 : decode cX8_tell 4 = .ok (.aload_n 0, 1) := by decide +kernel
theorem dX8_tell_5 : decode cX8_tell 5 = .ok (.getfield 10, 3) := by decide +kernel
theorem dX8_tell_8 : decode cX8_tell 8 = .ok (.invokevirtual 49, 3) := by decide +kernel
theorem dX8_tell_11 : decode cX8_tell 11 = .ok (.aload_n 0, 1) := by decide +kernel
theorem dX8_tell_12 : decode cX8_tell 12 = .ok (.getfield 33, 3) := by decide +kernel
theorem dX8_tell_15 : decode cX8_tell 15 = .ok (.invokevirtual 53, 3) := by decide +kernel
theorem dX8_tell_18 : decode cX8_tell 18 = .ok (.iconst 0, 1) := by decide +kernel
theorem dX8_tell_19 : decode cX8_tell 19 = .ok (.istore_n 1, 1) := by decide +kernel
theorem dX8_tell_20 : decode cX8_tell 20 = .ok (.iload_n 1, 1) := by decide +kernel
theorem dX8_tell_21 : decode cX8_tell 21 = .ok (.sipush 600, 3) := by decide +kernel
theorem dX8_tell_24 : decode cX8_tell 24 = .ok (.if_icmp .ge 46, 3) := by decide +kernel
theorem dX8_tell_27 : decode cX8_tell 27 = .ok (.aload_n 0, 1) := by decide +kernel
theorem dX8_tell_28 : decode cX8_tell 28 = .ok (.getfield 33, 3) := by decide +kernel
theorem dX8_tell_31 : decode cX8_tell 31 = .ok (.invokevirtual 56, 3) := by decide +kernel
theorem dX8_tell_34 : decode cX8_tell 34 = .ok (.ifCond .eq 36, 3) := by decide +kernel
theorem dX8_tell_37 : decode cX8_tell 37 = .ok (.aload_n 0, 1) := by decide +kernel
theorem dX8_tell_38 : decode cX8_tell 38 = .ok (.getfield 33, 3) := by decide +kernel
theorem dX8_tell_41 : decode cX8_tell 41 = .ok (.getfield 60, 3) := by decide +kernel
theorem dX8_tell_44 : decode cX8_tell 44 = .ok (.istore_n 2, 1) := by decide +kernel
theorem dX8_tell_45 : decode cX8_tell 45 = .ok (.aload_n 0, 1) := by decide +kernel
theorem dX8_tell_46 : decode cX8_tell 46 = .ok (.getfield 33, 3) := by decide +kernel
theorem dX8_tell_49 : decode cX8_tell 49 = .ok (.iload_n 2, 1) := by decide +kernel
theorem dX8_tell_50 : decode cX8_tell 50 = .ok (.aload_n 0, 1) := by decide +kernel
theorem dX8_tell_51 : decode cX8_tell 51 = .ok (.getfield 10, 3) := by decide +kernel
theorem dX8_tell_54 : decode cX8_tell 54 = .ok (.aload_n 0, 1) := by decide +kernel
theorem dX8_tell_55 : decode cX8_tell 55 = .ok (.getfield 33, 3) := by decide +kernel
theorem dX8_tell_58 : decode cX8_tell 58 = .ok (.invokestatic 63, 3) := by decide +kernel
theorem dX8_tell_61 : decode cX8_tell 61 = .ok (.invokevirtual 69, 3) := by decide +kernel
theorem dX8_tell_64 : decode cX8_tell 64 = .ok (.iinc 1 1, 3) := by decide +kernel
theorem dX8_tell_67 : decode cX8_tell 67 = .ok (.goto (-47), 3) := by decide +kernel
theorem dX8_tell_70 : decode cX8_tell 70 = .ok (.aload_n 0, 1) := by decide +kernel
theorem dX8_tell_71 : decode cX8_tell 71 = .ok (.getfield 33, 3) := by decide +kernel
theorem dX8_tell_74 : decode cX8_tell 74 = .ok (.iconst 0, 1) := by decide +kernel
theorem dX8_tell_75 : decode cX8_tell 75 = .ok (.putfield 37, 3) := by decide +kernel
theorem dX8_tell_78 : decode cX8_tell 78 = .ok (.aload_n 0, 1) := by decide +kernel
theorem dX8_tell_79 : decode cX8_tell 79 = .ok (.getfield 33, 3) := by decide +kernel
theorem dX8_tell_82 : decode cX8_tell 82 = .ok (.getfield 73, 3) := by decide +kernel
theorem dX8_tell_85 : decode cX8_tell 85 = .ok (.ifCond .ne 5, 3) := by decide +kernel
theorem dX8_tell_88 : decode cX8_tell 88 = .ok (.iload_n 1, 1) := by decide +kernel
theorem dX8_tell_89 : decode cX8_tell 89 = .ok (.ireturn, 1) := by decide +kernel
theorem dX8_tell_90 : decode cX8_tell 90 = .ok (.aload_n 0, 1) := by decide +kernel
theorem dX8_tell_91 : decode cX8_tell 91 = .ok (.getfield 10, 3) := by decide +kernel
theorem dX8_tell_94 : decode cX8_tell 94 = .ok (.aload_n 0, 1) := by decide +kernel
theorem dX8_tell_95 : decode cX8_tell 95 = .ok (.getfield 16, 3) := by decide +kernel
theorem dX8_tell_98 : decode cX8_tell 98 = .ok (.invokevirtual 49, 3) := by decide +kernel
theorem dX8_tell_101 : decode cX8_tell 101 = .ok (.iconst (-1), 1) := by decide +kernel
theorem dX8_tell_102 : decode cX8_tell 102 = .ok (.ireturn, 1) := by decide +kernel
theorem dX8_fault_0 : decode cX8_fault 0 = .ok (.aload_n 0, 1) := by decide +kernel
theorem dX8_fault_1 : decode cX8_fault 1 = .ok (.getfield 33, 3) := by decide +kernel
theorem dX8_fault_4 : decode cX8_fault 4 = .ok (.getfield 73, 3) := by decide +kernel
theorem dX8_fault_7 : decode cX8_fault 7 = .ok (.ireturn, 1) := by decide +kernel
set_option maxRecDepth 20000 in
theorem ggX8_team_X3_addTeam : GoodIn wsX8_team wsX3_addTeam := goodIn_r _ [5, 6, 12, 13, 14, 15, 16, 17, 18, 19, 20, 21] rfl (by decide +kernel)
set_option maxRecDepth 20000 in
theorem gX8_team_X3_addTeam_n76 : GoodIn wsX8_team (wsX3_addTeam) := ggX8_team_X3_addTeam
theorem dX8_team_0 : decode cX8_team 0 = .ok (.aload_n 0, 1) := by decide +kernel
theorem dX8_team_1 : decode cX8_team 1 = .ok (.getfield 10, 3) := by decide +kernel
theorem dX8_team_4 : decode cX8_team 4 = .ok (.invokevirtual 76, 3) := by decide +kernel
theorem dX8_team_7 : decode cX8_team 7 = .ok (.ireturn, 1) := by decide +kernel
set_option maxRecDepth 20000 in
theorem ggX8_rider_X3_addRider : GoodIn wsX8_rider wsX3_addRider := goodIn_r _ [5, 6, 7, 8, 9, 10, 11, 12, 13, 14, 15, 16, 17, 3, 18, 19, 20, 26, 27, 28, 29, 30, 31, 32, 33, 34, 35, 36, 37, 38, 39, 40, 41, 42, 43, 44, 45, 46, 47, 48, 49, 50, 51, 52, 53, 54, 55] rfl (by decide +kernel)
set_option maxRecDepth 20000 in
theorem gX8_rider_X3_addRider_n80 : GoodIn wsX8_rider (wsX3_addRider) := ggX8_rider_X3_addRider
theorem dX8_rider_0 : decode cX8_rider 0 = .ok (.aload_n 0, 1) := by decide +kernel
theorem dX8_rider_1 : decode cX8_rider 1 = .ok (.getfield 10, 3) := by decide +kernel
theorem dX8_rider_4 : decode cX8_rider 4 = .ok (.iload_n 1, 1) := by decide +kernel
theorem dX8_rider_5 : decode cX8_rider 5 = .ok (.iload_n 2, 1) := by decide +kernel
theorem dX8_rider_6 : decode cX8_rider 6 = .ok (.invokevirtual 80, 3) := by decide +kernel
theorem dX8_rider_9 : decode cX8_rider 9 = .ok (.ireturn, 1) := by decide +kernel
set_option maxRecDepth 20000 in
theorem ggX8_stage_X3_openStage : GoodIn wsX8_stage wsX3_openStage := goodIn_r _ [5, 6, 7, 8, 9, 10, 11, 12, 13, 14, 3, 15, 16, 17, 18, 19, 20, 21, 22, 23, 24, 25, 26, 27, 28, 29, 30, 31, 32, 33, 34, 35, 36, 37, 38, 39, 40, 41, 42, 43, 44, 50, 51, 52, 53, 54, 55, 56, 57, 58, 59, 60, 61, 62, 63, 64, 65, 66, 67, 68, 69, 70, 71, 72, 73, 74, 75, 76, 77, 78, 79, 80, 81, 82, 83, 84, 85, 86] rfl (by decide +kernel)
set_option maxRecDepth 20000 in
theorem gX8_stage_X3_openStage_n84 : GoodIn wsX8_stage (wsX3_openStage) := ggX8_stage_X3_openStage
theorem dX8_stage_0 : decode cX8_stage 0 = .ok (.aload_n 0, 1) := by decide +kernel
theorem dX8_stage_1 : decode cX8_stage 1 = .ok (.getfield 10, 3) := by decide +kernel
theorem dX8_stage_4 : decode cX8_stage 4 = .ok (.iload_n 1, 1) := by decide +kernel
theorem dX8_stage_5 : decode cX8_stage 5 = .ok (.iload_n 2, 1) := by decide +kernel
theorem dX8_stage_6 : decode cX8_stage 6 = .ok (.invokevirtual 84, 3) := by decide +kernel
theorem dX8_stage_9 : decode cX8_stage 9 = .ok (.ireturn, 1) := by decide +kernel
set_option maxRecDepth 20000 in
theorem ggX8_mark_X3_addMark : GoodIn wsX8_mark wsX3_addMark := goodIn_r _ [5, 6, 7, 8, 9, 10, 11, 12, 13, 14, 15, 16, 17, 18, 19, 20, 26, 27, 28, 29, 30, 31, 32, 33, 34, 35, 36, 37, 38, 39, 40, 41, 42, 43, 44, 45, 46, 47, 48, 49, 50, 51, 52, 53, 54, 55, 56, 57, 58, 59, 60, 61, 62] rfl (by decide +kernel)
set_option maxRecDepth 20000 in
theorem gX8_mark_X3_addMark_n87 : GoodIn wsX8_mark (wsX3_addMark) := ggX8_mark_X3_addMark
theorem dX8_mark_0 : decode cX8_mark 0 = .ok (.aload_n 0, 1) := by decide +kernel
theorem dX8_mark_1 : decode cX8_mark 1 = .ok (.getfield 10, 3) := by decide +kernel
theorem dX8_mark_4 : decode cX8_mark 4 = .ok (.iload_n 1, 1) := by decide +kernel
theorem dX8_mark_5 : decode cX8_mark 5 = .ok (.iload_n 2, 1) := by decide +kernel
theorem dX8_mark_6 : decode cX8_mark 6 = .ok (.invokevirtual 87, 3) := by decide +kernel
theorem dX8_mark_9 : decode cX8_mark 9 = .ok (.ireturn, 1) := by decide +kernel
set_option maxRecDepth 20000 in
theorem ggX8_finish_X3_addFinish : GoodIn wsX8_finish wsX3_addFinish := goodIn_r _ [5, 6, 7, 8, 9, 10, 11, 3, 12, 13, 14, 15, 16, 17, 18, 19, 20, 21, 22, 23, 24, 25, 26, 27, 28, 34, 35, 36, 37, 38, 39, 40, 41, 42, 43, 44, 45, 46, 47, 48, 49, 50, 51, 52, 53, 54, 55, 56, 57, 58, 59, 60, 61, 62, 63] rfl (by decide +kernel)
set_option maxRecDepth 20000 in
theorem gX8_finish_X3_addFinish_n90 : GoodIn wsX8_finish (wsX3_addFinish) := ggX8_finish_X3_addFinish
theorem dX8_finish_0 : decode cX8_finish 0 = .ok (.aload_n 0, 1) := by decide +kernel
theorem dX8_finish_1 : decode cX8_finish 1 = .ok (.getfield 10, 3) := by decide +kernel
theorem dX8_finish_4 : decode cX8_finish 4 = .ok (.iload_n 1, 1) := by decide +kernel
theorem dX8_finish_5 : decode cX8_finish 5 = .ok (.iload_n 2, 1) := by decide +kernel
theorem dX8_finish_6 : decode cX8_finish 6 = .ok (.invokevirtual 90, 3) := by decide +kernel
theorem dX8_finish_9 : decode cX8_finish 9 = .ok (.ireturn, 1) := by decide +kernel
set_option maxRecDepth 20000 in
theorem ggX8_over_X3_addCrossing : GoodIn wsX8_over wsX3_addCrossing := goodIn_r _ [5, 6, 7, 8, 9, 10, 11, 3, 12, 13, 14, 15, 16, 17, 18, 19, 20, 21, 22, 23, 24, 25, 26, 27, 28, 29, 30, 31, 32, 38, 39, 40, 41, 42, 43, 44, 45, 46, 47, 48, 49, 50, 51, 52, 53, 54, 55, 56, 57, 58, 59, 60, 61, 62, 63, 64, 65, 66, 67, 68, 69, 70, 71, 72, 73, 74] rfl (by decide +kernel)
set_option maxRecDepth 20000 in
theorem gX8_over_X3_addCrossing_n94 : GoodIn wsX8_over (wsX3_addCrossing) := ggX8_over_X3_addCrossing
theorem dX8_over_0 : decode cX8_over 0 = .ok (.aload_n 0, 1) := by decide +kernel
theorem dX8_over_1 : decode cX8_over 1 = .ok (.getfield 10, 3) := by decide +kernel
theorem dX8_over_4 : decode cX8_over 4 = .ok (.iload_n 1, 1) := by decide +kernel
theorem dX8_over_5 : decode cX8_over 5 = .ok (.iload_n 2, 1) := by decide +kernel
theorem dX8_over_6 : decode cX8_over 6 = .ok (.invokevirtual 94, 3) := by decide +kernel
theorem dX8_over_9 : decode cX8_over 9 = .ok (.ireturn, 1) := by decide +kernel
set_option maxRecDepth 20000 in
theorem ggX8_fall_X3_addFall : GoodIn wsX8_fall wsX3_addFall := goodIn_r _ [5, 6, 7, 8, 9, 10, 11, 3, 12, 13, 14, 15, 16, 17, 18, 19, 20, 21, 22, 23, 24, 25, 26, 27, 28, 34, 35, 36, 37, 38, 39, 40, 41, 42, 43, 44, 45, 46, 47, 48, 49, 50, 51, 52, 53, 54, 55, 56, 57, 58, 59, 60, 61, 62, 63, 64, 65, 66, 67, 68, 69, 70] rfl (by decide +kernel)
set_option maxRecDepth 20000 in
theorem gX8_fall_X3_addFall_n97 : GoodIn wsX8_fall (wsX3_addFall) := ggX8_fall_X3_addFall
theorem dX8_fall_0 : decode cX8_fall 0 = .ok (.aload_n 0, 1) := by decide +kernel
theorem dX8_fall_1 : decode cX8_fall 1 = .ok (.getfield 10, 3) := by decide +kernel
theorem dX8_fall_4 : decode cX8_fall 4 = .ok (.iload_n 1, 1) := by decide +kernel
theorem dX8_fall_5 : decode cX8_fall 5 = .ok (.iload_n 2, 1) := by decide +kernel
theorem dX8_fall_6 : decode cX8_fall 6 = .ok (.iload_n 3, 1) := by decide +kernel
theorem dX8_fall_7 : decode cX8_fall 7 = .ok (.invokevirtual 97, 3) := by decide +kernel
theorem dX8_fall_10 : decode cX8_fall 10 = .ok (.ireturn, 1) := by decide +kernel
set_option maxRecDepth 20000 in
theorem ggX8_jury_X3_addJury : GoodIn wsX8_jury wsX3_addJury := goodIn_r _ [5, 6, 7, 8, 9, 10, 11, 3, 12, 13, 14, 15, 16, 17, 18, 19, 20, 21, 22, 23, 24, 25, 26, 27, 33, 34, 35, 36, 37, 38, 39, 40, 41, 42, 43, 44, 45, 46, 47, 48, 49, 50, 51, 52, 53, 54, 55, 56, 57, 58, 59, 60, 61, 62] rfl (by decide +kernel)
set_option maxRecDepth 20000 in
theorem gX8_jury_X3_addJury_n100 : GoodIn wsX8_jury (wsX3_addJury) := ggX8_jury_X3_addJury
theorem dX8_jury_0 : decode cX8_jury 0 = .ok (.aload_n 0, 1) := by decide +kernel
theorem dX8_jury_1 : decode cX8_jury 1 = .ok (.getfield 10, 3) := by decide +kernel
theorem dX8_jury_4 : decode cX8_jury 4 = .ok (.iload_n 1, 1) := by decide +kernel
theorem dX8_jury_5 : decode cX8_jury 5 = .ok (.iload_n 2, 1) := by decide +kernel
theorem dX8_jury_6 : decode cX8_jury 6 = .ok (.invokevirtual 100, 3) := by decide +kernel
theorem dX8_jury_9 : decode cX8_jury 9 = .ok (.ireturn, 1) := by decide +kernel
set_option maxRecDepth 20000 in
theorem ggX8_grace_X3_addGrace : GoodIn wsX8_grace wsX3_addGrace := goodIn_r _ [5, 6, 7, 8, 9, 10, 11, 3, 12, 13, 14, 15, 16, 17, 18, 19, 20, 21, 22, 23, 24, 25, 26, 32, 33, 34, 35, 36, 37, 38, 39, 40, 41, 42, 43, 44, 45, 46, 47, 48, 49, 50, 51, 52, 53, 54, 55, 56, 57, 58, 59, 60, 61] rfl (by decide +kernel)
set_option maxRecDepth 20000 in
theorem gX8_grace_X3_addGrace_n103 : GoodIn wsX8_grace (wsX3_addGrace) := ggX8_grace_X3_addGrace
theorem dX8_grace_0 : decode cX8_grace 0 = .ok (.aload_n 0, 1) := by decide +kernel
theorem dX8_grace_1 : decode cX8_grace 1 = .ok (.getfield 10, 3) := by decide +kernel
theorem dX8_grace_4 : decode cX8_grace 4 = .ok (.iload_n 1, 1) := by decide +kernel
theorem dX8_grace_5 : decode cX8_grace 5 = .ok (.invokevirtual 103, 3) := by decide +kernel
theorem dX8_grace_8 : decode cX8_grace 8 = .ok (.ireturn, 1) := by decide +kernel
set_option maxRecDepth 20000 in
theorem ggX8_quit_X3_dropRider : GoodIn wsX8_quit wsX3_dropRider := goodIn_r _ [5, 6, 7, 8, 9, 10, 11, 12, 3, 13, 14, 15, 16, 17, 18, 19, 20, 21, 22, 23, 24, 25, 26, 27, 28, 29, 30, 31, 32, 33, 34, 35, 36, 37, 38, 39, 45, 46, 47, 48, 49, 50, 51, 52, 53, 54, 55, 56, 57, 58, 59, 60, 61, 62, 63, 64, 65, 66, 67, 68, 69, 70, 71, 72, 73, 74, 75, 76, 77, 78, 79, 80, 81] rfl (by decide +kernel)
set_option maxRecDepth 20000 in
theorem gX8_quit_X3_dropRider_n107 : GoodIn wsX8_quit (wsX3_dropRider) := ggX8_quit_X3_dropRider
theorem dX8_quit_0 : decode cX8_quit 0 = .ok (.aload_n 0, 1) := by decide +kernel
theorem dX8_quit_1 : decode cX8_quit 1 = .ok (.getfield 10, 3) := by decide +kernel
theorem dX8_quit_4 : decode cX8_quit 4 = .ok (.iload_n 1, 1) := by decide +kernel
theorem dX8_quit_5 : decode cX8_quit 5 = .ok (.invokevirtual 107, 3) := by decide +kernel
theorem dX8_quit_8 : decode cX8_quit 8 = .ok (.ireturn, 1) := by decide +kernel
set_option maxRecDepth 20000 in
theorem ggX8_rule_X3_setGap : GoodIn wsX8_rule wsX3_setGap := goodIn_r _ [5, 6, 7, 8, 9, 19, 20, 21, 22, 23, 24, 25, 26, 27, 28] rfl (by decide +kernel)
set_option maxRecDepth 20000 in
theorem gX8_rule_X3_setGap_n113 : GoodIn wsX8_rule (wsX3_setGap) := ggX8_rule_X3_setGap
set_option maxRecDepth 20000 in
theorem ggX8_rule_X3_setZone : GoodIn wsX8_rule wsX3_setZone := goodIn_r _ [12, 13, 7, 8, 9, 19, 20, 21, 22, 23, 24, 25, 26, 27, 28] rfl (by decide +kernel)
set_option maxRecDepth 20000 in
theorem gX8_rule_X3_setZone_n119 : GoodIn wsX8_rule (wsX3_setZone) := ggX8_rule_X3_setZone
theorem dX8_rule_0 : decode cX8_rule 0 = .ok (.iload_n 1, 1) := by decide +kernel
theorem dX8_rule_1 : decode cX8_rule 1 = .ok (.ifCond .ne 31, 3) := by decide +kernel
theorem dX8_rule_4 : decode cX8_rule 4 = .ok (.aload_n 0, 1) := by decide +kernel
theorem dX8_rule_5 : decode cX8_rule 5 = .ok (.getfield 10, 3) := by decide +kernel
theorem dX8_rule_8 : decode cX8_rule 8 = .ok (.getfield 110, 3) := by decide +kernel
theorem dX8_rule_11 : decode cX8_rule 11 = .ok (.iload_n 2, 1) := by decide +kernel
theorem dX8_rule_12 : decode cX8_rule 12 = .ok (.if_icmp .eq 18, 3) := by decide +kernel
theorem dX8_rule_15 : decode cX8_rule 15 = .ok (.aload_n 0, 1) := by decide +kernel
theorem dX8_rule_16 : decode cX8_rule 16 = .ok (.getfield 10, 3) := by decide +kernel
theorem dX8_rule_19 : decode cX8_rule 19 = .ok (.iload_n 2, 1) := by decide +kernel
theorem dX8_rule_20 : decode cX8_rule 20 = .ok (.invokevirtual 113, 3) := by decide +kernel
theorem dX8_rule_23 : decode cX8_rule 23 = .ok (.ifCond .eq 7, 3) := by decide +kernel
theorem dX8_rule_26 : decode cX8_rule 26 = .ok (.iconst 1, 1) := by decide +kernel
theorem dX8_rule_27 : decode cX8_rule 27 = .ok (.goto 4, 3) := by decide +kernel
theorem dX8_rule_30 : decode cX8_rule 30 = .ok (.iconst 0, 1) := by decide +kernel
theorem dX8_rule_31 : decode cX8_rule 31 = .ok (.ireturn, 1) := by decide +kernel
theorem dX8_rule_32 : decode cX8_rule 32 = .ok (.iload_n 1, 1) := by decide +kernel
theorem dX8_rule_33 : decode cX8_rule 33 = .ok (.iconst 1, 1) := by decide +kernel
theorem dX8_rule_34 : decode cX8_rule 34 = .ok (.if_icmp .ne 29, 3) := by decide +kernel
theorem dX8_rule_37 : decode cX8_rule 37 = .ok (.aload_n 0, 1) := by decide +kernel
theorem dX8_rule_38 : decode cX8_rule 38 = .ok (.getfield 10, 3) := by decide +kernel
theorem dX8_rule_41 : decode cX8_rule 41 = .ok (.getfield 116, 3) := by decide +kernel
theorem dX8_rule_44 : decode cX8_rule 44 = .ok (.iload_n 2, 1) := by decide +kernel
theorem dX8_rule_45 : decode cX8_rule 45 = .ok (.if_icmp .eq 18, 3) := by decide +kernel
theorem dX8_rule_48 : decode cX8_rule 48 = .ok (.aload_n 0, 1) := by decide +kernel
theorem dX8_rule_49 : decode cX8_rule 49 = .ok (.getfield 10, 3) := by decide +kernel
theorem dX8_rule_52 : decode cX8_rule 52 = .ok (.iload_n 2, 1) := by decide +kernel
theorem dX8_rule_53 : decode cX8_rule 53 = .ok (.invokevirtual 119, 3) := by decide +kernel
theorem dX8_rule_56 : decode cX8_rule 56 = .ok (.ifCond .eq 7, 3) := by decide +kernel
theorem dX8_rule_59 : decode cX8_rule 59 = .ok (.iconst 1, 1) := by decide +kernel
theorem dX8_rule_60 : decode cX8_rule 60 = .ok (.goto 4, 3) := by decide +kernel
theorem dX8_rule_63 : decode cX8_rule 63 = .ok (.iconst 0, 1) := by decide +kernel
theorem dX8_rule_64 : decode cX8_rule 64 = .ok (.ireturn, 1) := by decide +kernel
set_option maxRecDepth 20000 in
theorem ggX8_close_X3_closeStage : GoodIn wsX8_close wsX3_closeStage := goodIn_r _ [5, 6, 7, 8, 9, 10, 11, 12, 13, 14, 15, 16, 17, 18, 19, 20, 21, 22, 23, 24, 25, 26, 27, 28, 29, 30, 31, 32, 33, 34, 35, 36, 37, 38, 39, 40, 41, 42, 43, 44, 45, 46, 47, 48, 49, 50, 51, 52, 53, 54, 55, 56, 57, 58, 59, 60, 61, 62, 63, 64, 65, 66, 67, 68, 69, 70, 71, 72, 73, 74, 75, 76, 77, 78, 79, 80, 81, 82, 83, 84, 85, 86, 87, 88, 89, 90, 91, 92, 93, 94, 95, 3, 96, 97, 98, 99, 100, 101, 107, 108, 109, 110, 111, 112, 113, 114, 115, 116, 117, 118, 119, 120, 121, 122, 123, 124, 125, 126, 127, 128, 129, 130, 131, 132, 133, 134, 135, 136, 137, 138, 139, 140, 141, 142, 143, 144, 145, 146] rfl (by decide +kernel)
set_option maxRecDepth 20000 in
theorem gX8_close_X3_closeStage_n122 : GoodIn wsX8_close (wsX3_closeStage) := ggX8_close_X3_closeStage
theorem dX8_close_0 : decode cX8_close 0 = .ok (.aload_n 0, 1) := by decide +kernel
theorem dX8_close_1 : decode cX8_close 1 = .ok (.getfield 10, 3) := by decide +kernel
theorem dX8_close_4 : decode cX8_close 4 = .ok (.invokevirtual 122, 3) := by decide +kernel
theorem dX8_close_7 : decode cX8_close 7 = .ok (.ireturn, 1) := by decide +kernel
set_option maxRecDepth 20000 in
theorem ggX8_keep_X8_within : GoodIn wsX8_keep wsX8_within := goodIn_r _ [9] rfl (by decide +kernel)
set_option maxRecDepth 20000 in
theorem gX8_keep_X8_within : GoodIn wsX8_keep (va_wsS RX8 45 yX8_within wsX8_within) := goodIn_app (goodIn_of _ (by decide +kernel)) ggX8_keep_X8_within
set_option maxRecDepth 20000 in
theorem ggX8_keep_X3_init : GoodIn wsX8_keep wsX3_init := goodIn_r _ [11, 12, 13, 14, 15, 16, 17, 18, 19, 20, 21, 22, 23, 24, 25, 26, 27, 28, 29, 30, 31, 32, 33, 34, 35, 36, 37, 38, 39, 40, 41, 42, 43, 44, 45, 46, 47, 48, 49, 50, 51, 52, 53, 54, 55, 56, 57, 58, 59, 60, 99, 100, 101, 102, 103, 104, 105, 106, 107, 108, 109, 110, 111, 112, 113, 114, 115, 116, 117, 118, 119, 120, 121, 122, 123, 124, 125, 126, 127, 128, 129, 130, 131, 132, 133, 134, 135, 136, 137, 138] rfl (by decide +kernel)
set_option maxRecDepth 20000 in
theorem gX8_keep_X3_init_n9 : GoodIn wsX8_keep (wsX3_init) := ggX8_keep_X3_init
set_option maxRecDepth 20000 in
theorem ggX8_keep_X3_copyFrom : GoodIn wsX8_keep wsX3_copyFrom := goodIn_r _ [63, 64, 65, 66, 67, 15, 16, 18, 68, 69, 70, 71, 19, 21, 23, 72, 25, 73, 74, 32, 36, 37, 75, 38, 39, 40, 41, 76, 42, 43, 44, 45, 46, 47, 77, 78, 79, 80, 81, 82, 83, 31, 84, 85, 86, 87, 88, 51, 89, 52, 53, 54, 90, 35, 91, 92, 58, 93, 59, 60, 99, 100, 101, 102, 103, 104, 105, 106, 107, 108, 109, 110, 111, 112, 113, 114, 115, 116, 117, 118, 119, 120, 121, 122, 123, 124, 125, 126, 127, 128, 129, 130, 131, 132, 133, 134, 135, 136, 137, 138] rfl (by decide +kernel)
set_option maxRecDepth 20000 in
theorem gX8_keep_X3_copyFrom_n49 : GoodIn wsX8_keep (wsX3_copyFrom) := ggX8_keep_X3_copyFrom
theorem dX8_keep_0 : decode cX8_keep 0 = .ok (.iload_n 1, 1) := by decide +kernel
theorem dX8_keep_1 : decode cX8_keep 1 = .ok (.iconst 0, 1) := by decide +kernel
theorem dX8_keep_2 : decode cX8_keep 2 = .ok (.iconst 1, 1) := by decide +kernel
theorem dX8_keep_3 : decode cX8_keep 3 = .ok (.invokestatic 45, 3) := by decide +kernel
theorem dX8_keep_6 : decode cX8_keep 6 = .ok (.ifCond .ne 5, 3) := by decide +kernel
theorem dX8_keep_9 : decode cX8_keep 9 = .ok (.iconst 0, 1) := by decide +kernel
theorem dX8_keep_10 : decode cX8_keep 10 = .ok (.ireturn, 1) := by decide +kernel
theorem dX8_keep_11 : decode cX8_keep 11 = .ok (.aload_n 0, 1) := by decide +kernel
theorem dX8_keep_12 : decode cX8_keep 12 = .ok (.getfield 19, 3) := by decide +kernel
theorem dX8_keep_15 : decode cX8_keep 15 = .ok (.iload_n 1, 1) := by decide +kernel
theorem dX8_keep_16 : decode cX8_keep 16 = .ok (.aaload, 1) := by decide +kernel
theorem dX8_keep_17 : decode cX8_keep 17 = .ok (.ifnonnull 16, 3) := by decide +kernel
theorem dX8_keep_20 : decode cX8_keep 20 = .ok (.aload_n 0, 1) := by decide +kernel
theorem dX8_keep_21 : decode cX8_keep 21 = .ok (.getfield 19, 3) := by decide +kernel
theorem dX8_keep_24 : decode cX8_keep 24 = .ok (.iload_n 1, 1) := by decide +kernel
theorem dX8_keep_25 : decode cX8_keep 25 = .ok (.new 7, 3) := by decide +kernel
theorem dX8_keep_28 : decode cX8_keep 28 = .ok (.dup, 1) := by decide +kernel
theorem dX8_keep_29 : decode cX8_keep 29 = .ok (.invokespecial 9, 3) := by decide +kernel
theorem dX8_keep_32 : decode cX8_keep 32 = .ok (.aastore, 1) := by decide +kernel
theorem dX8_keep_33 : decode cX8_keep 33 = .ok (.aload_n 0, 1) := by decide +kernel
theorem dX8_keep_34 : decode cX8_keep 34 = .ok (.getfield 19, 3) := by decide +kernel
theorem dX8_keep_37 : decode cX8_keep 37 = .ok (.iload_n 1, 1) := by decide +kernel
theorem dX8_keep_38 : decode cX8_keep 38 = .ok (.aaload, 1) := by decide +kernel
theorem dX8_keep_39 : decode cX8_keep 39 = .ok (.aload_n 0, 1) := by decide +kernel
theorem dX8_keep_40 : decode cX8_keep 40 = .ok (.getfield 10, 3) := by decide +kernel
theorem dX8_keep_43 : decode cX8_keep 43 = .ok (.invokevirtual 49, 3) := by decide +kernel
theorem dX8_keep_46 : decode cX8_keep 46 = .ok (.iconst 1, 1) := by decide +kernel
theorem dX8_keep_47 : decode cX8_keep 47 = .ok (.ireturn, 1) := by decide +kernel
set_option maxRecDepth 20000 in
theorem ggX8_back_X8_within : GoodIn wsX8_back wsX8_within := goodIn_r _ [6] rfl (by decide +kernel)
set_option maxRecDepth 20000 in
theorem gX8_back_X8_within : GoodIn wsX8_back (va_wsS RX8 45 yX8_within wsX8_within) := goodIn_app (goodIn_of _ (by decide +kernel)) ggX8_back_X8_within
set_option maxRecDepth 20000 in
theorem ggX8_back_X3_copyFrom : GoodIn wsX8_back wsX3_copyFrom := goodIn_r _ [10, 11, 12, 13, 14, 15, 16, 17, 18, 19, 20, 21, 22, 23, 24, 25, 26, 27, 28, 29, 30, 31, 32, 33, 34, 35, 36, 37, 38, 39, 40, 41, 42, 43, 44, 45, 46, 47, 48, 49, 50, 51, 52, 53, 54, 55, 56, 57, 58, 59, 60, 61, 62, 63, 64, 65, 66, 67, 68, 69, 75, 76, 77, 78, 79, 80, 81, 82, 83, 84, 85, 86, 87, 88, 89, 90, 91, 92, 93, 94, 95, 96, 97, 98, 99, 100, 101, 102, 103, 104, 105, 106, 107, 108, 109, 110, 111, 112, 113, 114] rfl (by decide +kernel)
set_option maxRecDepth 20000 in
theorem gX8_back_X3_copyFrom_n49 : GoodIn wsX8_back (wsX3_copyFrom) := ggX8_back_X3_copyFrom
theorem dX8_back_0 : decode cX8_back 0 = .ok (.iload_n 1, 1) := by decide +kernel
theorem dX8_back_1 : decode cX8_back 1 = .ok (.iconst 0, 1) := by decide +kernel
theorem dX8_back_2 : decode cX8_back 2 = .ok (.iconst 1, 1) := by decide +kernel
theorem dX8_back_3 : decode cX8_back 3 = .ok (.invokestatic 45, 3) := by decide +kernel
theorem dX8_back_6 : decode cX8_back 6 = .ok (.ifCond .eq 12, 3) := by decide +kernel
theorem dX8_back_9 : decode cX8_back 9 = .ok (.aload_n 0, 1) := by decide +kernel
theorem dX8_back_10 : decode cX8_back 10 = .ok (.getfield 19, 3) := by decide +kernel
theorem dX8_back_13 : decode cX8_back 13 = .ok (.iload_n 1, 1) := by decide +kernel
theorem dX8_back_14 : decode cX8_back 14 = .ok (.aaload, 1) := by decide +kernel
theorem dX8_back_15 : decode cX8_back 15 = .ok (.ifnonnull 5, 3) := by decide +kernel
theorem dX8_back_18 : decode cX8_back 18 = .ok (.iconst 0, 1) := by decide +kernel
theorem dX8_back_19 : decode cX8_back 19 = .ok (.ireturn, 1) := by decide +kernel
theorem dX8_back_20 : decode cX8_back 20 = .ok (.aload_n 0, 1) := by decide +kernel
theorem dX8_back_21 : decode cX8_back 21 = .ok (.getfield 10, 3) := by decide +kernel
theorem dX8_back_24 : decode cX8_back 24 = .ok (.aload_n 0, 1) := by decide +kernel
theorem dX8_back_25 : decode cX8_back 25 = .ok (.getfield 19, 3) := by decide +kernel
theorem dX8_back_28 : decode cX8_back 28 = .ok (.iload_n 1, 1) := by decide +kernel
theorem dX8_back_29 : decode cX8_back 29 = .ok (.aaload, 1) := by decide +kernel
theorem dX8_back_30 : decode cX8_back 30 = .ok (.invokevirtual 49, 3) := by decide +kernel
theorem dX8_back_33 : decode cX8_back 33 = .ok (.iconst 1, 1) := by decide +kernel
theorem dX8_back_34 : decode cX8_back 34 = .ok (.ireturn, 1) := by decide +kernel
set_option maxRecDepth 20000 in
theorem ggX8_count_X3_countIn : GoodIn wsX8_count wsX3_countIn := goodIn_r _ [6, 7, 8, 26, 27, 28, 29, 30, 31, 32, 33, 34, 35] rfl (by decide +kernel)
set_option maxRecDepth 20000 in
theorem gX8_count_X3_countIn_n131 : GoodIn wsX8_count (wsX3_countIn) := ggX8_count_X3_countIn
set_option maxRecDepth 20000 in
theorem ggX8_count_X3_closed : GoodIn wsX8_count wsX3_closed := goodIn_r _ [11, 12, 13, 26, 27, 28, 29, 30, 31, 32, 33, 34, 35] rfl (by decide +kernel)
set_option maxRecDepth 20000 in
theorem gX8_count_X3_closed_n137 : GoodIn wsX8_count (wsX3_closed) := ggX8_count_X3_closed
set_option maxRecDepth 20000 in
theorem ggX8_count_X3_latestMarks : GoodIn wsX8_count wsX3_latestMarks := goodIn_r _ [16, 13, 17, 26, 27, 28, 29, 30, 31, 32, 33, 34, 35, 42, 43, 44, 45, 46, 47, 48, 49, 50, 51, 52, 53, 54, 55, 56, 57, 58, 59, 60, 61, 62, 63, 64, 65, 66, 67, 68] rfl (by decide +kernel)
set_option maxRecDepth 20000 in
theorem gX8_count_X3_latestMarks_n140 : GoodIn wsX8_count (wsX3_latestMarks) := ggX8_count_X3_latestMarks
set_option maxRecDepth 20000 in
theorem ggX8_count_X3_latestFinishers : GoodIn wsX8_count wsX3_latestFinishers := goodIn_r _ [20, 13, 17, 26, 27, 28, 29, 30, 31, 32, 33, 34, 35, 42, 43, 44, 45, 46, 47, 48, 49, 50, 51, 52, 53, 54, 55, 56, 57, 58, 59, 60, 61] rfl (by decide +kernel)
set_option maxRecDepth 20000 in
theorem gX8_count_X3_latestFinishers_n143 : GoodIn wsX8_count (wsX3_latestFinishers) := ggX8_count_X3_latestFinishers
theorem dX8_count_0 : decode cX8_count 0 = .ok (.iload_n 1, 1) := by decide +kernel
theorem dX8_count_1 : decode cX8_count 1 = .ok (.tableswitch 135 0 9 #[55, 63, 71, 79, 87, 95, 103, 111, 119, 127], 55) := by decide +kernel
theorem dX8_count_56 : decode cX8_count 56 = .ok (.aload_n 0, 1) := by decide +kernel
theorem dX8_count_57 : decode cX8_count 57 = .ok (.getfield 10, 3) := by decide +kernel
theorem dX8_count_60 : decode cX8_count 60 = .ok (.getfield 125, 3) := by decide +kernel
theorem dX8_count_63 : decode cX8_count 63 = .ok (.ireturn, 1) := by decide +kernel
theorem dX8_count_64 : decode cX8_count 64 = .ok (.aload_n 0, 1) := by decide +kernel
theorem dX8_count_65 : decode cX8_count 65 = .ok (.getfield 10, 3) := by decide +kernel
theorem dX8_count_68 : decode cX8_count 68 = .ok (.getfield 128, 3) := by decide +kernel
theorem dX8_count_71 : decode cX8_count 71 = .ok (.ireturn, 1) := by decide +kernel
theorem dX8_count_72 : decode cX8_count 72 = .ok (.aload_n 0, 1) := by decide +kernel
theorem dX8_count_73 : decode cX8_count 73 = .ok (.getfield 10, 3) := by decide +kernel
theorem dX8_count_76 : decode cX8_count 76 = .ok (.invokevirtual 131, 3) := by decide +kernel
theorem dX8_count_79 : decode cX8_count 79 = .ok (.ireturn, 1) := by decide +kernel
theorem dX8_count_80 : decode cX8_count 80 = .ok (.aload_n 0, 1) := by decide +kernel
theorem dX8_count_81 : decode cX8_count 81 = .ok (.getfield 10, 3) := by decide +kernel
theorem dX8_count_84 : decode cX8_count 84 = .ok (.getfield 134, 3) := by decide +kernel
theorem dX8_count_87 : decode cX8_count 87 = .ok (.ireturn, 1) := by decide +kernel
theorem dX8_count_88 : decode cX8_count 88 = .ok (.aload_n 0, 1) := by decide +kernel
theorem dX8_count_89 : decode cX8_count 89 = .ok (.getfield 10, 3) := by decide +kernel
theorem dX8_count_92 : decode cX8_count 92 = .ok (.invokevirtual 137, 3) := by decide +kernel
theorem dX8_count_95 : decode cX8_count 95 = .ok (.ireturn, 1) := by decide +kernel
theorem dX8_count_96 : decode cX8_count 96 = .ok (.aload_n 0, 1) := by decide +kernel
theorem dX8_count_97 : decode cX8_count 97 = .ok (.getfield 10, 3) := by decide +kernel
theorem dX8_count_100 : decode cX8_count 100 = .ok (.invokevirtual 140, 3) := by decide +kernel
theorem dX8_count_103 : decode cX8_count 103 = .ok (.ireturn, 1) := by decide +kernel
theorem dX8_count_104 : decode cX8_count 104 = .ok (.aload_n 0, 1) := by decide +kernel
theorem dX8_count_105 : decode cX8_count 105 = .ok (.getfield 10, 3) := by decide +kernel
theorem dX8_count_108 : decode cX8_count 108 = .ok (.invokevirtual 143, 3) := by decide +kernel
theorem dX8_count_111 : decode cX8_count 111 = .ok (.ireturn, 1) := by decide +kernel
theorem dX8_count_112 : decode cX8_count 112 = .ok (.aload_n 0, 1) := by decide +kernel
theorem dX8_count_113 : decode cX8_count 113 = .ok (.getfield 10, 3) := by decide +kernel
theorem dX8_count_116 : decode cX8_count 116 = .ok (.getfield 110, 3) := by decide +kernel
theorem dX8_count_119 : decode cX8_count 119 = .ok (.ireturn, 1) := by decide +kernel
theorem dX8_count_120 : decode cX8_count 120 = .ok (.aload_n 0, 1) := by decide +kernel
theorem dX8_count_121 : decode cX8_count 121 = .ok (.getfield 10, 3) := by decide +kernel
theorem dX8_count_124 : decode cX8_count 124 = .ok (.getfield 116, 3) := by decide +kernel
theorem dX8_count_127 : decode cX8_count 127 = .ok (.ireturn, 1) := by decide +kernel
theorem dX8_count_128 : decode cX8_count 128 = .ok (.aload_n 0, 1) := by decide +kernel
theorem dX8_count_129 : decode cX8_count 129 = .ok (.getfield 33, 3) := by decide +kernel
theorem dX8_count_132 : decode cX8_count 132 = .ok (.getfield 37, 3) := by decide +kernel
theorem dX8_count_135 : decode cX8_count 135 = .ok (.ireturn, 1) := by decide +kernel
theorem dX8_count_136 : decode cX8_count 136 = .ok (.iconst (-1), 1) := by decide +kernel
theorem dX8_count_137 : decode cX8_count 137 = .ok (.ireturn, 1) := by decide +kernel
set_option maxRecDepth 20000 in
theorem ggX8_of_X3_hasRider : GoodIn wsX8_of wsX3_hasRider := goodIn_r _ [7, 8, 9, 10, 11, 34, 35, 36, 37, 38, 39, 40, 41, 42, 43] rfl (by decide +kernel)
set_option maxRecDepth 20000 in
theorem gX8_of_X3_hasRider_n146 : GoodIn wsX8_of (wsX3_hasRider) := ggX8_of_X3_hasRider
set_option maxRecDepth 20000 in
theorem ggX8_of_X8_within : GoodIn wsX8_of wsX8_within := goodIn_r _ [11] rfl (by decide +kernel)
set_option maxRecDepth 20000 in
theorem gX8_of_X8_within : GoodIn wsX8_of (va_wsS RX8 45 yX8_within wsX8_within) := goodIn_app (goodIn_of _ (by decide +kernel)) ggX8_of_X8_within
set_option maxRecDepth 20000 in
theorem ggX8_of_X3_gained : GoodIn wsX8_of wsX3_gained := goodIn_r _ [15, 16, 17, 18, 19, 5, 20, 21, 22, 23, 24, 25, 26, 27, 28, 34, 35, 36, 37, 38, 39, 40, 41, 42, 43, 44, 45, 46, 47, 48, 49, 50, 51, 52, 53, 54, 55, 56, 57, 58, 59, 60, 61, 62, 63, 64, 65, 66] rfl (by decide +kernel)
set_option maxRecDepth 20000 in
theorem gX8_of_X3_gained_n163 : GoodIn wsX8_of (wsX3_gained) := ggX8_of_X3_gained
theorem dX8_of_0 : decode cX8_of 0 = .ok (.aload_n 0, 1) := by decide +kernel
theorem dX8_of_1 : decode cX8_of 1 = .ok (.getfield 10, 3) := by decide +kernel
theorem dX8_of_4 : decode cX8_of 4 = .ok (.iload_n 1, 1) := by decide +kernel
theorem dX8_of_5 : decode cX8_of 5 = .ok (.invokevirtual 146, 3) := by decide +kernel
theorem dX8_of_8 : decode cX8_of 8 = .ok (.ifCond .eq 13, 3) := by decide +kernel
theorem dX8_of_11 : decode cX8_of 11 = .ok (.iload_n 2, 1) := by decide +kernel
theorem dX8_of_12 : decode cX8_of 12 = .ok (.iconst 0, 1) := by decide +kernel
theorem dX8_of_13 : decode cX8_of 13 = .ok (.bipush 6, 2) := by decide +kernel
theorem dX8_of_15 : decode cX8_of 15 = .ok (.invokestatic 45, 3) := by decide +kernel
theorem dX8_of_18 : decode cX8_of 18 = .ok (.ifCond .ne 11, 3) := by decide +kernel
theorem dX8_of_21 : decode cX8_of 21 = .ok (.new 149, 3) := by decide +kernel
theorem dX8_of_24 : decode cX8_of 24 = .ok (.dup, 1) := by decide +kernel
theorem dX8_of_25 : decode cX8_of 25 = .ok (.invokespecial 151, 3) := by decide +kernel
theorem dX8_of_28 : decode cX8_of 28 = .ok (.athrow, 1) := by decide +kernel
theorem dX8_of_29 : decode cX8_of 29 = .ok (.iload_n 2, 1) := by decide +kernel
theorem dX8_of_30 : decode cX8_of 30 = .ok (.tableswitch 64 0 2 #[26, 36, 46], 26) := by decide +kernel
theorem dX8_of_56 : decode cX8_of 56 = .ok (.aload_n 0, 1) := by decide +kernel
theorem dX8_of_57 : decode cX8_of 57 = .ok (.getfield 10, 3) := by decide +kernel
theorem dX8_of_60 : decode cX8_of 60 = .ok (.getfield 152, 3) := by decide +kernel
theorem dX8_of_63 : decode cX8_of 63 = .ok (.iload_n 1, 1) := by decide +kernel
theorem dX8_of_64 : decode cX8_of 64 = .ok (.iaload, 1) := by decide +kernel
theorem dX8_of_65 : decode cX8_of 65 = .ok (.ireturn, 1) := by decide +kernel
theorem dX8_of_66 : decode cX8_of 66 = .ok (.aload_n 0, 1) := by decide +kernel
theorem dX8_of_67 : decode cX8_of 67 = .ok (.getfield 10, 3) := by decide +kernel
theorem dX8_of_70 : decode cX8_of 70 = .ok (.getfield 156, 3) := by decide +kernel
theorem dX8_of_73 : decode cX8_of 73 = .ok (.iload_n 1, 1) := by decide +kernel
theorem dX8_of_74 : decode cX8_of 74 = .ok (.iaload, 1) := by decide +kernel
theorem dX8_of_75 : decode cX8_of 75 = .ok (.ireturn, 1) := by decide +kernel
theorem dX8_of_76 : decode cX8_of 76 = .ok (.aload_n 0, 1) := by decide +kernel
theorem dX8_of_77 : decode cX8_of 77 = .ok (.getfield 10, 3) := by decide +kernel
theorem dX8_of_80 : decode cX8_of 80 = .ok (.getfield 159, 3) := by decide +kernel
theorem dX8_of_83 : decode cX8_of 83 = .ok (.iload_n 1, 1) := by decide +kernel
theorem dX8_of_84 : decode cX8_of 84 = .ok (.baload, 1) := by decide +kernel
theorem dX8_of_85 : decode cX8_of 85 = .ok (.ifCond .eq 7, 3) := by decide +kernel
theorem dX8_of_88 : decode cX8_of 88 = .ok (.iconst 1, 1) := by decide +kernel
theorem dX8_of_89 : decode cX8_of 89 = .ok (.goto 4, 3) := by decide +kernel
theorem dX8_of_92 : decode cX8_of 92 = .ok (.iconst 0, 1) := by decide +kernel
theorem dX8_of_93 : decode cX8_of 93 = .ok (.ireturn, 1) := by decide +kernel
theorem dX8_of_94 : decode cX8_of 94 = .ok (.aload_n 0, 1) := by decide +kernel
theorem dX8_of_95 : decode cX8_of 95 = .ok (.getfield 10, 3) := by decide +kernel
theorem dX8_of_98 : decode cX8_of 98 = .ok (.iload_n 1, 1) := by decide +kernel
theorem dX8_of_99 : decode cX8_of 99 = .ok (.iload_n 2, 1) := by decide +kernel
theorem dX8_of_100 : decode cX8_of 100 = .ok (.invokevirtual 163, 3) := by decide +kernel
theorem dX8_of_103 : decode cX8_of 103 = .ok (.ireturn, 1) := by decide +kernel
set_option maxRecDepth 20000 in
theorem ggX8_told_X3_closedStage : GoodIn wsX8_told wsX3_closedStage := goodIn_r _ [5, 6, 7, 8, 9, 3, 10, 11, 12, 13, 14, 15, 44, 45, 46, 47, 48, 49, 50, 51, 52, 53] rfl (by decide +kernel)
set_option maxRecDepth 20000 in
theorem gX8_told_X3_closedStage_n166 : GoodIn wsX8_told (wsX3_closedStage) := ggX8_told_X3_closedStage
set_option maxRecDepth 20000 in
theorem ggX8_told_X4_fact : GoodIn wsX8_told wsX4_fact := goodIn_r _ [19, 20, 21, 22, 23, 24, 25, 26, 27, 28, 29, 30, 17, 31, 32, 33, 34, 35, 36, 37, 38, 54, 55, 56, 57, 58, 59, 60, 61, 62, 63, 64, 65, 66, 67, 68, 69, 70, 71, 72, 73, 74, 75, 76, 77, 78, 79, 80] rfl (by decide +kernel)
set_option maxRecDepth 20000 in
theorem gX8_told_X4_fact_n170 : GoodIn wsX8_told (wsX4_fact) := ggX8_told_X4_fact
theorem dX8_told_0 : decode cX8_told 0 = .ok (.aload_n 0, 1) := by decide +kernel
theorem dX8_told_1 : decode cX8_told 1 = .ok (.getfield 10, 3) := by decide +kernel
theorem dX8_told_4 : decode cX8_told 4 = .ok (.iload_n 1, 1) := by decide +kernel
theorem dX8_told_5 : decode cX8_told 5 = .ok (.invokevirtual 166, 3) := by decide +kernel
theorem dX8_told_8 : decode cX8_told 8 = .ok (.astore_n 3, 1) := by decide +kernel
theorem dX8_told_9 : decode cX8_told 9 = .ok (.aload_n 3, 1) := by decide +kernel
theorem dX8_told_10 : decode cX8_told 10 = .ok (.ifnonnull 7, 3) := by decide +kernel
theorem dX8_told_13 : decode cX8_told 13 = .ok (.iconst (-1), 1) := by decide +kernel
theorem dX8_told_14 : decode cX8_told 14 = .ok (.goto 8, 3) := by decide +kernel
theorem dX8_told_17 : decode cX8_told 17 = .ok (.aload_n 3, 1) := by decide +kernel
theorem dX8_told_18 : decode cX8_told 18 = .ok (.iload_n 2, 1) := by decide +kernel
theorem dX8_told_19 : decode cX8_told 19 = .ok (.invokevirtual 170, 3) := by decide +kernel
theorem dX8_told_22 : decode cX8_told 22 = .ok (.ireturn, 1) := by decide +kernel
set_option maxRecDepth 20000 in
theorem ggX8_order_X3_closedStage : GoodIn wsX8_order wsX3_closedStage := goodIn_r _ [5, 6, 7, 8, 9, 3, 10, 11, 12, 13, 14, 15, 42, 43, 44, 45, 46, 47, 48, 49, 50, 51] rfl (by decide +kernel)
set_option maxRecDepth 20000 in
theorem gX8_order_X3_closedStage_n166 : GoodIn wsX8_order (wsX3_closedStage) := ggX8_order_X3_closedStage
set_option maxRecDepth 20000 in
theorem ggX8_order_X8_within : GoodIn wsX8_order wsX8_within := goodIn_r _ [15] rfl (by decide +kernel)
set_option maxRecDepth 20000 in
theorem gX8_order_X8_within : GoodIn wsX8_order (va_wsS RX8 45 yX8_within wsX8_within) := goodIn_app (goodIn_of _ (by decide +kernel)) ggX8_order_X8_within
theorem dX8_order_0 : decode cX8_order 0 = .ok (.aload_n 0, 1) := by decide +kernel
theorem dX8_order_1 : decode cX8_order 1 = .ok (.getfield 10, 3) := by decide +kernel
theorem dX8_order_4 : decode cX8_order 4 = .ok (.iload_n 1, 1) := by decide +kernel
theorem dX8_order_5 : decode cX8_order 5 = .ok (.invokevirtual 166, 3) := by decide +kernel
theorem dX8_order_8 : decode cX8_order 8 = .ok (.astore_n 3, 1) := by decide +kernel
theorem dX8_order_9 : decode cX8_order 9 = .ok (.aload_n 3, 1) := by decide +kernel
theorem dX8_order_10 : decode cX8_order 10 = .ok (.ifnull 17, 3) := by decide +kernel
theorem dX8_order_13 : decode cX8_order 13 = .ok (.iload_n 2, 1) := by decide +kernel
theorem dX8_order_14 : decode cX8_order 14 = .ok (.iconst 0, 1) := by decide +kernel
theorem dX8_order_15 : decode cX8_order 15 = .ok (.aload_n 3, 1) := by decide +kernel
theorem dX8_order_16 : decode cX8_order 16 = .ok (.getfield 176, 3) := by decide +kernel
theorem dX8_order_19 : decode cX8_order 19 = .ok (.iconst 1, 1) := by decide +kernel
theorem dX8_order_20 : decode cX8_order 20 = .ok (.isub, 1) := by decide +kernel
theorem dX8_order_21 : decode cX8_order 21 = .ok (.invokestatic 45, 3) := by decide +kernel
theorem dX8_order_24 : decode cX8_order 24 = .ok (.ifCond .ne 5, 3) := by decide +kernel
theorem dX8_order_27 : decode cX8_order 27 = .ok (.iconst (-1), 1) := by decide +kernel
theorem dX8_order_28 : decode cX8_order 28 = .ok (.ireturn, 1) := by decide +kernel
theorem dX8_order_29 : decode cX8_order 29 = .ok (.aload_n 3, 1) := by decide +kernel
theorem dX8_order_30 : decode cX8_order 30 = .ok (.getfield 179, 3) := by decide +kernel
theorem dX8_order_33 : decode cX8_order 33 = .ok (.iload_n 2, 1) := by decide +kernel
theorem dX8_order_34 : decode cX8_order 34 = .ok (.iaload, 1) := by decide +kernel
theorem dX8_order_35 : decode cX8_order 35 = .ok (.ireturn, 1) := by decide +kernel
set_option maxRecDepth 20000 in
theorem ggX8_result_X3_closedStage : GoodIn wsX8_result wsX3_closedStage := goodIn_r _ [5, 6, 7, 8, 9, 3, 10, 11, 12, 13, 14, 15, 55, 56, 57, 58, 59, 60, 61, 62, 63, 64] rfl (by decide +kernel)
set_option maxRecDepth 20000 in
theorem gX8_result_X3_closedStage_n166 : GoodIn wsX8_result (wsX3_closedStage) := ggX8_result_X3_closedStage
set_option maxRecDepth 20000 in
theorem ggX8_result_X3_hasRider : GoodIn wsX8_result wsX3_hasRider := goodIn_r _ [18, 19, 13, 14, 15, 55, 56, 57, 58, 59, 60, 61, 62, 63, 64] rfl (by decide +kernel)
set_option maxRecDepth 20000 in
theorem gX8_result_X3_hasRider_n146 : GoodIn wsX8_result (wsX3_hasRider) := ggX8_result_X3_hasRider
set_option maxRecDepth 20000 in
theorem ggX8_result_X4_resultOf : GoodIn wsX8_result wsX4_resultOf := goodIn_r _ [23, 24, 25, 26, 27, 28, 29, 35, 36, 37, 38, 39, 40, 41, 42, 43, 44, 45, 46, 47, 48, 49, 50, 51, 52, 53, 54, 65, 66, 67] rfl (by decide +kernel)
set_option maxRecDepth 20000 in
theorem gX8_result_X4_resultOf_n185 : GoodIn wsX8_result (wsX4_resultOf) := ggX8_result_X4_resultOf
theorem dX8_result_0 : decode cX8_result 0 = .ok (.aload_n 0, 1) := by decide +kernel
theorem dX8_result_1 : decode cX8_result 1 = .ok (.getfield 10, 3) := by decide +kernel
theorem dX8_result_4 : decode cX8_result 4 = .ok (.iload_n 1, 1) := by decide +kernel
theorem dX8_result_5 : decode cX8_result 5 = .ok (.invokevirtual 166, 3) := by decide +kernel
theorem dX8_result_8 : decode cX8_result 8 = .ok (.astore 4, 2) := by decide +kernel
theorem dX8_result_10 : decode cX8_result 10 = .ok (.aload 4, 2) := by decide +kernel
theorem dX8_result_12 : decode cX8_result 12 = .ok (.ifnull 24, 3) := by decide +kernel
theorem dX8_result_15 : decode cX8_result 15 = .ok (.aload_n 0, 1) := by decide +kernel
theorem dX8_result_16 : decode cX8_result 16 = .ok (.getfield 10, 3) := by decide +kernel
theorem dX8_result_19 : decode cX8_result 19 = .ok (.iload_n 2, 1) := by decide +kernel
theorem dX8_result_20 : decode cX8_result 20 = .ok (.invokevirtual 146, 3) := by decide +kernel
theorem dX8_result_23 : decode cX8_result 23 = .ok (.ifCond .eq 13, 3) := by decide +kernel
theorem dX8_result_26 : decode cX8_result 26 = .ok (.aload 4, 2) := by decide +kernel
theorem dX8_result_28 : decode cX8_result 28 = .ok (.getfield 182, 3) := by decide +kernel
theorem dX8_result_31 : decode cX8_result 31 = .ok (.iload_n 2, 1) := by decide +kernel
theorem dX8_result_32 : decode cX8_result 32 = .ok (.iaload, 1) := by decide +kernel
theorem dX8_result_33 : decode cX8_result 33 = .ok (.ifCond .ne 5, 3) := by decide +kernel
theorem dX8_result_36 : decode cX8_result 36 = .ok (.iconst (-1), 1) := by decide +kernel
theorem dX8_result_37 : decode cX8_result 37 = .ok (.ireturn, 1) := by decide +kernel
theorem dX8_result_38 : decode cX8_result 38 = .ok (.aload 4, 2) := by decide +kernel
theorem dX8_result_40 : decode cX8_result 40 = .ok (.iload_n 2, 1) := by decide +kernel
theorem dX8_result_41 : decode cX8_result 41 = .ok (.iload_n 3, 1) := by decide +kernel
theorem dX8_result_42 : decode cX8_result 42 = .ok (.invokevirtual 185, 3) := by decide +kernel
theorem dX8_result_45 : decode cX8_result 45 = .ok (.ireturn, 1) := by decide +kernel
set_option maxRecDepth 20000 in
theorem ggX8_parted_X3_closedStage : GoodIn wsX8_parted wsX3_closedStage := goodIn_r _ [5, 6, 7, 8, 9, 3, 10, 11, 12, 13, 14, 15, 38, 39, 40, 41, 42, 43, 44, 45, 46, 47] rfl (by decide +kernel)
set_option maxRecDepth 20000 in
theorem gX8_parted_X3_closedStage_n166 : GoodIn wsX8_parted (wsX3_closedStage) := ggX8_parted_X3_closedStage
set_option maxRecDepth 20000 in
theorem ggX8_parted_X8_within : GoodIn wsX8_parted wsX8_within := goodIn_r _ [15] rfl (by decide +kernel)
set_option maxRecDepth 20000 in
theorem gX8_parted_X8_within : GoodIn wsX8_parted (va_wsS RX8 45 yX8_within wsX8_within) := goodIn_app (goodIn_of _ (by decide +kernel)) ggX8_parted_X8_within
set_option maxRecDepth 20000 in
theorem ggX8_parted_X4_countBunches : GoodIn wsX8_parted wsX4_countBunches := goodIn_r _ [20, 21, 22, 23, 24, 18, 25, 26, 27, 28, 29, 30, 31, 32, 48, 49, 50, 51, 52, 53, 54, 55, 56, 57, 58, 59, 60, 61, 62, 63, 64, 65, 66, 67, 68, 69, 70, 71, 72, 73, 74] rfl (by decide +kernel)
set_option maxRecDepth 20000 in
theorem gX8_parted_X4_countBunches_n188 : GoodIn wsX8_parted (wsX4_countBunches) := ggX8_parted_X4_countBunches
theorem dX8_parted_0 : decode cX8_parted 0 = .ok (.aload_n 0, 1) := by decide +kernel
theorem dX8_parted_1 : decode cX8_parted 1 = .ok (.getfield 10, 3) := by decide +kernel
theorem dX8_parted_4 : decode cX8_parted 4 = .ok (.iload_n 1, 1) := by decide +kernel
theorem dX8_parted_5 : decode cX8_parted 5 = .ok (.invokevirtual 166, 3) := by decide +kernel
theorem dX8_parted_8 : decode cX8_parted 8 = .ok (.astore_n 3, 1) := by decide +kernel
theorem dX8_parted_9 : decode cX8_parted 9 = .ok (.aload_n 3, 1) := by decide +kernel
theorem dX8_parted_10 : decode cX8_parted 10 = .ok (.ifnull 13, 3) := by decide +kernel
theorem dX8_parted_13 : decode cX8_parted 13 = .ok (.iload_n 2, 1) := by decide +kernel
theorem dX8_parted_14 : decode cX8_parted 14 = .ok (.iconst 1, 1) := by decide +kernel
theorem dX8_parted_15 : decode cX8_parted 15 = .ok (.bipush 99, 2) := by decide +kernel
theorem dX8_parted_17 : decode cX8_parted 17 = .ok (.invokestatic 45, 3) := by decide +kernel
theorem dX8_parted_20 : decode cX8_parted 20 = .ok (.ifCond .ne 7, 3) := by decide +kernel
theorem dX8_parted_23 : decode cX8_parted 23 = .ok (.iconst (-1), 1) := by decide +kernel
theorem dX8_parted_24 : decode cX8_parted 24 = .ok (.goto 8, 3) := by decide +kernel
theorem dX8_parted_27 : decode cX8_parted 27 = .ok (.aload_n 3, 1) := by decide +kernel
theorem dX8_parted_28 : decode cX8_parted 28 = .ok (.iload_n 2, 1) := by decide +kernel
theorem dX8_parted_29 : decode cX8_parted 29 = .ok (.invokevirtual 188, 3) := by decide +kernel
theorem dX8_parted_32 : decode cX8_parted 32 = .ok (.ireturn, 1) := by decide +kernel
set_option maxRecDepth 20000 in
theorem ggX8_together_X3_closedStage : GoodIn wsX8_together wsX3_closedStage := goodIn_r _ [5, 6, 7, 8, 9, 3, 10, 11, 12, 13, 14, 15, 37, 38, 39, 40, 41, 42, 43, 44, 45, 46] rfl (by decide +kernel)
set_option maxRecDepth 20000 in
theorem gX8_together_X3_closedStage_n166 : GoodIn wsX8_together (wsX3_closedStage) := ggX8_together_X3_closedStage
set_option maxRecDepth 20000 in
theorem ggX8_together_X4_joiningGap : GoodIn wsX8_together wsX4_joiningGap := goodIn_r _ [19, 20, 21, 22, 23, 24, 25, 26, 27, 28, 17, 29, 30, 31, 47, 48, 49, 50, 51, 52, 53, 54, 55, 56, 57, 58, 59, 60, 61, 62, 63, 64, 65, 66, 67, 68, 69, 70, 71, 72, 73] rfl (by decide +kernel)
set_option maxRecDepth 20000 in
theorem gX8_together_X4_joiningGap_n191 : GoodIn wsX8_together (wsX4_joiningGap) := ggX8_together_X4_joiningGap
theorem dX8_together_0 : decode cX8_together 0 = .ok (.aload_n 0, 1) := by decide +kernel
theorem dX8_together_1 : decode cX8_together 1 = .ok (.getfield 10, 3) := by decide +kernel
theorem dX8_together_4 : decode cX8_together 4 = .ok (.iload_n 1, 1) := by decide +kernel
theorem dX8_together_5 : decode cX8_together 5 = .ok (.invokevirtual 166, 3) := by decide +kernel
theorem dX8_together_8 : decode cX8_together 8 = .ok (.astore_n 2, 1) := by decide +kernel
theorem dX8_together_9 : decode cX8_together 9 = .ok (.aload_n 2, 1) := by decide +kernel
theorem dX8_together_10 : decode cX8_together 10 = .ok (.ifnonnull 7, 3) := by decide +kernel
theorem dX8_together_13 : decode cX8_together 13 = .ok (.iconst (-1), 1) := by decide +kernel
theorem dX8_together_14 : decode cX8_together 14 = .ok (.goto 7, 3) := by decide +kernel
theorem dX8_together_17 : decode cX8_together 17 = .ok (.aload_n 2, 1) := by decide +kernel
theorem dX8_together_18 : decode cX8_together 18 = .ok (.invokevirtual 191, 3) := by decide +kernel
theorem dX8_together_21 : decode cX8_together 21 = .ok (.ireturn, 1) := by decide +kernel
set_option maxRecDepth 20000 in
theorem ggX8_escaped_X3_closedStage : GoodIn wsX8_escaped wsX3_closedStage := goodIn_r _ [5, 6, 7, 8, 9, 3, 10, 11, 12, 13, 14, 15, 32, 33, 34, 35, 36, 37, 38, 39, 40, 41] rfl (by decide +kernel)
set_option maxRecDepth 20000 in
theorem gX8_escaped_X3_closedStage_n166 : GoodIn wsX8_escaped (wsX3_closedStage) := ggX8_escaped_X3_closedStage
set_option maxRecDepth 20000 in
theorem ggX8_escaped_X4_aheadOfWidest : GoodIn wsX8_escaped wsX4_aheadOfWidest := goodIn_r _ [19, 20, 21, 22, 23, 17, 24, 25, 26, 42, 43, 44, 45, 46, 47, 48, 49, 50, 51, 52, 53, 54, 55, 56, 57, 58, 59, 60, 61] rfl (by decide +kernel)
set_option maxRecDepth 20000 in
theorem gX8_escaped_X4_aheadOfWidest_n194 : GoodIn wsX8_escaped (wsX4_aheadOfWidest) := ggX8_escaped_X4_aheadOfWidest
theorem dX8_escaped_0 : decode cX8_escaped 0 = .ok (.aload_n 0, 1) := by decide +kernel
theorem dX8_escaped_1 : decode cX8_escaped 1 = .ok (.getfield 10, 3) := by decide +kernel
theorem dX8_escaped_4 : decode cX8_escaped 4 = .ok (.iload_n 1, 1) := by decide +kernel
theorem dX8_escaped_5 : decode cX8_escaped 5 = .ok (.invokevirtual 166, 3) := by decide +kernel
theorem dX8_escaped_8 : decode cX8_escaped 8 = .ok (.astore_n 2, 1) := by decide +kernel
theorem dX8_escaped_9 : decode cX8_escaped 9 = .ok (.aload_n 2, 1) := by decide +kernel
theorem dX8_escaped_10 : decode cX8_escaped 10 = .ok (.ifnonnull 7, 3) := by decide +kernel
theorem dX8_escaped_13 : decode cX8_escaped 13 = .ok (.iconst (-1), 1) := by decide +kernel
theorem dX8_escaped_14 : decode cX8_escaped 14 = .ok (.goto 7, 3) := by decide +kernel
theorem dX8_escaped_17 : decode cX8_escaped 17 = .ok (.aload_n 2, 1) := by decide +kernel
theorem dX8_escaped_18 : decode cX8_escaped 18 = .ok (.invokevirtual 194, 3) := by decide +kernel
theorem dX8_escaped_21 : decode cX8_escaped 21 = .ok (.ireturn, 1) := by decide +kernel
set_option maxRecDepth 20000 in
theorem ggX8_list_X5_rankList : GoodIn wsX8_list wsX5_rankList := goodIn_r _ [6, 7, 8, 9, 10, 11, 12, 13, 14, 15, 16, 4, 17, 18, 19, 20, 21, 22, 23, 24, 25, 26, 27, 28, 29, 30, 31, 32, 33, 34, 35, 36, 37, 38, 39, 40, 41, 42, 43, 44, 45, 46, 47, 48, 49, 50, 51, 52, 53, 54, 55, 56, 57, 58, 59, 60, 61, 62, 63, 64, 65, 66, 67, 68, 69, 70, 71, 72, 73, 74, 75, 76, 77, 78, 79, 80, 81, 82, 83, 84, 85, 86, 87, 88, 89, 90, 99, 100, 101, 102, 103, 104, 105, 106, 107, 108, 109, 110, 111, 112, 113, 114, 115, 116, 117, 118, 119, 120, 121, 122, 123, 124, 125, 126, 127, 128, 129, 130, 131, 132, 133, 134, 135, 136] rfl (by decide +kernel)
set_option maxRecDepth 20000 in
theorem gX8_list_X5_rankList_n197 : GoodIn wsX8_list (wsX5_rankList) := ggX8_list_X5_rankList
set_option maxRecDepth 20000 in
theorem ggX8_list_X5_entry : GoodIn wsX8_list wsX5_entry := goodIn_r _ [93, 7, 45, 72, 73, 74, 99, 100, 101, 102, 103] rfl (by decide +kernel)
set_option maxRecDepth 20000 in
theorem gX8_list_X5_entry_n201 : GoodIn wsX8_list (wsX5_entry) := ggX8_list_X5_entry
theorem dX8_list_0 : decode cX8_list 0 = .ok (.aload_n 0, 1) := by decide +kernel
theorem dX8_list_1 : decode cX8_list 1 = .ok (.getfield 26, 3) := by decide +kernel
theorem dX8_list_4 : decode cX8_list 4 = .ok (.aload_n 0, 1) := by decide +kernel
theorem dX8_list_5 : decode cX8_list 5 = .ok (.getfield 10, 3) := by decide +kernel
theorem dX8_list_8 : decode cX8_list 8 = .ok (.iload_n 1, 1) := by decide +kernel
theorem dX8_list_9 : decode cX8_list 9 = .ok (.invokevirtual 197, 3) := by decide +kernel
theorem dX8_list_12 : decode cX8_list 12 = .ok (.aload_n 0, 1) := by decide +kernel
theorem dX8_list_13 : decode cX8_list 13 = .ok (.getfield 26, 3) := by decide +kernel
theorem dX8_list_16 : decode cX8_list 16 = .ok (.iload_n 2, 1) := by decide +kernel
theorem dX8_list_17 : decode cX8_list 17 = .ok (.invokevirtual 201, 3) := by decide +kernel
theorem dX8_list_20 : decode cX8_list 20 = .ok (.ireturn, 1) := by decide +kernel
set_option maxRecDepth 20000 in
theorem ggX8_total_X3_isIn : GoodIn wsX8_total wsX3_isIn := goodIn_r _ [6, 7, 8, 9, 10, 4, 11, 12, 13, 14, 15, 61, 62, 63, 64, 65, 66, 67, 68, 69, 70] rfl (by decide +kernel)
set_option maxRecDepth 20000 in
theorem gX8_total_X3_isIn_n204 : GoodIn wsX8_total (wsX3_isIn) := ggX8_total_X3_isIn
set_option maxRecDepth 20000 in
theorem ggX8_total_X3_sumOf : GoodIn wsX8_total wsX3_sumOf := goodIn_r _ [18, 19, 20, 21, 22, 4, 23, 24, 25, 26, 27, 28, 29, 30, 31, 32, 33, 34, 61, 62, 63, 64, 65, 66, 67, 68, 69, 70, 71, 72, 73, 74, 75, 76, 77, 78, 79, 80, 81, 82, 83, 84, 85, 86, 87, 88, 89, 90, 91, 92, 93] rfl (by decide +kernel)
set_option maxRecDepth 20000 in
theorem gX8_total_X3_sumOf_n207 : GoodIn wsX8_total (wsX3_sumOf) := ggX8_total_X3_sumOf
set_option maxRecDepth 20000 in
theorem ggX8_total_X3_isRanked : GoodIn wsX8_total wsX3_isRanked := goodIn_r _ [37, 38, 12, 7, 39, 20, 21, 22, 4, 23, 24, 25, 13, 14, 15, 61, 62, 63, 64, 65, 66, 67, 68, 69, 70] rfl (by decide +kernel)
set_option maxRecDepth 20000 in
theorem gX8_total_X3_isRanked_n211 : GoodIn wsX8_total (wsX3_isRanked) := ggX8_total_X3_isRanked
set_option maxRecDepth 20000 in
theorem ggX8_total_X3_teamSum : GoodIn wsX8_total wsX3_teamSum := goodIn_r _ [42, 19, 39, 20, 21, 22, 4, 23, 24, 25, 43, 27, 44, 45, 46, 47, 48, 32, 49, 50, 51, 52, 53, 54, 55, 31, 61, 62, 63, 64, 65, 66, 67, 68, 69, 70, 71, 72, 73, 74, 75, 76, 77, 78, 79, 80, 81, 82, 83, 84, 85, 86, 87, 88, 89, 90] rfl (by decide +kernel)
set_option maxRecDepth 20000 in
theorem gX8_total_X3_teamSum_n214 : GoodIn wsX8_total (wsX3_teamSum) := ggX8_total_X3_teamSum
theorem dX8_total_0 : decode cX8_total 0 = .ok (.iload_n 2, 1) := by decide +kernel
theorem dX8_total_1 : decode cX8_total 1 = .ok (.ifCond .ne 29, 3) := by decide +kernel
theorem dX8_total_4 : decode cX8_total 4 = .ok (.aload_n 0, 1) := by decide +kernel
theorem dX8_total_5 : decode cX8_total 5 = .ok (.getfield 10, 3) := by decide +kernel
theorem dX8_total_8 : decode cX8_total 8 = .ok (.iload_n 1, 1) := by decide +kernel
theorem dX8_total_9 : decode cX8_total 9 = .ok (.invokevirtual 204, 3) := by decide +kernel
theorem dX8_total_12 : decode cX8_total 12 = .ok (.ifCond .eq 15, 3) := by decide +kernel
theorem dX8_total_15 : decode cX8_total 15 = .ok (.aload_n 0, 1) := by decide +kernel
theorem dX8_total_16 : decode cX8_total 16 = .ok (.getfield 10, 3) := by decide +kernel
theorem dX8_total_19 : decode cX8_total 19 = .ok (.iload_n 1, 1) := by decide +kernel
theorem dX8_total_20 : decode cX8_total 20 = .ok (.iconst (-1), 1) := by decide +kernel
theorem dX8_total_21 : decode cX8_total 21 = .ok (.invokevirtual 207, 3) := by decide +kernel
theorem dX8_total_24 : decode cX8_total 24 = .ok (.goto 5, 3) := by decide +kernel
theorem dX8_total_27 : decode cX8_total 27 = .ok (.ldc 210, 2) := by decide +kernel
theorem dX8_total_29 : decode cX8_total 29 = .ok (.ireturn, 1) := by decide +kernel
theorem dX8_total_30 : decode cX8_total 30 = .ok (.aload_n 0, 1) := by decide +kernel
theorem dX8_total_31 : decode cX8_total 31 = .ok (.getfield 10, 3) := by decide +kernel
theorem dX8_total_34 : decode cX8_total 34 = .ok (.iload_n 1, 1) := by decide +kernel
theorem dX8_total_35 : decode cX8_total 35 = .ok (.invokevirtual 211, 3) := by decide +kernel
theorem dX8_total_38 : decode cX8_total 38 = .ok (.ifCond .eq 14, 3) := by decide +kernel
theorem dX8_total_41 : decode cX8_total 41 = .ok (.aload_n 0, 1) := by decide +kernel
theorem dX8_total_42 : decode cX8_total 42 = .ok (.getfield 10, 3) := by decide +kernel
theorem dX8_total_45 : decode cX8_total 45 = .ok (.iload_n 1, 1) := by decide +kernel
theorem dX8_total_46 : decode cX8_total 46 = .ok (.invokevirtual 214, 3) := by decide +kernel
theorem dX8_total_49 : decode cX8_total 49 = .ok (.goto 5, 3) := by decide +kernel
theorem dX8_total_52 : decode cX8_total 52 = .ok (.ldc 210, 2) := by decide +kernel
theorem dX8_total_54 : decode cX8_total 54 = .ok (.ireturn, 1) := by decide +kernel
set_option maxRecDepth 20000 in
theorem ggX8_jersey_X8_within : GoodIn wsX8_jersey wsX8_within := goodIn_r _ [6] rfl (by decide +kernel)
set_option maxRecDepth 20000 in
theorem gX8_jersey_X8_within : GoodIn wsX8_jersey (va_wsS RX8 45 yX8_within wsX8_within) := goodIn_app (goodIn_of _ (by decide +kernel)) ggX8_jersey_X8_within
set_option maxRecDepth 20000 in
theorem ggX8_jersey_X5_wearer : GoodIn wsX8_jersey wsX5_wearer := goodIn_r _ [10, 11, 12, 13, 8, 14, 15, 16, 17, 18, 19, 20, 21, 22, 23, 24, 25, 26, 27, 28, 29, 30, 31, 32, 33, 34, 35, 36, 37, 38, 39, 40, 41, 42, 43, 44, 45, 46, 47, 48, 49, 50, 51, 52, 53, 54, 55, 56, 57, 58, 59, 60, 61, 62, 63, 64, 65, 66, 67, 68, 69, 70, 71, 72, 73, 74, 75, 76, 77, 78, 79, 4, 5, 6, 80, 81, 82, 83, 84, 85, 86, 87, 88, 89, 90, 91, 92, 93, 94, 95, 96, 97, 98, 99, 108, 109, 110, 111, 112, 113, 114, 115, 116, 117, 118, 119, 120, 121, 122, 123, 124, 125, 126, 127, 128, 129, 130, 131, 132, 133, 134, 135, 136, 137, 138, 139, 140, 141, 142, 143, 144, 145] rfl (by decide +kernel)
set_option maxRecDepth 20000 in
theorem gX8_jersey_X5_wearer_n217 : GoodIn wsX8_jersey (wsX5_wearer) := ggX8_jersey_X5_wearer
set_option maxRecDepth 20000 in
theorem ggX8_jersey_X5_rankList : GoodIn wsX8_jersey wsX5_rankList := goodIn_r _ [14, 15, 16, 17, 18, 19, 20, 21, 22, 23, 24, 8, 25, 26, 27, 28, 29, 30, 31, 32, 33, 34, 35, 36, 37, 38, 39, 40, 41, 42, 43, 44, 45, 46, 47, 48, 49, 50, 51, 52, 53, 54, 55, 56, 57, 58, 59, 60, 61, 62, 63, 64, 65, 66, 67, 68, 69, 70, 71, 72, 73, 74, 75, 76, 77, 78, 79, 4, 5, 6, 80, 81, 82, 83, 84, 85, 86, 87, 88, 89, 90, 91, 92, 93, 94, 95, 108, 109, 110, 111, 112, 113, 114, 115, 116, 117, 118, 119, 120, 121, 122, 123, 124, 125, 126, 127, 128, 129, 130, 131, 132, 133, 134, 135, 136, 137, 138, 139, 140, 141, 142, 143, 144, 145] rfl (by decide +kernel)
set_option maxRecDepth 20000 in
theorem gX8_jersey_X5_rankList_n197 : GoodIn wsX8_jersey (wsX5_rankList) := ggX8_jersey_X5_rankList
set_option maxRecDepth 20000 in
theorem ggX8_jersey_X5_entry : GoodIn wsX8_jersey wsX5_entry := goodIn_r _ [102, 15, 53, 4, 5, 6, 108, 109, 110, 111, 112] rfl (by decide +kernel)
set_option maxRecDepth 20000 in
theorem gX8_jersey_X5_entry_n201 : GoodIn wsX8_jersey (wsX5_entry) := ggX8_jersey_X5_entry
theorem dX8_jersey_0 : decode cX8_jersey 0 = .ok (.iload_n 1, 1) := by decide +kernel
theorem dX8_jersey_1 : decode cX8_jersey 1 = .ok (.iconst 0, 1) := by decide +kernel
theorem dX8_jersey_2 : decode cX8_jersey 2 = .ok (.iconst 3, 1) := by decide +kernel
theorem dX8_jersey_3 : decode cX8_jersey 3 = .ok (.invokestatic 45, 3) := by decide +kernel
theorem dX8_jersey_6 : decode cX8_jersey 6 = .ok (.ifCond .ne 5, 3) := by decide +kernel
theorem dX8_jersey_9 : decode cX8_jersey 9 = .ok (.iconst (-1), 1) := by decide +kernel
theorem dX8_jersey_10 : decode cX8_jersey 10 = .ok (.ireturn, 1) := by decide +kernel
theorem dX8_jersey_11 : decode cX8_jersey 11 = .ok (.iload_n 2, 1) := by decide +kernel
theorem dX8_jersey_12 : decode cX8_jersey 12 = .ok (.ifCond .ne 16, 3) := by decide +kernel
theorem dX8_jersey_15 : decode cX8_jersey 15 = .ok (.aload_n 0, 1) := by decide +kernel
theorem dX8_jersey_16 : decode cX8_jersey 16 = .ok (.getfield 26, 3) := by decide +kernel
theorem dX8_jersey_19 : decode cX8_jersey 19 = .ok (.aload_n 0, 1) := by decide +kernel
theorem dX8_jersey_20 : decode cX8_jersey 20 = .ok (.getfield 10, 3) := by decide +kernel
theorem dX8_jersey_23 : decode cX8_jersey 23 = .ok (.iload_n 1, 1) := by decide +kernel
theorem dX8_jersey_24 : decode cX8_jersey 24 = .ok (.invokevirtual 217, 3) := by decide +kernel
theorem dX8_jersey_27 : decode cX8_jersey 27 = .ok (.ireturn, 1) := by decide +kernel
theorem dX8_jersey_28 : decode cX8_jersey 28 = .ok (.aload_n 0, 1) := by decide +kernel
theorem dX8_jersey_29 : decode cX8_jersey 29 = .ok (.getfield 26, 3) := by decide +kernel
theorem dX8_jersey_32 : decode cX8_jersey 32 = .ok (.aload_n 0, 1) := by decide +kernel
theorem dX8_jersey_33 : decode cX8_jersey 33 = .ok (.getfield 10, 3) := by decide +kernel
theorem dX8_jersey_36 : decode cX8_jersey 36 = .ok (.iload_n 1, 1) := by decide +kernel
theorem dX8_jersey_37 : decode cX8_jersey 37 = .ok (.invokevirtual 197, 3) := by decide +kernel
theorem dX8_jersey_40 : decode cX8_jersey 40 = .ok (.aload_n 0, 1) := by decide +kernel
theorem dX8_jersey_41 : decode cX8_jersey 41 = .ok (.getfield 26, 3) := by decide +kernel
theorem dX8_jersey_44 : decode cX8_jersey 44 = .ok (.iconst 0, 1) := by decide +kernel
theorem dX8_jersey_45 : decode cX8_jersey 45 = .ok (.invokevirtual 201, 3) := by decide +kernel
theorem dX8_jersey_48 : decode cX8_jersey 48 = .ok (.ireturn, 1) := by decide +kernel
set_option maxRecDepth 20000 in
theorem ggX8_needs_X3_isIn : GoodIn wsX8_needs wsX3_isIn := goodIn_r _ [6, 7, 8, 9, 10, 4, 11, 12, 13, 14, 15, 70, 71, 72, 73, 74, 75, 76, 77, 78, 79] rfl (by decide +kernel)
set_option maxRecDepth 20000 in
theorem gX8_needs_X3_isIn_n204 : GoodIn wsX8_needs (wsX3_isIn) := ggX8_needs_X3_isIn
set_option maxRecDepth 20000 in
theorem ggX8_needs_X3_closed : GoodIn wsX8_needs wsX3_closed := goodIn_r _ [18, 19, 20, 70, 71, 72, 73, 74, 75, 76, 77, 78, 79] rfl (by decide +kernel)
set_option maxRecDepth 20000 in
theorem gX8_needs_X3_closed_n137 : GoodIn wsX8_needs (wsX3_closed) := ggX8_needs_X3_closed
set_option maxRecDepth 20000 in
theorem ggX8_needs_X5_rankRiders : GoodIn wsX8_needs wsX5_rankRiders := goodIn_r _ [24, 25, 26, 27, 28, 4, 29, 30, 31, 32, 16, 17, 18, 19, 20, 33, 34, 35, 36, 37, 38, 39, 40, 41, 42, 43, 44, 45, 46, 47, 48, 49, 50, 51, 22, 52, 53, 54, 55, 56, 57, 80, 81, 82, 83, 84, 70, 71, 72, 73, 74, 75, 76, 77, 78, 79, 85, 86, 87, 88, 89, 90, 91, 92, 93, 94, 95, 96, 97, 98, 99, 100, 101, 102, 103, 104, 105, 106, 107] rfl (by decide +kernel)
set_option maxRecDepth 20000 in
theorem gX8_needs_X5_rankRiders_n221 : GoodIn wsX8_needs (wsX5_rankRiders) := ggX8_needs_X5_rankRiders
set_option maxRecDepth 20000 in
theorem ggX8_needs_X5_lacking : GoodIn wsX8_needs wsX5_lacking := goodIn_r _ [60, 26, 27, 61, 62, 63, 22, 64, 25, 53, 13, 14, 15, 80, 81, 82, 83, 84] rfl (by decide +kernel)
set_option maxRecDepth 20000 in
theorem gX8_needs_X5_lacking_n225 : GoodIn wsX8_needs (wsX5_lacking) := ggX8_needs_X5_lacking
theorem dX8_needs_0 : decode cX8_needs 0 = .ok (.aload_n 0, 1) := by decide +kernel
theorem dX8_needs_1 : decode cX8_needs 1 = .ok (.getfield 10, 3) := by decide +kernel
theorem dX8_needs_4 : decode cX8_needs 4 = .ok (.iload_n 1, 1) := by decide +kernel
theorem dX8_needs_5 : decode cX8_needs 5 = .ok (.invokevirtual 204, 3) := by decide +kernel
theorem dX8_needs_8 : decode cX8_needs 8 = .ok (.ifCond .eq 13, 3) := by decide +kernel
theorem dX8_needs_11 : decode cX8_needs 11 = .ok (.aload_n 0, 1) := by decide +kernel
theorem dX8_needs_12 : decode cX8_needs 12 = .ok (.getfield 10, 3) := by decide +kernel
theorem dX8_needs_15 : decode cX8_needs 15 = .ok (.invokevirtual 137, 3) := by decide +kernel
theorem dX8_needs_18 : decode cX8_needs 18 = .ok (.ifCond .ne 5, 3) := by decide +kernel
theorem dX8_needs_21 : decode cX8_needs 21 = .ok (.iconst (-1), 1) := by decide +kernel
theorem dX8_needs_22 : decode cX8_needs 22 = .ok (.ireturn, 1) := by decide +kernel
theorem dX8_needs_23 : decode cX8_needs 23 = .ok (.aload_n 0, 1) := by decide +kernel
theorem dX8_needs_24 : decode cX8_needs 24 = .ok (.getfield 26, 3) := by decide +kernel
theorem dX8_needs_27 : decode cX8_needs 27 = .ok (.aload_n 0, 1) := by decide +kernel
theorem dX8_needs_28 : decode cX8_needs 28 = .ok (.getfield 10, 3) := by decide +kernel
theorem dX8_needs_31 : decode cX8_needs 31 = .ok (.iconst (-1), 1) := by decide +kernel
theorem dX8_needs_32 : decode cX8_needs 32 = .ok (.bipush 50, 2) := by decide +kernel
theorem dX8_needs_34 : decode cX8_needs 34 = .ok (.invokevirtual 221, 3) := by decide +kernel
theorem dX8_needs_37 : decode cX8_needs 37 = .ok (.aload_n 0, 1) := by decide +kernel
theorem dX8_needs_38 : decode cX8_needs 38 = .ok (.getfield 26, 3) := by decide +kernel
theorem dX8_needs_41 : decode cX8_needs 41 = .ok (.iload_n 1, 1) := by decide +kernel
theorem dX8_needs_42 : decode cX8_needs 42 = .ok (.invokevirtual 225, 3) := by decide +kernel
theorem dX8_needs_45 : decode cX8_needs 45 = .ok (.ireturn, 1) := by decide +kernel
set_option maxRecDepth 20000 in
theorem ggX8_without_X3_closedStage : GoodIn wsX8_without wsX3_closedStage := goodIn_r _ [6, 7, 8, 9, 10, 4, 11, 12, 13, 14, 15, 16, 60, 61, 62, 63, 64, 65, 66, 67, 68, 69] rfl (by decide +kernel)
set_option maxRecDepth 20000 in
theorem gX8_without_X3_closedStage_n166 : GoodIn wsX8_without (wsX3_closedStage) := ggX8_without_X3_closedStage
set_option maxRecDepth 20000 in
theorem ggX8_without_X5_rankRiders : GoodIn wsX8_without wsX5_rankRiders := goodIn_r _ [20, 21, 22, 23, 24, 4, 25, 26, 7, 8, 9, 10, 11, 12, 13, 27, 28, 29, 30, 31, 32, 33, 34, 35, 36, 37, 38, 39, 40, 41, 42, 43, 44, 45, 18, 46, 47, 48, 49, 50, 51, 70, 71, 72, 73, 74, 60, 61, 62, 63, 64, 65, 66, 67, 68, 69, 75, 76, 77, 78, 79, 80, 81, 82, 83, 84, 85, 86, 87, 88, 89, 90, 91, 92, 93, 94, 95, 96, 97] rfl (by decide +kernel)
set_option maxRecDepth 20000 in
theorem gX8_without_X5_rankRiders_n221 : GoodIn wsX8_without (wsX5_rankRiders) := ggX8_without_X5_rankRiders
set_option maxRecDepth 20000 in
theorem ggX8_without_X5_entry : GoodIn wsX8_without wsX5_entry := goodIn_r _ [54, 21, 47, 14, 15, 16, 70, 71, 72, 73, 74] rfl (by decide +kernel)
set_option maxRecDepth 20000 in
theorem gX8_without_X5_entry_n201 : GoodIn wsX8_without (wsX5_entry) := ggX8_without_X5_entry
theorem dX8_without_0 : decode cX8_without 0 = .ok (.aload_n 0, 1) := by decide +kernel
theorem dX8_without_1 : decode cX8_without 1 = .ok (.getfield 10, 3) := by decide +kernel
theorem dX8_without_4 : decode cX8_without 4 = .ok (.iload_n 1, 1) := by decide +kernel
theorem dX8_without_5 : decode cX8_without 5 = .ok (.invokevirtual 166, 3) := by decide +kernel
theorem dX8_without_8 : decode cX8_without 8 = .ok (.ifnonnull 5, 3) := by decide +kernel
theorem dX8_without_11 : decode cX8_without 11 = .ok (.iconst (-1), 1) := by decide +kernel
theorem dX8_without_12 : decode cX8_without 12 = .ok (.ireturn, 1) := by decide +kernel
theorem dX8_without_13 : decode cX8_without 13 = .ok (.aload_n 0, 1) := by decide +kernel
theorem dX8_without_14 : decode cX8_without 14 = .ok (.getfield 26, 3) := by decide +kernel
theorem dX8_without_17 : decode cX8_without 17 = .ok (.aload_n 0, 1) := by decide +kernel
theorem dX8_without_18 : decode cX8_without 18 = .ok (.getfield 10, 3) := by decide +kernel
theorem dX8_without_21 : decode cX8_without 21 = .ok (.iload_n 1, 1) := by decide +kernel
theorem dX8_without_22 : decode cX8_without 22 = .ok (.bipush 50, 2) := by decide +kernel
theorem dX8_without_24 : decode cX8_without 24 = .ok (.invokevirtual 221, 3) := by decide +kernel
theorem dX8_without_27 : decode cX8_without 27 = .ok (.aload_n 0, 1) := by decide +kernel
theorem dX8_without_28 : decode cX8_without 28 = .ok (.getfield 26, 3) := by decide +kernel
theorem dX8_without_31 : decode cX8_without 31 = .ok (.iconst 0, 1) := by decide +kernel
theorem dX8_without_32 : decode cX8_without 32 = .ok (.invokevirtual 201, 3) := by decide +kernel
theorem dX8_without_35 : decode cX8_without 35 = .ok (.ireturn, 1) := by decide +kernel
set_option maxRecDepth 20000 in
theorem ggX8_caught_X0_canBe : GoodIn wsX8_caught wsX0_canBe := goodIn_r _ [3, 4, 5, 6] rfl (by decide +kernel)
set_option maxRecDepth 20000 in
theorem gX8_caught_X0_canBe_n228 : GoodIn wsX8_caught (wsX0_canBe) := ggX8_caught_X0_canBe
set_option maxRecDepth 20000 in
theorem ggX8_caught_X8_within : GoodIn wsX8_caught wsX8_within := goodIn_r _ [6] rfl (by decide +kernel)
set_option maxRecDepth 20000 in
theorem gX8_caught_X8_within : GoodIn wsX8_caught (va_wsS RX8 45 yX8_within wsX8_within) := goodIn_app (goodIn_of _ (by decide +kernel)) ggX8_caught_X8_within
set_option maxRecDepth 20000 in
theorem ggX8_caught_X0_metresLeft : GoodIn wsX8_caught wsX0_metresLeft := goodIn_r _ [9, 10, 11, 12, 13, 2, 14, 15, 16, 17, 18, 19] rfl (by decide +kernel)
set_option maxRecDepth 20000 in
theorem gX8_caught_X0_metresLeft_n233 : GoodIn wsX8_caught (wsX0_metresLeft) := ggX8_caught_X0_metresLeft
theorem dX8_caught_0 : decode cX8_caught 0 = .ok (.iload_n 1, 1) := by decide +kernel
theorem dX8_caught_1 : decode cX8_caught 1 = .ok (.iload_n 3, 1) := by decide +kernel
theorem dX8_caught_2 : decode cX8_caught 2 = .ok (.iload 4, 2) := by decide +kernel
theorem dX8_caught_4 : decode cX8_caught 4 = .ok (.invokestatic 228, 3) := by decide +kernel
theorem dX8_caught_7 : decode cX8_caught 7 = .ok (.ifCond .eq 14, 3) := by decide +kernel
theorem dX8_caught_10 : decode cX8_caught 10 = .ok (.iload_n 2, 1) := by decide +kernel
theorem dX8_caught_11 : decode cX8_caught 11 = .ok (.iconst 0, 1) := by decide +kernel
theorem dX8_caught_12 : decode cX8_caught 12 = .ok (.sipush 3600, 3) := by decide +kernel
theorem dX8_caught_15 : decode cX8_caught 15 = .ok (.invokestatic 45, 3) := by decide +kernel
theorem dX8_caught_18 : decode cX8_caught 18 = .ok (.ifCond .ne 5, 3) := by decide +kernel
theorem dX8_caught_21 : decode cX8_caught 21 = .ok (.iconst (-1), 1) := by decide +kernel
theorem dX8_caught_22 : decode cX8_caught 22 = .ok (.ireturn, 1) := by decide +kernel
theorem dX8_caught_23 : decode cX8_caught 23 = .ok (.iload_n 1, 1) := by decide +kernel
theorem dX8_caught_24 : decode cX8_caught 24 = .ok (.iload_n 2, 1) := by decide +kernel
theorem dX8_caught_25 : decode cX8_caught 25 = .ok (.iload_n 3, 1) := by decide +kernel
theorem dX8_caught_26 : decode cX8_caught 26 = .ok (.iload 4, 2) := by decide +kernel
theorem dX8_caught_28 : decode cX8_caught 28 = .ok (.invokestatic 233, 3) := by decide +kernel
theorem dX8_caught_31 : decode cX8_caught 31 = .ok (.ireturn, 1) := by decide +kernel
set_option maxRecDepth 20000 in
theorem ggX8_holds_X0_canBe : GoodIn wsX8_holds wsX0_canBe := goodIn_r _ [3, 4, 5, 6] rfl (by decide +kernel)
set_option maxRecDepth 20000 in
theorem gX8_holds_X0_canBe_n228 : GoodIn wsX8_holds (wsX0_canBe) := ggX8_holds_X0_canBe
set_option maxRecDepth 20000 in
theorem ggX8_holds_X0_leastAhead : GoodIn wsX8_holds wsX0_leastAhead := goodIn_r _ [8, 9, 10, 11, 12, 2, 13, 14, 15, 16, 17, 18] rfl (by decide +kernel)
set_option maxRecDepth 20000 in
theorem gX8_holds_X0_leastAhead_n237 : GoodIn wsX8_holds (wsX0_leastAhead) := ggX8_holds_X0_leastAhead
theorem dX8_holds_0 : decode cX8_holds 0 = .ok (.iload_n 1, 1) := by decide +kernel
theorem dX8_holds_1 : decode cX8_holds 1 = .ok (.iload_n 2, 1) := by decide +kernel
theorem dX8_holds_2 : decode cX8_holds 2 = .ok (.iload_n 3, 1) := by decide +kernel
theorem dX8_holds_3 : decode cX8_holds 3 = .ok (.invokestatic 228, 3) := by decide +kernel
theorem dX8_holds_6 : decode cX8_holds 6 = .ok (.ifCond .eq 12, 3) := by decide +kernel
theorem dX8_holds_9 : decode cX8_holds 9 = .ok (.iload_n 1, 1) := by decide +kernel
theorem dX8_holds_10 : decode cX8_holds 10 = .ok (.iload_n 2, 1) := by decide +kernel
theorem dX8_holds_11 : decode cX8_holds 11 = .ok (.iload_n 3, 1) := by decide +kernel
theorem dX8_holds_12 : decode cX8_holds 12 = .ok (.invokestatic 237, 3) := by decide +kernel
theorem dX8_holds_15 : decode cX8_holds 15 = .ok (.goto 4, 3) := by decide +kernel
theorem dX8_holds_18 : decode cX8_holds 18 = .ok (.iconst (-1), 1) := by decide +kernel
theorem dX8_holds_19 : decode cX8_holds 19 = .ok (.ireturn, 1) := by decide +kernel
set_option maxRecDepth 20000 in
theorem ggX8_chase_X8_caught : GoodIn wsX8_chase wsX8_caught := goodIn_r _ [5, 6, 7, 8, 9, 4, 10, 11, 12, 13, 14, 15, 16, 17, 18, 19, 20, 21, 22, 23] rfl (by decide +kernel)
set_option maxRecDepth 20000 in
theorem gX8_chase_X8_caught : GoodIn wsX8_chase (wsV RX8 241 RX8 yX8_caught wsX8_caught) := goodIn_app (goodIn_of _ (by decide +kernel)) ggX8_chase_X8_caught
theorem dX8_chase_0 : decode cX8_chase 0 = .ok (.iconst 1, 1) := by decide +kernel
theorem dX8_chase_1 : decode cX8_chase 1 = .ok (.istore 4, 2) := by decide +kernel
theorem dX8_chase_3 : decode cX8_chase 3 = .ok (.iload 4, 2) := by decide +kernel
theorem dX8_chase_5 : decode cX8_chase 5 = .ok (.bipush 16, 2) := by decide +kernel
theorem dX8_chase_7 : decode cX8_chase 7 = .ok (.if_icmp .gt 25, 3) := by decide +kernel
theorem dX8_chase_10 : decode cX8_chase 10 = .ok (.aload_n 0, 1) := by decide +kernel
theorem dX8_chase_11 : decode cX8_chase 11 = .ok (.iload_n 1, 1) := by decide +kernel
theorem dX8_chase_12 : decode cX8_chase 12 = .ok (.iload_n 2, 1) := by decide +kernel
theorem dX8_chase_13 : decode cX8_chase 13 = .ok (.iload_n 3, 1) := by decide +kernel
theorem dX8_chase_14 : decode cX8_chase 14 = .ok (.iload 4, 2) := by decide +kernel
theorem dX8_chase_16 : decode cX8_chase 16 = .ok (.invokevirtual 241, 3) := by decide +kernel
theorem dX8_chase_19 : decode cX8_chase 19 = .ok (.iconst (-1), 1) := by decide +kernel
theorem dX8_chase_20 : decode cX8_chase 20 = .ok (.if_icmp .eq 6, 3) := by decide +kernel
theorem dX8_chase_23 : decode cX8_chase 23 = .ok (.iload 4, 2) := by decide +kernel
theorem dX8_chase_25 : decode cX8_chase 25 = .ok (.ireturn, 1) := by decide +kernel
theorem dX8_chase_26 : decode cX8_chase 26 = .ok (.iinc 4 1, 3) := by decide +kernel
theorem dX8_chase_29 : decode cX8_chase 29 = .ok (.goto (-26), 3) := by decide +kernel
theorem dX8_chase_32 : decode cX8_chase 32 = .ok (.iconst (-1), 1) := by decide +kernel
theorem dX8_chase_33 : decode cX8_chase 33 = .ok (.ireturn, 1) := by decide +kernel
theorem dX8_within_0 : decode cX8_within 0 = .ok (.iload_n 0, 1) := by decide +kernel
theorem dX8_within_1 : decode cX8_within 1 = .ok (.iload_n 1, 1) := by decide +kernel
theorem dX8_within_2 : decode cX8_within 2 = .ok (.if_icmp .lt 12, 3) := by decide +kernel
theorem dX8_within_5 : decode cX8_within 5 = .ok (.iload_n 0, 1) := by decide +kernel
theorem dX8_within_6 : decode cX8_within 6 = .ok (.iload_n 2, 1) := by decide +kernel
theorem dX8_within_7 : decode cX8_within 7 = .ok (.if_icmp .gt 7, 3) := by decide +kernel
theorem dX8_within_10 : decode cX8_within 10 = .ok (.iconst 1, 1) := by decide +kernel
theorem dX8_within_11 : decode cX8_within 11 = .ok (.goto 4, 3) := by decide +kernel
theorem dX8_within_14 : decode cX8_within 14 = .ok (.iconst 0, 1) := by decide +kernel
theorem dX8_within_15 : decode cX8_within 15 = .ok (.ireturn, 1) := by decide +kernel
