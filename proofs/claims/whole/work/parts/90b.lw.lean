/-! the words of the law are words of the tables -/
set_option maxRecDepth 20000 in
theorem wlc_19 : ∀ w ∈ wsL_law0_r19, w ∈ lw_tbl := fun w h => (goodIn_p wsL_law0_r19 [805, 809, 813, 1584, 1588] (by decide +kernel) (by decide +kernel) w h).1
set_option maxRecDepth 20000 in
theorem wlc_20 : ∀ w ∈ wsL_law0_r20, w ∈ lw_tbl := fun w h => (goodIn_p wsL_law0_r20 [1592, 1596] (by decide +kernel) (by decide +kernel) w h).1
set_option maxRecDepth 20000 in
theorem wlc_21 : ∀ w ∈ wsL_law0_r21, w ∈ lw_tbl := fun w h => (goodIn_p wsL_law0_r21 [1603, 1607, 1234, 1611, 1616, 1620] (by decide +kernel) (by decide +kernel) w h).1
set_option maxRecDepth 20000 in
theorem wlc_22 : ∀ w ∈ wsL_law0_r22, w ∈ lw_tbl := fun w h => (goodIn_p wsL_law0_r22 [1624, 1242, 1249, 1253, 1257, 1261] (by decide +kernel) (by decide +kernel) w h).1
set_option maxRecDepth 20000 in
theorem wlc_23 : ∀ w ∈ wsL_law0_r23, w ∈ lw_tbl := fun w h => (goodIn_p wsL_law0_r23 [1264, 1629, 1638, 1272] (by decide +kernel) (by decide +kernel) w h).1
set_option maxRecDepth 20000 in
theorem wlc_24 : ∀ w ∈ wsL_law0_r24, w ∈ lw_tbl := fun w h => (goodIn_p wsL_law0_r24 [1276, 1280, 1284, 1287, 1295, 1298, 1645] (by decide +kernel) (by decide +kernel) w h).1
set_option maxRecDepth 20000 in
theorem wlc_25 : ∀ w ∈ wsL_law0_r25, w ∈ lw_tbl := fun w h => (goodIn_p wsL_law0_r25 [1649, 1306, 1654, 1315, 1659] (by decide +kernel) (by decide +kernel) w h).1
set_option maxRecDepth 20000 in
theorem wlc_26 : ∀ w ∈ wsL_law0_r26, w ∈ lw_tbl := fun w h => (goodIn_p wsL_law0_r26 [1323, 1665, 1331, 1670, 1340, 1348] (by decide +kernel) (by decide +kernel) w h).1
set_option maxRecDepth 20000 in
theorem wlc_27 : ∀ w ∈ wsL_law0_r27, w ∈ lw_tbl := fun w h => (goodIn_p wsL_law0_r27 [1676, 1360, 1364, 1368, 1372, 1376] (by decide +kernel) (by decide +kernel) w h).1
set_option maxRecDepth 20000 in
theorem wlc_28 : ∀ w ∈ wsL_law0_r28, w ∈ lw_tbl := fun w h => (goodIn_p wsL_law0_r28 [1380, 1384, 1387, 1391, 1395, 1399] (by decide +kernel) (by decide +kernel) w h).1
set_option maxRecDepth 20000 in
theorem wlc_29 : ∀ w ∈ wsL_law0_r29, w ∈ lw_tbl := fun w h => (goodIn_p wsL_law0_r29 [1403, 1414, 817, 1682, 821] (by decide +kernel) (by decide +kernel) w h).1
set_option maxRecDepth 20000 in
theorem wlc_30 : ∀ w ∈ wsL_law0_r30, w ∈ lw_tbl := fun w h => (goodIn_p wsL_law0_r30 [1230, 826, 1238, 831, 1268, 836] (by decide +kernel) (by decide +kernel) w h).1
set_option maxRecDepth 20000 in
theorem wlc_31 : ∀ w ∈ wsL_law0_r31, w ∈ lw_tbl := fun w h => (goodIn_p wsL_law0_r31 [1291, 841, 1302, 846, 1311, 851] (by decide +kernel) (by decide +kernel) w h).1
set_option maxRecDepth 20000 in
theorem wlc_32 : ∀ w ∈ wsL_law0_r32, w ∈ lw_tbl := fun w h => (goodIn_p wsL_law0_r32 [1319, 856, 1327, 861, 1336, 866] (by decide +kernel) (by decide +kernel) w h).1
set_option maxRecDepth 20000 in
theorem wlc_33 : ∀ w ∈ wsL_law0_r33, w ∈ lw_tbl := fun w h => (goodIn_p wsL_law0_r33 [1344, 871, 1352, 877, 1356, 882] (by decide +kernel) (by decide +kernel) w h).1
set_option maxRecDepth 20000 in
theorem wlc_34 : ∀ w ∈ wsL_law0_r34, w ∈ lw_tbl := fun w h => (goodIn_p wsL_law0_r34 [1422, 886, 1426, 890, 895, 1430] (by decide +kernel) (by decide +kernel) w h).1
set_option maxRecDepth 20000 in
theorem wlc_35 : ∀ w ∈ wsL_law0_r35, w ∈ lw_tbl := fun w h => (goodIn_p wsL_law0_r35 [1434, 1099, 1000, 1004] (by decide +kernel) (by decide +kernel) w h).1
set_option maxRecDepth 20000 in
theorem wlc_36 : ∀ w ∈ wsL_law0_r36, w ∈ lw_tbl := fun w h => (goodIn_p wsL_law0_r36 [1438, 1442, 1226, 901, 905, 910, 914] (by decide +kernel) (by decide +kernel) w h).1
