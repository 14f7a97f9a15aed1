/-! the words of the law are words of the tables -/
set_option maxRecDepth 20000 in
theorem wlc_1 : ∀ w ∈ wsL_law0_r1, w ∈ lw_tbl := fun w h => (goodIn_p wsL_law0_r1 [175, 178] (by decide +kernel) (by decide +kernel) w h).1
set_option maxRecDepth 20000 in
theorem wlc_2 : ∀ w ∈ wsL_law0_r2, w ∈ lw_tbl := fun w h => (goodIn_p wsL_law0_r2 [183, 190] (by decide +kernel) (by decide +kernel) w h).1
set_option maxRecDepth 20000 in
theorem wlc_3 : ∀ w ∈ wsL_law0_r3, w ∈ lw_tbl := fun w h => (goodIn_p wsL_law0_r3 [196, 235] (by decide +kernel) (by decide +kernel) w h).1
set_option maxRecDepth 20000 in
theorem wlc_4 : ∀ w ∈ wsL_law0_r4, w ∈ lw_tbl := fun w h => (goodIn_p wsL_law0_r4 [372, 394, 1166] (by decide +kernel) (by decide +kernel) w h).1
set_option maxRecDepth 20000 in
theorem wlc_5 : ∀ w ∈ wsL_law0_r5, w ∈ lw_tbl := fun w h => (goodIn_p wsL_law0_r5 [438, 442, 1572, 1576] (by decide +kernel) (by decide +kernel) w h).1
set_option maxRecDepth 20000 in
theorem wlc_6 : ∀ w ∈ wsL_law0_r6, w ∈ lw_tbl := fun w h => (goodIn_p wsL_law0_r6 [446, 449, 1580, 1245, 453, 457] (by decide +kernel) (by decide +kernel) w h).1
set_option maxRecDepth 20000 in
theorem wlc_7 : ∀ w ∈ wsL_law0_r7, w ∈ lw_tbl := fun w h => (goodIn_p wsL_law0_r7 [464, 468] (by decide +kernel) (by decide +kernel) w h).1
set_option maxRecDepth 20000 in
theorem wlc_8 : ∀ w ∈ wsL_law0_r8, w ∈ lw_tbl := fun w h => (goodIn_p wsL_law0_r8 [473, 479, 483, 487, 491, 494] (by decide +kernel) (by decide +kernel) w h).1
set_option maxRecDepth 20000 in
theorem wlc_9 : ∀ w ∈ wsL_law0_r9, w ∈ lw_tbl := fun w h => (goodIn_p wsL_law0_r9 [499, 503, 507, 513, 517] (by decide +kernel) (by decide +kernel) w h).1
set_option maxRecDepth 20000 in
theorem wlc_10 : ∀ w ∈ wsL_law0_r10, w ∈ lw_tbl := fun w h => (goodIn_p wsL_law0_r10 [520, 523, 528, 531, 534, 537, 541] (by decide +kernel) (by decide +kernel) w h).1
set_option maxRecDepth 20000 in
theorem wlc_11 : ∀ w ∈ wsL_law0_r11, w ∈ lw_tbl := fun w h => (goodIn_p wsL_law0_r11 [551, 555, 559, 563, 568, 573] (by decide +kernel) (by decide +kernel) w h).1
set_option maxRecDepth 20000 in
theorem wlc_12 : ∀ w ∈ wsL_law0_r12, w ∈ lw_tbl := fun w h => (goodIn_p wsL_law0_r12 [577, 580, 589, 593, 597, 601, 605] (by decide +kernel) (by decide +kernel) w h).1
set_option maxRecDepth 20000 in
theorem wlc_13 : ∀ w ∈ wsL_law0_r13, w ∈ lw_tbl := fun w h => (goodIn_p wsL_law0_r13 [609, 613, 619, 623, 628, 632, 635, 640] (by decide +kernel) (by decide +kernel) w h).1
set_option maxRecDepth 20000 in
theorem wlc_14 : ∀ w ∈ wsL_law0_r14, w ∈ lw_tbl := fun w h => (goodIn_p wsL_law0_r14 [644, 648, 652, 658, 662, 666, 670] (by decide +kernel) (by decide +kernel) w h).1
set_option maxRecDepth 20000 in
theorem wlc_15 : ∀ w ∈ wsL_law0_r15, w ∈ lw_tbl := fun w h => (goodIn_p wsL_law0_r15 [674, 678, 682, 687, 691, 695, 699, 703] (by decide +kernel) (by decide +kernel) w h).1
set_option maxRecDepth 20000 in
theorem wlc_16 : ∀ w ∈ wsL_law0_r16, w ∈ lw_tbl := fun w h => (goodIn_p wsL_law0_r16 [709, 713, 718, 724, 729, 734, 738] (by decide +kernel) (by decide +kernel) w h).1
set_option maxRecDepth 20000 in
theorem wlc_17 : ∀ w ∈ wsL_law0_r17, w ∈ lw_tbl := fun w h => (goodIn_p wsL_law0_r17 [742, 746, 750, 754, 770, 759] (by decide +kernel) (by decide +kernel) w h).1
set_option maxRecDepth 20000 in
theorem wlc_18 : ∀ w ∈ wsL_law0_r18, w ∈ lw_tbl := fun w h => (goodIn_p wsL_law0_r18 [763, 767, 774, 777, 783, 791, 795] (by decide +kernel) (by decide +kernel) w h).1
