theorem dL_of_0 : decode cL_of 0 = .ok (.aload_n 3, 1) := by decide +kernel
theorem dL_of_1 : decode cL_of 1 = .ok (.iconst 0, 1) := by decide +kernel
theorem dL_of_2 : decode cL_of 2 = .ok (.aload_n 0, 1) := by decide +kernel
theorem dL_of_3 : decode cL_of 3 = .ok (.iload_n 1, 1) := by decide +kernel
theorem dL_of_4 : decode cL_of 4 = .ok (.iload_n 2, 1) := by decide +kernel
theorem dL_of_5 : decode cL_of 5 = .ok (.invokevirtual 7, 3) := by decide +kernel
theorem dL_of_8 : decode cL_of 8 = .ok (.i2l, 1) := by decide +kernel
theorem dL_of_9 : decode cL_of 9 = .ok (.lastore, 1) := by decide +kernel
theorem dL_of_10 : decode cL_of 10 = .ok (.goto 7, 3) := by decide +kernel
theorem dL_of_13 : decode cL_of 13 = .ok (.astore 4, 2) := by decide +kernel
theorem dL_of_15 : decode cL_of 15 = .ok (.iconst 1, 1) := by decide +kernel
theorem dL_of_16 : decode cL_of 16 = .ok (.ireturn, 1) := by decide +kernel
theorem dL_of_17 : decode cL_of 17 = .ok (.iconst 0, 1) := by decide +kernel
theorem dL_of_18 : decode cL_of 18 = .ok (.ireturn, 1) := by decide +kernel
set_option maxRecDepth 20000 in
theorem ggL_law_X8_init : GoodIn wsL_law wsX8_init := goodIn_r _ [9, 10, 11, 12, 13, 14, 15, 16, 17, 18, 19, 20, 21, 22, 23, 24, 25, 26, 27, 28, 29, 30, 31, 32, 33, 34, 35, 36, 37, 38, 39, 40, 41, 42, 43, 44, 45, 46, 47, 48, 49, 50, 51, 52, 53, 54, 55, 56, 57, 58, 59, 60, 61, 62, 63, 64, 65, 66, 67, 68, 69, 70, 71, 72, 73, 74, 75, 76, 77, 78, 79, 80, 81, 82, 83, 84, 85, 86, 87, 1157, 1158, 1159, 1160, 1161, 1162, 1163, 1164, 1165, 1166, 1134, 1135, 1136, 1137, 1138, 1167, 1168, 1169, 1170, 1171, 1172, 1173, 1174, 1175, 1176, 1177, 1178, 1179, 1180, 1181, 1182, 1183, 1184, 1185, 1186, 1187, 1188, 1189, 1190, 1191, 1192, 1193, 1194, 1195, 1196, 1197, 1198, 1199, 1200, 1201, 1202, 1203, 1204, 1205, 1206, 1207] rfl (by decide +kernel)
set_option maxRecDepth 20000 in
theorem gL_law_X8_init : GoodIn wsL_law (wsX8_init) := ggL_law_X8_init
set_option maxRecDepth 20000 in
theorem ggL_law_X9_init : GoodIn wsL_law wsX9_init := goodIn_r _ [90, 91, 11, 12, 32, 92, 93, 94, 35, 95, 96, 97, 98, 86, 99, 100, 1139, 1140, 1141, 1142, 1143, 1144, 1145, 1146, 1147, 1148, 1149, 1150, 1151, 1152, 1153, 1154, 1155, 1156] rfl (by decide +kernel)
set_option maxRecDepth 20000 in
theorem gL_law_X9_init : GoodIn wsL_law (wsX9_init) := ggL_law_X9_init
set_option maxRecDepth 20000 in
theorem ggL_law_X8_feed : GoodIn wsL_law wsX8_feed := goodIn_r _ [104, 26, 105, 25, 106, 107, 108, 87, 1134, 1135, 1136, 1137, 1138, 1172, 1173, 1174, 1175, 1176, 1177] rfl (by decide +kernel)
set_option maxRecDepth 20000 in
theorem gL_law_X8_feed : GoodIn wsL_law (wsV RL 19 RX8 yX8_feed wsX8_feed) := goodIn_app (goodIn_of _ (by decide +kernel)) ggL_law_X8_feed
set_option maxRecDepth 20000 in
theorem ggL_law_X9_feed : GoodIn wsL_law wsX9_feed := goodIn_r _ [112, 113, 114, 115, 116, 117, 5, 118, 99, 1139, 1140, 1141, 1142, 1143, 1144, 1145, 1146, 1147, 1148, 1149, 1150, 1151, 1152, 1153, 1154, 1155, 1156] rfl (by decide +kernel)
set_option maxRecDepth 20000 in
theorem gL_law_X9_feed : GoodIn wsL_law (wsV RL 23 RX9 yX9_feed wsX9_feed) := goodIn_app (goodIn_of _ (by decide +kernel)) ggL_law_X9_feed
set_option maxRecDepth 20000 in
theorem ggL_law_X8_end : GoodIn wsL_law wsX8_end := goodIn_r _ [122, 26, 123, 124, 2, 125, 1134, 1135, 1136, 1137, 1138, 1172, 1173, 1174, 1175, 1176, 1177] rfl (by decide +kernel)
set_option maxRecDepth 20000 in
theorem gL_law_X8_end : GoodIn wsL_law (wsV RL 24 RX8 yX8_end wsX8_end) := goodIn_app (goodIn_of _ (by decide +kernel)) ggL_law_X8_end
set_option maxRecDepth 20000 in
theorem ggL_law_X9_end : GoodIn wsL_law wsX9_end := goodIn_r _ [129, 113, 114, 130, 131, 5, 132, 1139, 1140, 1141, 1142, 1143, 1144, 1145, 1146, 1147, 1148, 1149, 1150, 1151, 1152, 1153, 1154, 1155, 1156] rfl (by decide +kernel)
set_option maxRecDepth 20000 in
theorem gL_law_X9_end : GoodIn wsL_law (wsV RL 28 RX9 yX9_end wsX9_end) := goodIn_app (goodIn_of _ (by decide +kernel)) ggL_law_X9_end
set_option maxRecDepth 20000 in
theorem ggL_law_X8_tell : GoodIn wsL_law wsX8_tell := goodIn_r _ [136, 17, 16, 26, 137, 15, 138, 139, 140, 141, 142, 143, 30, 31, 33, 144, 145, 146, 147, 34, 36, 38, 148, 40, 149, 150, 47, 51, 52, 151, 53, 54, 55, 56, 152, 57, 58, 59, 60, 61, 62, 153, 154, 155, 156, 157, 158, 159, 46, 160, 161, 162, 163, 164, 66, 165, 67, 68, 69, 166, 50, 167, 168, 73, 169, 74, 75, 170, 25, 171, 172, 173, 174, 175, 176, 177, 178, 108, 179, 180, 181, 182, 183, 184, 87, 185, 186, 187, 188, 189, 190, 191, 192, 193, 194, 195, 196, 197, 198, 199, 200, 201, 202, 203, 204, 205, 206, 207, 208, 209, 210, 211, 212, 213, 214, 215, 216, 217, 218, 219, 220, 221, 222, 223, 224, 225, 226, 227, 228, 229, 230, 231, 232, 233, 234, 235, 236, 237, 238, 239, 240, 241, 242, 243, 244, 245, 246, 247, 248, 249, 250, 251, 252, 253, 254, 255, 124, 2, 125, 256, 257, 258, 259, 260, 261, 262, 263, 264, 265, 266, 267, 268, 269, 270, 271, 272, 273, 274, 275, 276, 277, 278, 279, 280, 281, 282, 283, 284, 285, 286, 287, 288, 289, 290, 291, 292, 293, 294, 295, 296, 297, 298, 299, 300, 301, 302, 303, 304, 305, 306, 307, 308, 309, 310, 311, 312, 313, 314, 315, 316, 317, 318, 319, 320, 321, 322, 323, 324, 325, 326, 327, 328, 329, 330, 331, 332, 333, 334, 335, 336, 337, 338, 339, 340, 341, 342, 343, 344, 345, 346, 347, 348, 349, 350, 351, 352, 353, 354, 355, 356, 357, 358, 359, 360, 361, 362, 363, 364, 365, 366, 367, 368, 369, 370, 371, 372, 373, 374, 375, 376, 377, 378, 379, 380, 381, 382, 383, 384, 385, 386, 387, 388, 389, 390, 391, 392, 393, 394, 395, 396, 397, 398, 399, 400, 401, 402, 403, 404, 405, 406, 407, 408, 409, 410, 411, 412, 413, 414, 415, 416, 417, 418, 419, 420, 421, 422, 423, 424, 425, 426, 427, 428, 429, 430, 431, 432, 433, 434, 435, 436, 437, 438, 439, 440, 441, 442, 443, 444, 1134, 1135, 1136, 1137, 1138, 1172, 1173, 1174, 1175, 1176, 1177, 1157, 1158, 1159, 1160, 1161, 1162, 1163, 1164, 1165, 1166, 1178, 1179, 1180, 1181, 1182, 1183, 1184, 1185, 1186, 1187, 1188, 1189, 1190, 1191, 1192, 1193, 1194, 1195, 1196, 1197, 1198, 1199, 1200, 1201, 1202, 1203, 1204, 1205, 1206, 1207] rfl (by decide +kernel)
set_option maxRecDepth 20000 in
theorem gL_law_X8_tell : GoodIn wsL_law (wsV RL 29 RX8 yX8_tell wsX8_tell) := goodIn_app (goodIn_of _ (by decide +kernel)) ggL_law_X8_tell
set_option maxRecDepth 20000 in
theorem ggL_law_X9_tell : GoodIn wsL_law wsX9_tell := goodIn_r _ [448, 113, 114, 449, 450, 451, 94, 92, 452, 453, 454, 5, 455, 99, 456, 457, 458, 459, 460, 461, 462, 463, 464, 465, 466, 467, 468, 469, 470, 471, 472, 473, 474, 475, 476, 477, 478, 479, 130, 131, 132, 480, 481, 482, 483, 484, 485, 486, 487, 488, 489, 490, 491, 492, 493, 494, 495, 496, 497, 498, 499, 100, 500, 501, 502, 503, 504, 505, 506, 507, 508, 509, 510, 511, 512, 513, 514, 515, 516, 517, 518, 519, 520, 521, 522, 523, 524, 525, 526, 527, 528, 529, 530, 531, 532, 533, 534, 535, 536, 537, 538, 539, 540, 541, 542, 543, 544, 545, 546, 547, 548, 549, 550, 551, 552, 553, 554, 555, 556, 557, 558, 559, 560, 561, 562, 563, 564, 565, 566, 567, 568, 569, 570, 571, 572, 573, 574, 575, 576, 577, 578, 579, 580, 581, 582, 583, 584, 585, 586, 587, 588, 589, 590, 591, 592, 593, 594, 595, 596, 597, 598, 599, 600, 601, 602, 603, 604, 605, 606, 607, 608, 609, 610, 611, 612, 613, 614, 615, 616, 617, 618, 619, 620, 621, 622, 623, 624, 625, 626, 627, 628, 629, 630, 631, 96, 632, 633, 634, 635, 636, 637, 638, 639, 640, 641, 642, 643, 644, 645, 646, 647, 648, 649, 650, 651, 652, 653, 654, 655, 656, 657, 658, 659, 660, 661, 662, 663, 664, 665, 666, 667, 668, 669, 670, 671, 672, 673, 674, 675, 676, 677, 678, 679, 680, 681, 682, 683, 1139, 1140, 1141, 1142, 1143, 1144, 1145, 1146, 1147, 1148, 1149, 1150, 1151, 1152, 1153, 1154, 1155, 1156] rfl (by decide +kernel)
set_option maxRecDepth 20000 in
theorem gL_law_X9_tell : GoodIn wsL_law (wsV RL 33 RX9 yX9_tell wsX9_tell) := goodIn_app (goodIn_of _ (by decide +kernel)) ggL_law_X9_tell
set_option maxRecDepth 20000 in
theorem ggL_law_X8_fault : GoodIn wsL_law wsX8_fault := goodIn_r _ [687, 26, 1134, 1135, 1136, 1137, 1138, 1172, 1173, 1174, 1175, 1176, 1177] rfl (by decide +kernel)
set_option maxRecDepth 20000 in
theorem gL_law_X8_fault : GoodIn wsL_law (wsV RL 34 RX8 yX8_fault wsX8_fault) := goodIn_app (goodIn_of _ (by decide +kernel)) ggL_law_X8_fault
set_option maxRecDepth 20000 in
theorem ggL_law_X9_fault : GoodIn wsL_law wsX9_fault := goodIn_r _ [691, 113, 451, 1139, 1140, 1141, 1142, 1143, 1144, 1145, 1146, 1147, 1148, 1149, 1150, 1151, 1152, 1153, 1154, 1155, 1156] rfl (by decide +kernel)
set_option maxRecDepth 20000 in
theorem gL_law_X9_fault : GoodIn wsL_law (wsV RL 37 RX9 yX9_fault wsX9_fault) := goodIn_app (goodIn_of _ (by decide +kernel)) ggL_law_X9_fault
set_option maxRecDepth 20000 in
theorem ggL_law_X8_team : GoodIn wsL_law wsX8_team := goodIn_r _ [695, 16, 243, 15, 244, 245, 140, 1134, 1135, 1136, 1137, 1138, 1157, 1158, 1159, 1160, 1161, 1162, 1163, 1164, 1165, 1166] rfl (by decide +kernel)
set_option maxRecDepth 20000 in
theorem gL_law_X8_team : GoodIn wsL_law (wsV RL 38 RX8 yX8_team wsX8_team) := goodIn_app (goodIn_of _ (by decide +kernel)) ggL_law_X8_team
set_option maxRecDepth 20000 in
theorem ggL_law_X9_team : GoodIn wsL_law wsX9_team := goodIn_r _ [699, 113, 488, 489, 490, 5, 491, 92, 1139, 1140, 1141, 1142, 1143, 1144, 1145, 1146, 1147, 1148, 1149, 1150, 1151, 1152, 1153, 1154, 1155, 1156] rfl (by decide +kernel)
set_option maxRecDepth 20000 in
theorem gL_law_X9_team : GoodIn wsL_law (wsV RL 41 RX9 yX9_team wsX9_team) := goodIn_app (goodIn_of _ (by decide +kernel)) ggL_law_X9_team
set_option maxRecDepth 20000 in
theorem ggL_law_X8_rider : GoodIn wsL_law wsX8_rider := goodIn_r _ [703, 16, 256, 15, 257, 258, 141, 140, 143, 33, 34, 36, 124, 2, 125, 259, 260, 261, 262, 142, 38, 1134, 1135, 1136, 1137, 1138, 1157, 1158, 1159, 1160, 1161, 1162, 1163, 1164, 1165, 1166, 1178, 1179, 1180, 1181, 1182, 1183, 1184, 1185, 1186, 1187, 1188, 1189, 1190, 1191, 1192, 1193, 1194, 1195, 1196, 1197] rfl (by decide +kernel)
set_option maxRecDepth 20000 in
theorem gL_law_X8_rider : GoodIn wsL_law (wsV RL 42 RX8 yX8_rider wsX8_rider) := goodIn_app (goodIn_of _ (by decide +kernel)) ggL_law_X8_rider
set_option maxRecDepth 20000 in
theorem ggL_law_X9_rider : GoodIn wsL_law wsX9_rider := goodIn_r _ [707, 113, 508, 509, 510, 5, 511, 92, 130, 131, 132, 512, 513, 514, 515, 516, 517, 518, 519, 520, 521, 522, 523, 524, 525, 526, 527, 528, 529, 530, 1139, 1140, 1141, 1142, 1143, 1144, 1145, 1146, 1147, 1148, 1149, 1150, 1151, 1152, 1153, 1154, 1155, 1156] rfl (by decide +kernel)
set_option maxRecDepth 20000 in
theorem gL_law_X9_rider : GoodIn wsL_law (wsV RL 45 RX9 yX9_rider wsX9_rider) := goodIn_app (goodIn_of _ (by decide +kernel)) ggL_law_X9_rider
set_option maxRecDepth 20000 in
theorem ggL_law_X8_stage : GoodIn wsL_law wsX8_stage := goodIn_r _ [711, 16, 269, 15, 270, 271, 142, 143, 38, 124, 2, 125, 272, 273, 274, 275, 141, 36, 276, 40, 277, 278, 47, 152, 279, 46, 280, 281, 162, 163, 164, 282, 283, 284, 285, 52, 53, 54, 55, 56, 286, 287, 288, 68, 69, 1134, 1135, 1136, 1137, 1138, 1157, 1158, 1159, 1160, 1161, 1162, 1163, 1164, 1165, 1166, 1178, 1179, 1180, 1181, 1182, 1183, 1184, 1185, 1186, 1187, 1188, 1189, 1190, 1191, 1192, 1193, 1194, 1195, 1196, 1197, 1198, 1199, 1200, 1201, 1202, 1203, 1204] rfl (by decide +kernel)
set_option maxRecDepth 20000 in
theorem gL_law_X8_stage : GoodIn wsL_law (wsV RL 46 RX8 yX8_stage wsX8_stage) := goodIn_app (goodIn_of _ (by decide +kernel)) ggL_law_X8_stage
set_option maxRecDepth 20000 in
theorem ggL_law_X9_stage : GoodIn wsL_law wsX9_stage := goodIn_r _ [715, 113, 546, 547, 548, 5, 549, 92, 512, 513, 514, 515, 130, 131, 132, 550, 551, 552, 553, 554, 555, 556, 557, 558, 559, 560, 561, 528, 529, 530, 562, 563, 564, 1139, 1140, 1141, 1142, 1143, 1144, 1145, 1146, 1147, 1148, 1149, 1150, 1151, 1152, 1153, 1154, 1155, 1156] rfl (by decide +kernel)
set_option maxRecDepth 20000 in
theorem gL_law_X9_stage : GoodIn wsL_law (wsV RL 49 RX9 yX9_stage wsX9_stage) := goodIn_app (goodIn_of _ (by decide +kernel)) ggL_law_X9_stage
set_option maxRecDepth 20000 in
theorem ggL_law_X8_mark : GoodIn wsL_law wsX8_mark := goodIn_r _ [719, 16, 292, 15, 293, 294, 143, 38, 142, 295, 46, 296, 297, 164, 66, 163, 67, 68, 124, 2, 125, 1134, 1135, 1136, 1137, 1138, 1157, 1158, 1159, 1160, 1161, 1162, 1163, 1164, 1165, 1166, 1178, 1179, 1180, 1181, 1182, 1183, 1184, 1185, 1186, 1187, 1188, 1189, 1190, 1191, 1192, 1193, 1194, 1195, 1196, 1197, 1198, 1199, 1200, 1201, 1202, 1203, 1204] rfl (by decide +kernel)
set_option maxRecDepth 20000 in
theorem gL_law_X8_mark : GoodIn wsL_law (wsV RL 50 RX8 yX8_mark wsX8_mark) := goodIn_app (goodIn_of _ (by decide +kernel)) ggL_law_X8_mark
set_option maxRecDepth 20000 in
theorem ggL_law_X9_mark_ : GoodIn wsL_law wsX9_mark_ := goodIn_r _ [723, 113, 565, 566, 567, 5, 568, 92, 516, 517, 518, 519, 512, 513, 514, 515, 562, 563, 564, 130, 131, 132, 569, 570, 571, 1139, 1140, 1141, 1142, 1143, 1144, 1145, 1146, 1147, 1148, 1149, 1150, 1151, 1152, 1153, 1154, 1155, 1156] rfl (by decide +kernel)
set_option maxRecDepth 20000 in
theorem gL_law_X9_mark_ : GoodIn wsL_law (wsV RL 53 RX9 yX9_mark_ wsX9_mark_) := goodIn_app (goodIn_of _ (by decide +kernel)) ggL_law_X9_mark_
set_option maxRecDepth 20000 in
theorem ggL_law_X8_finish : GoodIn wsL_law wsX8_finish := goodIn_r _ [727, 16, 308, 15, 309, 310, 143, 38, 142, 311, 312, 313, 314, 36, 315, 316, 317, 318, 141, 124, 2, 125, 319, 40, 320, 321, 52, 322, 152, 1134, 1135, 1136, 1137, 1138, 1157, 1158, 1159, 1160, 1161, 1162, 1163, 1164, 1165, 1166, 1178, 1179, 1180, 1181, 1182, 1183, 1184, 1185, 1186, 1187, 1188, 1189, 1190, 1191, 1192, 1193, 1194, 1195, 1196, 1197] rfl (by decide +kernel)
set_option maxRecDepth 20000 in
theorem gL_law_X8_finish : GoodIn wsL_law (wsV RL 54 RX8 yX8_finish wsX8_finish) := goodIn_app (goodIn_of _ (by decide +kernel)) ggL_law_X8_finish
set_option maxRecDepth 20000 in
theorem ggL_law_X9_finish : GoodIn wsL_law wsX9_finish := goodIn_r _ [731, 113, 581, 582, 583, 5, 584, 576, 92, 512, 513, 514, 515, 554, 555, 556, 557, 558, 559, 560, 561, 130, 131, 132, 516, 517, 518, 519, 524, 525, 526, 527, 528, 529, 530, 1139, 1140, 1141, 1142, 1143, 1144, 1145, 1146, 1147, 1148, 1149, 1150, 1151, 1152, 1153, 1154, 1155, 1156] rfl (by decide +kernel)
set_option maxRecDepth 20000 in
theorem gL_law_X9_finish : GoodIn wsL_law (wsV RL 58 RX9 yX9_finish wsX9_finish) := goodIn_app (goodIn_of _ (by decide +kernel)) ggL_law_X9_finish
set_option maxRecDepth 20000 in
theorem ggL_law_X8_over : GoodIn wsL_law wsX8_over := goodIn_r _ [735, 16, 329, 15, 330, 331, 143, 38, 142, 311, 312, 313, 314, 36, 315, 316, 317, 318, 141, 124, 2, 125, 332, 46, 333, 334, 164, 68, 69, 335, 336, 337, 338, 1134, 1135, 1136, 1137, 1138, 1157, 1158, 1159, 1160, 1161, 1162, 1163, 1164, 1165, 1166, 1178, 1179, 1180, 1181, 1182, 1183, 1184, 1185, 1186, 1187, 1188, 1189, 1190, 1191, 1192, 1193, 1194, 1195, 1196, 1197, 1198, 1199, 1200, 1201, 1202, 1203, 1204] rfl (by decide +kernel)
set_option maxRecDepth 20000 in
theorem gL_law_X8_over : GoodIn wsL_law (wsV RL 59 RX8 yX8_over wsX8_over) := goodIn_app (goodIn_of _ (by decide +kernel)) ggL_law_X8_over
set_option maxRecDepth 20000 in
theorem ggL_law_X9_over : GoodIn wsL_law wsX9_over := goodIn_r _ [739, 113, 589, 590, 591, 5, 592, 92, 516, 517, 518, 519, 512, 513, 514, 515, 562, 563, 564, 130, 131, 132, 554, 555, 556, 557, 558, 559, 560, 561, 569, 570, 571, 1139, 1140, 1141, 1142, 1143, 1144, 1145, 1146, 1147, 1148, 1149, 1150, 1151, 1152, 1153, 1154, 1155, 1156] rfl (by decide +kernel)
set_option maxRecDepth 20000 in
theorem gL_law_X9_over : GoodIn wsL_law (wsV RL 62 RX9 yX9_over wsX9_over) := goodIn_app (goodIn_of _ (by decide +kernel)) ggL_law_X9_over
set_option maxRecDepth 20000 in
theorem ggL_law_X8_fall : GoodIn wsL_law wsX8_fall := goodIn_r _ [743, 16, 345, 15, 346, 347, 143, 38, 142, 311, 312, 313, 314, 36, 315, 316, 317, 318, 141, 124, 2, 125, 348, 40, 349, 350, 53, 47, 54, 1134, 1135, 1136, 1137, 1138, 1157, 1158, 1159, 1160, 1161, 1162, 1163, 1164, 1165, 1166, 1178, 1179, 1180, 1181, 1182, 1183, 1184, 1185, 1186, 1187, 1188, 1189, 1190, 1191, 1192, 1193, 1194, 1195, 1196, 1197, 1198, 1199, 1200, 1201, 1202, 1203, 1204] rfl (by decide +kernel)
set_option maxRecDepth 20000 in
theorem gL_law_X8_fall : GoodIn wsL_law (wsV RL 63 RX8 yX8_fall wsX8_fall) := goodIn_app (goodIn_of _ (by decide +kernel)) ggL_law_X8_fall
set_option maxRecDepth 20000 in
theorem ggL_law_X9_fall : GoodIn wsL_law wsX9_fall := goodIn_r _ [747, 113, 598, 599, 600, 5, 601, 92, 516, 517, 518, 519, 512, 513, 514, 515, 554, 555, 556, 557, 558, 559, 560, 561, 130, 131, 132, 562, 563, 564, 528, 529, 530, 1139, 1140, 1141, 1142, 1143, 1144, 1145, 1146, 1147, 1148, 1149, 1150, 1151, 1152, 1153, 1154, 1155, 1156] rfl (by decide +kernel)
set_option maxRecDepth 20000 in
theorem gL_law_X9_fall : GoodIn wsL_law (wsV RL 67 RX9 yX9_fall wsX9_fall) := goodIn_app (goodIn_of _ (by decide +kernel)) ggL_law_X9_fall
set_option maxRecDepth 20000 in
theorem ggL_law_X8_jury : GoodIn wsL_law wsX8_jury := goodIn_r _ [751, 16, 354, 15, 355, 356, 143, 38, 142, 311, 312, 313, 314, 36, 315, 316, 317, 318, 141, 124, 2, 125, 357, 40, 358, 359, 55, 360, 1134, 1135, 1136, 1137, 1138, 1157, 1158, 1159, 1160, 1161, 1162, 1163, 1164, 1165, 1166, 1178, 1179, 1180, 1181, 1182, 1183, 1184, 1185, 1186, 1187, 1188, 1189, 1190, 1191, 1192, 1193, 1194, 1195, 1196, 1197] rfl (by decide +kernel)
set_option maxRecDepth 20000 in
theorem gL_law_X8_jury : GoodIn wsL_law (wsV RL 68 RX8 yX8_jury wsX8_jury) := goodIn_app (goodIn_of _ (by decide +kernel)) ggL_law_X8_jury
set_option maxRecDepth 20000 in
theorem ggL_law_X9_jury : GoodIn wsL_law wsX9_jury := goodIn_r _ [755, 113, 606, 607, 608, 5, 609, 92, 610, 512, 513, 514, 515, 554, 555, 556, 557, 558, 559, 560, 561, 130, 131, 132, 516, 517, 518, 519, 528, 529, 530, 1139, 1140, 1141, 1142, 1143, 1144, 1145, 1146, 1147, 1148, 1149, 1150, 1151, 1152, 1153, 1154, 1155, 1156] rfl (by decide +kernel)
set_option maxRecDepth 20000 in
theorem gL_law_X9_jury : GoodIn wsL_law (wsV RL 71 RX9 yX9_jury wsX9_jury) := goodIn_app (goodIn_of _ (by decide +kernel)) ggL_law_X9_jury
set_option maxRecDepth 20000 in
theorem ggL_law_X8_grace : GoodIn wsL_law wsX8_grace := goodIn_r _ [759, 16, 361, 15, 362, 363, 143, 38, 142, 311, 312, 313, 314, 36, 315, 316, 317, 318, 141, 124, 2, 125, 364, 40, 365, 366, 56, 1134, 1135, 1136, 1137, 1138, 1157, 1158, 1159, 1160, 1161, 1162, 1163, 1164, 1165, 1166, 1178, 1179, 1180, 1181, 1182, 1183, 1184, 1185, 1186, 1187, 1188, 1189, 1190, 1191, 1192, 1193, 1194, 1195, 1196, 1197] rfl (by decide +kernel)
set_option maxRecDepth 20000 in
theorem gL_law_X8_grace : GoodIn wsL_law (wsV RL 72 RX8 yX8_grace wsX8_grace) := goodIn_app (goodIn_of _ (by decide +kernel)) ggL_law_X8_grace
set_option maxRecDepth 20000 in
theorem ggL_law_X9_grace : GoodIn wsL_law wsX9_grace := goodIn_r _ [763, 113, 615, 616, 617, 5, 618, 92, 512, 513, 514, 515, 554, 555, 556, 557, 558, 559, 560, 561, 130, 131, 132, 516, 517, 518, 519, 528, 529, 530, 1139, 1140, 1141, 1142, 1143, 1144, 1145, 1146, 1147, 1148, 1149, 1150, 1151, 1152, 1153, 1154, 1155, 1156] rfl (by decide +kernel)
set_option maxRecDepth 20000 in
theorem gL_law_X9_grace : GoodIn wsL_law (wsV RL 75 RX9 yX9_grace wsX9_grace) := goodIn_app (goodIn_of _ (by decide +kernel)) ggL_law_X9_grace
set_option maxRecDepth 20000 in
theorem ggL_law_X8_quit : GoodIn wsL_law wsX8_quit := goodIn_r _ [767, 16, 367, 15, 368, 369, 143, 38, 142, 36, 311, 312, 313, 314, 315, 316, 317, 318, 141, 124, 2, 125, 283, 40, 284, 285, 52, 152, 53, 54, 55, 56, 47, 286, 46, 287, 288, 164, 68, 69, 1134, 1135, 1136, 1137, 1138, 1157, 1158, 1159, 1160, 1161, 1162, 1163, 1164, 1165, 1166, 1178, 1179, 1180, 1181, 1182, 1183, 1184, 1185, 1186, 1187, 1188, 1189, 1190, 1191, 1192, 1193, 1194, 1195, 1196, 1197, 1198, 1199, 1200, 1201, 1202, 1203, 1204] rfl (by decide +kernel)
set_option maxRecDepth 20000 in
theorem gL_law_X8_quit : GoodIn wsL_law (wsV RL 76 RX8 yX8_quit wsX8_quit) := goodIn_app (goodIn_of _ (by decide +kernel)) ggL_law_X8_quit
set_option maxRecDepth 20000 in
theorem ggL_law_X9_quit : GoodIn wsL_law wsX9_quit := goodIn_r _ [771, 113, 619, 620, 621, 5, 622, 92, 512, 513, 514, 515, 554, 555, 556, 557, 558, 559, 560, 561, 130, 131, 132, 516, 517, 518, 519, 528, 529, 530, 562, 563, 564, 569, 570, 571, 1139, 1140, 1141, 1142, 1143, 1144, 1145, 1146, 1147, 1148, 1149, 1150, 1151, 1152, 1153, 1154, 1155, 1156] rfl (by decide +kernel)
set_option maxRecDepth 20000 in
theorem gL_law_X9_quit : GoodIn wsL_law (wsV RL 79 RX9 yX9_quit wsX9_quit) := goodIn_app (goodIn_of _ (by decide +kernel)) ggL_law_X9_quit
set_option maxRecDepth 20000 in
theorem ggL_law_X8_rule : GoodIn wsL_law wsX8_rule := goodIn_r _ [775, 16, 370, 15, 371, 372, 30, 124, 2, 125, 373, 374, 375, 31, 1134, 1135, 1136, 1137, 1138, 1157, 1158, 1159, 1160, 1161, 1162, 1163, 1164, 1165, 1166] rfl (by decide +kernel)
set_option maxRecDepth 20000 in
theorem gL_law_X8_rule : GoodIn wsL_law (wsV RL 80 RX8 yX8_rule wsX8_rule) := goodIn_app (goodIn_of _ (by decide +kernel)) ggL_law_X8_rule
set_option maxRecDepth 20000 in
theorem ggL_law_X9_rule : GoodIn wsL_law wsX9_rule := goodIn_r _ [779, 113, 92, 130, 131, 5, 132, 1139, 1140, 1141, 1142, 1143, 1144, 1145, 1146, 1147, 1148, 1149, 1150, 1151, 1152, 1153, 1154, 1155, 1156] rfl (by decide +kernel)
set_option maxRecDepth 20000 in
theorem gL_law_X9_rule : GoodIn wsL_law (wsV RL 83 RX9 yX9_rule wsX9_rule) := goodIn_app (goodIn_of _ (by decide +kernel)) ggL_law_X9_rule
set_option maxRecDepth 20000 in
theorem ggL_law_X8_close : GoodIn wsL_law wsX8_close := goodIn_r _ [783, 16, 376, 15, 377, 378, 143, 38, 142, 30, 31, 379, 40, 380, 381, 52, 57, 58, 382, 383, 384, 153, 152, 59, 60, 385, 386, 387, 388, 47, 389, 390, 391, 392, 393, 394, 395, 396, 154, 61, 397, 398, 399, 400, 401, 402, 403, 404, 54, 405, 406, 407, 408, 53, 409, 410, 411, 412, 124, 2, 125, 413, 414, 415, 416, 417, 418, 155, 419, 156, 157, 62, 56, 158, 420, 50, 421, 422, 73, 74, 75, 423, 424, 425, 426, 427, 428, 429, 430, 431, 432, 433, 434, 435, 436, 437, 438, 141, 36, 439, 440, 441, 1134, 1135, 1136, 1137, 1138, 1157, 1158, 1159, 1160, 1161, 1162, 1163, 1164, 1165, 1166, 1178, 1179, 1180, 1181, 1182, 1183, 1184, 1185, 1186, 1187, 1188, 1189, 1190, 1191, 1192, 1193, 1194, 1195, 1196, 1197, 1198, 1199, 1200, 1201, 1202, 1203, 1204, 1205, 1206, 1207] rfl (by decide +kernel)
set_option maxRecDepth 20000 in
theorem gL_law_X8_close : GoodIn wsL_law (wsV RL 84 RX8 yX8_close wsX8_close) := goodIn_app (goodIn_of _ (by decide +kernel)) ggL_law_X8_close
set_option maxRecDepth 20000 in
theorem ggL_law_X9_close : GoodIn wsL_law wsX9_close := goodIn_r _ [787, 113, 627, 628, 629, 5, 630, 92, 631, 96, 516, 517, 518, 519, 512, 513, 514, 515, 520, 521, 522, 523, 524, 525, 526, 527, 528, 529, 530, 562, 563, 564, 632, 633, 634, 635, 636, 637, 638, 639, 640, 641, 642, 643, 644, 645, 646, 647, 648, 649, 650, 651, 652, 653, 654, 655, 656, 657, 658, 659, 660, 661, 662, 663, 664, 665, 666, 667, 668, 669, 670, 671, 672, 673, 674, 675, 676, 677, 678, 569, 570, 571, 679, 680, 681, 682, 683, 554, 555, 556, 557, 558, 559, 560, 561, 130, 131, 132, 1139, 1140, 1141, 1142, 1143, 1144, 1145, 1146, 1147, 1148, 1149, 1150, 1151, 1152, 1153, 1154, 1155, 1156] rfl (by decide +kernel)
set_option maxRecDepth 20000 in
theorem gL_law_X9_close : GoodIn wsL_law (wsV RL 87 RX9 yX9_close wsX9_close) := goodIn_app (goodIn_of _ (by decide +kernel)) ggL_law_X9_close
set_option maxRecDepth 20000 in
theorem ggL_law_X8_keep : GoodIn wsL_law wsX8_keep := goodIn_r _ [791, 18, 13, 14, 15, 16, 123, 124, 2, 125, 27, 28, 29, 11, 12, 30, 31, 32, 33, 34, 35, 36, 37, 38, 39, 40, 41, 42, 43, 44, 45, 46, 47, 48, 49, 50, 51, 52, 53, 54, 55, 56, 57, 58, 59, 60, 61, 62, 63, 64, 65, 66, 67, 68, 69, 70, 71, 72, 73, 74, 75, 137, 138, 139, 140, 141, 142, 143, 144, 145, 146, 147, 148, 149, 150, 151, 152, 153, 154, 155, 156, 157, 158, 159, 160, 161, 162, 163, 164, 165, 166, 167, 168, 169, 1134, 1135, 1136, 1137, 1138, 1157, 1158, 1159, 1160, 1161, 1162, 1163, 1164, 1165, 1166, 1178, 1179, 1180, 1181, 1182, 1183, 1184, 1185, 1186, 1187, 1188, 1189, 1190, 1191, 1192, 1193, 1194, 1195, 1196, 1197, 1198, 1199, 1200, 1201, 1202, 1203, 1204, 1205, 1206, 1207] rfl (by decide +kernel)
set_option maxRecDepth 20000 in
theorem gL_law_X8_keep : GoodIn wsL_law (wsV RL 88 RX8 yX8_keep wsX8_keep) := goodIn_app (goodIn_of _ (by decide +kernel)) ggL_law_X8_keep
set_option maxRecDepth 20000 in
theorem ggL_law_X9_keep : GoodIn wsL_law wsX9_keep := goodIn_r _ [795, 113, 93, 92, 95, 130, 131, 5, 132, 1139, 1140, 1141, 1142, 1143, 1144, 1145, 1146, 1147, 1148, 1149, 1150, 1151, 1152, 1153, 1154, 1155, 1156] rfl (by decide +kernel)
set_option maxRecDepth 20000 in
theorem gL_law_X9_keep : GoodIn wsL_law (wsV RL 91 RX9 yX9_keep wsX9_keep) := goodIn_app (goodIn_of _ (by decide +kernel)) ggL_law_X9_keep
set_option maxRecDepth 20000 in
theorem ggL_law_X8_back : GoodIn wsL_law wsX8_back := goodIn_r _ [799, 18, 16, 123, 124, 2, 125, 137, 15, 138, 139, 140, 141, 142, 143, 30, 31, 33, 144, 145, 146, 147, 34, 36, 38, 148, 40, 149, 150, 47, 51, 52, 151, 53, 54, 55, 56, 152, 57, 58, 59, 60, 61, 62, 153, 154, 155, 156, 157, 158, 159, 46, 160, 161, 162, 163, 164, 66, 165, 67, 68, 69, 166, 50, 167, 168, 73, 169, 74, 75, 1134, 1135, 1136, 1137, 1138, 1157, 1158, 1159, 1160, 1161, 1162, 1163, 1164, 1165, 1166, 1178, 1179, 1180, 1181, 1182, 1183, 1184, 1185, 1186, 1187, 1188, 1189, 1190, 1191, 1192, 1193, 1194, 1195, 1196, 1197, 1198, 1199, 1200, 1201, 1202, 1203, 1204, 1205, 1206, 1207] rfl (by decide +kernel)
set_option maxRecDepth 20000 in
theorem gL_law_X8_back : GoodIn wsL_law (wsV RL 92 RX8 yX8_back wsX8_back) := goodIn_app (goodIn_of _ (by decide +kernel)) ggL_law_X8_back
set_option maxRecDepth 20000 in
theorem ggL_law_X9_back : GoodIn wsL_law wsX9_back := goodIn_r _ [803, 113, 95, 92, 93, 130, 131, 5, 132, 1139, 1140, 1141, 1142, 1143, 1144, 1145, 1146, 1147, 1148, 1149, 1150, 1151, 1152, 1153, 1154, 1155, 1156] rfl (by decide +kernel)
set_option maxRecDepth 20000 in
theorem gL_law_X9_back : GoodIn wsL_law (wsV RL 95 RX9 yX9_back wsX9_back) := goodIn_app (goodIn_of _ (by decide +kernel)) ggL_law_X9_back
set_option maxRecDepth 20000 in
theorem ggL_law_X8_count : GoodIn wsL_law wsX8_count := goodIn_r _ [807, 16, 26, 273, 15, 274, 275, 141, 36, 808, 809, 810, 143, 142, 326, 327, 328, 38, 260, 261, 262, 1134, 1135, 1136, 1137, 1138, 1157, 1158, 1159, 1160, 1161, 1162, 1163, 1164, 1165, 1166, 1172, 1173, 1174, 1175, 1176, 1177, 1178, 1179, 1180, 1181, 1182, 1183, 1184, 1185, 1186, 1187, 1188, 1189, 1190, 1191, 1192, 1193, 1194, 1195, 1196, 1197, 1198, 1199, 1200, 1201, 1202, 1203, 1204] rfl (by decide +kernel)
set_option maxRecDepth 20000 in
theorem gL_law_X8_count : GoodIn wsL_law (wsV RL 96 RX8 yX8_count wsX8_count) := goodIn_app (goodIn_of _ (by decide +kernel)) ggL_law_X8_count
set_option maxRecDepth 20000 in
theorem ggL_law_X9_count : GoodIn wsL_law wsX9_count := goodIn_r _ [814, 113, 92, 114, 550, 551, 552, 5, 553, 554, 555, 556, 557, 558, 559, 560, 561, 130, 131, 132, 815, 816, 817, 818, 516, 517, 518, 519, 562, 563, 564, 520, 521, 522, 523, 524, 525, 526, 527, 528, 529, 530, 1139, 1140, 1141, 1142, 1143, 1144, 1145, 1146, 1147, 1148, 1149, 1150, 1151, 1152, 1153, 1154, 1155, 1156] rfl (by decide +kernel)
set_option maxRecDepth 20000 in
theorem gL_law_X9_count : GoodIn wsL_law (wsV RL 100 RX9 yX9_count wsX9_count) := goodIn_app (goodIn_of _ (by decide +kernel)) ggL_law_X9_count
set_option maxRecDepth 20000 in
theorem ggL_law_L_of : GoodIn wsL_law wsL_of := goodIn_ca (goodIn_r _ [822, 823, 824, 825, 826, 2, 827, 828, 829, 16, 316, 15, 317, 318, 141, 124, 125, 123, 830, 831, 832, 38, 833, 808, 809, 810, 143, 142, 834, 40, 835, 836, 51, 55, 1134, 1135, 1136, 1137, 1138, 1157, 1158, 1159, 1160, 1161, 1162, 1163, 1164, 1165, 1166, 1178, 1179, 1180, 1181, 1182, 1183, 1184, 1185, 1186, 1187, 1188, 1189, 1190, 1191, 1192, 1193, 1194, 1195, 1196, 1197, 1205, 1206, 1207] rfl (by decide +kernel)) (goodIn_sub (fun _ h => List.mem_append_right _ h) (by decide +kernel))
set_option maxRecDepth 20000 in
theorem gL_law_L_of : GoodIn wsL_law (va_wsS RL 101 yL_of wsL_of) := goodIn_app (goodIn_of _ (by decide +kernel)) ggL_law_L_of
set_option maxRecDepth 20000 in
theorem ggL_law_X9_of : GoodIn wsL_law wsX9_of := goodIn_r _ [840, 113, 92, 558, 559, 560, 5, 561, 130, 131, 132, 841, 842, 843, 844, 815, 816, 817, 818, 528, 529, 530, 1139, 1140, 1141, 1142, 1143, 1144, 1145, 1146, 1147, 1148, 1149, 1150, 1151, 1152, 1153, 1154, 1155, 1156] rfl (by decide +kernel)
set_option maxRecDepth 20000 in
theorem gL_law_X9_of : GoodIn wsL_law (wsV RL 106 RX9 yX9_of wsX9_of) := goodIn_app (goodIn_of _ (by decide +kernel)) ggL_law_X9_of
set_option maxRecDepth 20000 in
theorem ggL_law_X9_thrown : GoodIn wsL_law wsX9_thrown := goodIn_r _ [848, 113, 1139, 1140, 1141, 1142, 1143, 1144, 1145, 1146, 1147, 1148, 1149, 1150, 1151, 1152, 1153, 1154, 1155, 1156] rfl (by decide +kernel)
set_option maxRecDepth 20000 in
theorem gL_law_X9_thrown : GoodIn wsL_law (wsV RL 107 RX9 yX9_thrown wsX9_thrown) := goodIn_app (goodIn_of _ (by decide +kernel)) ggL_law_X9_thrown
set_option maxRecDepth 20000 in
theorem ggL_law_X8_told : GoodIn wsL_law wsX8_told := goodIn_r _ [852, 16, 853, 15, 854, 855, 38, 833, 808, 809, 810, 143, 142, 124, 2, 125, 856, 40, 857, 858, 47, 152, 153, 154, 155, 156, 157, 158, 859, 860, 861, 862, 61, 57, 60, 863, 864, 865, 866, 1134, 1135, 1136, 1137, 1138, 1157, 1158, 1159, 1160, 1161, 1162, 1163, 1164, 1165, 1166, 1178, 1179, 1180, 1181, 1182, 1183, 1184, 1185, 1186, 1187, 1188, 1189, 1190, 1191, 1192, 1193, 1194, 1195, 1196, 1197, 1198, 1199, 1200, 1201, 1202, 1203, 1204] rfl (by decide +kernel)
set_option maxRecDepth 20000 in
theorem gL_law_X8_told : GoodIn wsL_law (wsV RL 110 RX8 yX8_told wsX8_told) := goodIn_app (goodIn_of _ (by decide +kernel)) ggL_law_X8_told
set_option maxRecDepth 20000 in
theorem ggL_law_X9_told : GoodIn wsL_law wsX9_told := goodIn_r _ [870, 113, 92, 871, 872, 873, 5, 874, 815, 816, 817, 818, 130, 131, 132, 562, 563, 564, 875, 876, 877, 878, 528, 529, 530, 1139, 1140, 1141, 1142, 1143, 1144, 1145, 1146, 1147, 1148, 1149, 1150, 1151, 1152, 1153, 1154, 1155, 1156] rfl (by decide +kernel)
set_option maxRecDepth 20000 in
theorem gL_law_X9_told : GoodIn wsL_law (wsV RL 113 RX9 yX9_told wsX9_told) := goodIn_app (goodIn_of _ (by decide +kernel)) ggL_law_X9_told
set_option maxRecDepth 20000 in
theorem ggL_law_X8_order : GoodIn wsL_law wsX8_order := goodIn_r _ [882, 16, 853, 15, 854, 855, 38, 833, 808, 809, 810, 143, 142, 124, 2, 125, 123, 1134, 1135, 1136, 1137, 1138, 1178, 1179, 1180, 1181, 1182, 1183, 1184, 1185, 1186, 1187, 1188, 1189, 1190, 1191, 1192, 1193, 1194, 1195, 1196, 1197, 1157, 1158, 1159, 1160, 1161, 1162, 1163, 1164, 1165, 1166] rfl (by decide +kernel)
set_option maxRecDepth 20000 in
theorem gL_law_X8_order : GoodIn wsL_law (wsV RL 114 RX8 yX8_order wsX8_order) := goodIn_app (goodIn_of _ (by decide +kernel)) ggL_law_X8_order
set_option maxRecDepth 20000 in
theorem ggL_law_X9_order : GoodIn wsL_law wsX9_order := goodIn_r _ [886, 113, 631, 96, 871, 872, 873, 5, 874, 815, 816, 817, 818, 92, 130, 131, 132, 632, 633, 634, 635, 524, 525, 526, 527, 528, 529, 530, 1139, 1140, 1141, 1142, 1143, 1144, 1145, 1146, 1147, 1148, 1149, 1150, 1151, 1152, 1153, 1154, 1155, 1156] rfl (by decide +kernel)
set_option maxRecDepth 20000 in
theorem gL_law_X9_order : GoodIn wsL_law (wsV RL 117 RX9 yX9_order wsX9_order) := goodIn_app (goodIn_of _ (by decide +kernel)) ggL_law_X9_order
set_option maxRecDepth 20000 in
theorem ggL_law_X8_result : GoodIn wsL_law wsX8_result := goodIn_r _ [890, 16, 853, 15, 854, 855, 38, 833, 808, 809, 810, 143, 142, 124, 2, 125, 316, 317, 318, 141, 891, 40, 892, 893, 52, 60, 61, 59, 58, 51, 1134, 1135, 1136, 1137, 1138, 1178, 1179, 1180, 1181, 1182, 1183, 1184, 1185, 1186, 1187, 1188, 1189, 1190, 1191, 1192, 1193, 1194, 1195, 1196, 1197, 1157, 1158, 1159, 1160, 1161, 1162, 1163, 1164, 1165, 1166, 1205, 1206, 1207] rfl (by decide +kernel)
set_option maxRecDepth 20000 in
theorem gL_law_X8_result : GoodIn wsL_law (wsV RL 118 RX8 yX8_result wsX8_result) := goodIn_app (goodIn_of _ (by decide +kernel)) ggL_law_X8_result
set_option maxRecDepth 20000 in
theorem ggL_law_X9_result : GoodIn wsL_law wsX9_result := goodIn_r _ [897, 113, 92, 871, 872, 873, 5, 874, 815, 816, 817, 818, 130, 131, 132, 558, 559, 560, 561, 524, 525, 526, 527, 528, 529, 530, 1139, 1140, 1141, 1142, 1143, 1144, 1145, 1146, 1147, 1148, 1149, 1150, 1151, 1152, 1153, 1154, 1155, 1156] rfl (by decide +kernel)
set_option maxRecDepth 20000 in
theorem gL_law_X9_result : GoodIn wsL_law (wsV RL 122 RX9 yX9_result wsX9_result) := goodIn_app (goodIn_of _ (by decide +kernel)) ggL_law_X9_result
set_option maxRecDepth 20000 in
theorem ggL_law_X8_parted : GoodIn wsL_law wsX8_parted := goodIn_r _ [901, 16, 853, 15, 854, 855, 38, 833, 808, 809, 810, 143, 142, 124, 2, 125, 123, 902, 40, 903, 904, 152, 385, 386, 387, 388, 47, 389, 390, 391, 392, 52, 57, 1134, 1135, 1136, 1137, 1138, 1157, 1158, 1159, 1160, 1161, 1162, 1163, 1164, 1165, 1166, 1178, 1179, 1180, 1181, 1182, 1183, 1184, 1185, 1186, 1187, 1188, 1189, 1190, 1191, 1192, 1193, 1194, 1195, 1196, 1197, 1198, 1199, 1200, 1201, 1202, 1203, 1204] rfl (by decide +kernel)
set_option maxRecDepth 20000 in
theorem gL_law_X8_parted : GoodIn wsL_law (wsV RL 123 RX8 yX8_parted wsX8_parted) := goodIn_app (goodIn_of _ (by decide +kernel)) ggL_law_X8_parted
set_option maxRecDepth 20000 in
theorem ggL_law_X9_parted : GoodIn wsL_law wsX9_parted := goodIn_r _ [908, 113, 871, 872, 873, 5, 874, 815, 816, 817, 818, 92, 130, 131, 132, 632, 633, 634, 635, 631, 96, 524, 525, 526, 527, 528, 529, 530, 909, 910, 911, 912, 562, 563, 564, 640, 641, 642, 643, 1139, 1140, 1141, 1142, 1143, 1144, 1145, 1146, 1147, 1148, 1149, 1150, 1151, 1152, 1153, 1154, 1155, 1156] rfl (by decide +kernel)
set_option maxRecDepth 20000 in
theorem gL_law_X9_parted : GoodIn wsL_law (wsV RL 126 RX9 yX9_parted wsX9_parted) := goodIn_app (goodIn_of _ (by decide +kernel)) ggL_law_X9_parted
set_option maxRecDepth 20000 in
theorem ggL_law_X8_together : GoodIn wsL_law wsX8_together := goodIn_r _ [916, 16, 853, 15, 854, 855, 38, 833, 808, 809, 810, 143, 142, 124, 2, 125, 917, 40, 918, 919, 47, 152, 416, 417, 399, 418, 389, 390, 391, 392, 52, 57, 1134, 1135, 1136, 1137, 1138, 1157, 1158, 1159, 1160, 1161, 1162, 1163, 1164, 1165, 1166, 1178, 1179, 1180, 1181, 1182, 1183, 1184, 1185, 1186, 1187, 1188, 1189, 1190, 1191, 1192, 1193, 1194, 1195, 1196, 1197, 1198, 1199, 1200, 1201, 1202, 1203, 1204] rfl (by decide +kernel)
set_option maxRecDepth 20000 in
theorem gL_law_X8_together : GoodIn wsL_law (wsV RL 127 RX8 yX8_together wsX8_together) := goodIn_app (goodIn_of _ (by decide +kernel)) ggL_law_X8_together
set_option maxRecDepth 20000 in
theorem ggL_law_X9_together : GoodIn wsL_law wsX9_together := goodIn_r _ [923, 113, 871, 872, 873, 5, 874, 815, 816, 817, 818, 92, 130, 131, 132, 632, 633, 634, 635, 631, 96, 524, 525, 526, 527, 528, 529, 530, 909, 910, 911, 912, 562, 563, 564, 640, 641, 642, 643, 1139, 1140, 1141, 1142, 1143, 1144, 1145, 1146, 1147, 1148, 1149, 1150, 1151, 1152, 1153, 1154, 1155, 1156] rfl (by decide +kernel)
set_option maxRecDepth 20000 in
theorem gL_law_X9_together : GoodIn wsL_law (wsV RL 130 RX9 yX9_together wsX9_together) := goodIn_app (goodIn_of _ (by decide +kernel)) ggL_law_X9_together
set_option maxRecDepth 20000 in
theorem ggL_law_X8_escaped : GoodIn wsL_law wsX8_escaped := goodIn_r _ [927, 16, 853, 15, 854, 855, 38, 833, 808, 809, 810, 143, 142, 124, 2, 125, 928, 40, 929, 930, 152, 389, 390, 391, 392, 52, 57, 1134, 1135, 1136, 1137, 1138, 1157, 1158, 1159, 1160, 1161, 1162, 1163, 1164, 1165, 1166, 1178, 1179, 1180, 1181, 1182, 1183, 1184, 1185, 1186, 1187, 1188, 1189, 1190, 1191, 1192, 1193, 1194, 1195, 1196, 1197] rfl (by decide +kernel)
set_option maxRecDepth 20000 in
theorem gL_law_X8_escaped : GoodIn wsL_law (wsV RL 131 RX8 yX8_escaped wsX8_escaped) := goodIn_app (goodIn_of _ (by decide +kernel)) ggL_law_X8_escaped
set_option maxRecDepth 20000 in
theorem ggL_law_X9_escaped : GoodIn wsL_law wsX9_escaped := goodIn_r _ [934, 113, 631, 871, 872, 873, 5, 874, 815, 816, 817, 818, 92, 130, 131, 132, 632, 633, 634, 635, 96, 524, 525, 526, 527, 528, 529, 530, 640, 641, 642, 643, 1139, 1140, 1141, 1142, 1143, 1144, 1145, 1146, 1147, 1148, 1149, 1150, 1151, 1152, 1153, 1154, 1155, 1156] rfl (by decide +kernel)
set_option maxRecDepth 20000 in
theorem gL_law_X9_escaped : GoodIn wsL_law (wsV RL 134 RX9 yX9_escaped wsX9_escaped) := goodIn_app (goodIn_of _ (by decide +kernel)) ggL_law_X9_escaped
set_option maxRecDepth 20000 in
theorem ggL_law_X8_list : GoodIn wsL_law wsX8_list := goodIn_r _ [938, 22, 16, 939, 21, 940, 941, 942, 808, 15, 809, 810, 143, 142, 943, 944, 945, 946, 80, 81, 947, 948, 949, 38, 833, 950, 40, 951, 952, 52, 156, 61, 55, 51, 953, 954, 955, 956, 957, 958, 58, 959, 960, 961, 962, 79, 963, 964, 965, 966, 967, 968, 969, 970, 82, 830, 831, 832, 834, 835, 836, 971, 972, 973, 974, 975, 976, 977, 140, 141, 36, 33, 124, 2, 125, 978, 979, 980, 981, 982, 983, 396, 152, 57, 416, 417, 399, 418, 397, 398, 400, 984, 985, 986, 1134, 1135, 1136, 1137, 1138, 1167, 1168, 1169, 1170, 1171, 1157, 1158, 1159, 1160, 1161, 1162, 1163, 1164, 1165, 1166, 1178, 1179, 1180, 1181, 1182, 1183, 1184, 1185, 1186, 1187, 1188, 1189, 1190, 1191, 1192, 1193, 1194, 1195, 1196, 1197, 1205, 1206, 1207] rfl (by decide +kernel)
set_option maxRecDepth 20000 in
theorem gL_law_X8_list : GoodIn wsL_law (wsV RL 135 RX8 yX8_list wsX8_list) := goodIn_app (goodIn_of _ (by decide +kernel)) ggL_law_X8_list
set_option maxRecDepth 20000 in
theorem ggL_law_X9_list : GoodIn wsL_law wsX9_list := goodIn_r _ [990, 113, 991, 97, 130, 131, 5, 132, 992, 993, 994, 995, 92, 815, 816, 817, 818, 996, 997, 998, 999, 1000, 1001, 1002, 1003, 554, 555, 556, 557, 558, 559, 560, 561, 1004, 1005, 1006, 1007, 1008, 1009, 1010, 1011, 98, 524, 525, 526, 527, 528, 529, 530, 562, 563, 564, 1012, 1013, 1014, 1015, 841, 842, 843, 844, 1016, 1017, 1018, 1019, 1020, 1021, 1022, 1023, 1024, 1025, 1026, 1027, 1028, 1029, 1030, 1031, 1139, 1140, 1141, 1142, 1143, 1144, 1145, 1146, 1147, 1148, 1149, 1150, 1151, 1152, 1153, 1154, 1155, 1156] rfl (by decide +kernel)
set_option maxRecDepth 20000 in
theorem gL_law_X9_list : GoodIn wsL_law (wsV RL 138 RX9 yX9_list wsX9_list) := goodIn_app (goodIn_of _ (by decide +kernel)) ggL_law_X9_list
set_option maxRecDepth 20000 in
theorem ggL_law_X8_total : GoodIn wsL_law wsX8_total := goodIn_r _ [1035, 16, 1036, 312, 15, 313, 314, 36, 315, 316, 317, 318, 141, 124, 2, 125, 947, 948, 949, 38, 833, 808, 809, 810, 143, 142, 950, 40, 951, 952, 52, 156, 61, 55, 51, 975, 976, 977, 140, 33, 978, 979, 980, 981, 982, 983, 396, 152, 57, 416, 417, 399, 418, 397, 398, 400, 1134, 1135, 1136, 1137, 1138, 1157, 1158, 1159, 1160, 1161, 1162, 1163, 1164, 1165, 1166, 1178, 1179, 1180, 1181, 1182, 1183, 1184, 1185, 1186, 1187, 1188, 1189, 1190, 1191, 1192, 1193, 1194, 1195, 1196, 1197, 1205, 1206, 1207] rfl (by decide +kernel)
set_option maxRecDepth 20000 in
theorem gL_law_X8_total : GoodIn wsL_law (wsV RL 139 RX8 yX8_total wsX8_total) := goodIn_app (goodIn_of _ (by decide +kernel)) ggL_law_X8_total
set_option maxRecDepth 20000 in
theorem ggL_law_X9_total : GoodIn wsL_law wsX9_total := goodIn_r _ [1040, 113, 92, 1041, 815, 816, 817, 5, 818, 130, 131, 132, 1000, 1001, 1002, 1003, 554, 555, 556, 557, 558, 559, 560, 561, 1004, 1005, 1006, 1007, 1008, 1009, 1010, 1011, 98, 524, 525, 526, 527, 528, 529, 530, 562, 563, 564, 1024, 1025, 1026, 1027, 1139, 1140, 1141, 1142, 1143, 1144, 1145, 1146, 1147, 1148, 1149, 1150, 1151, 1152, 1153, 1154, 1155, 1156] rfl (by decide +kernel)
set_option maxRecDepth 20000 in
theorem gL_law_X9_total : GoodIn wsL_law (wsV RL 143 RX9 yX9_total wsX9_total) := goodIn_app (goodIn_of _ (by decide +kernel)) ggL_law_X9_total
set_option maxRecDepth 20000 in
theorem ggL_law_X8_jersey : GoodIn wsL_law wsX8_jersey := goodIn_r _ [1045, 22, 16, 123, 124, 2, 125, 1046, 21, 1047, 1048, 1049, 939, 940, 941, 942, 808, 15, 809, 810, 143, 142, 943, 944, 945, 946, 80, 81, 947, 948, 949, 38, 833, 950, 40, 951, 952, 52, 156, 61, 55, 51, 953, 954, 955, 956, 957, 958, 58, 959, 960, 961, 962, 79, 963, 964, 965, 966, 967, 968, 969, 970, 82, 830, 831, 832, 834, 835, 836, 971, 972, 973, 974, 975, 976, 977, 140, 141, 36, 33, 978, 979, 980, 981, 982, 983, 396, 152, 57, 416, 417, 399, 418, 397, 398, 400, 1050, 1051, 1052, 1053, 984, 985, 986, 1134, 1135, 1136, 1137, 1138, 1167, 1168, 1169, 1170, 1171, 1157, 1158, 1159, 1160, 1161, 1162, 1163, 1164, 1165, 1166, 1178, 1179, 1180, 1181, 1182, 1183, 1184, 1185, 1186, 1187, 1188, 1189, 1190, 1191, 1192, 1193, 1194, 1195, 1196, 1197, 1205, 1206, 1207] rfl (by decide +kernel)
set_option maxRecDepth 20000 in
theorem gL_law_X8_jersey : GoodIn wsL_law (wsV RL 144 RX8 yX8_jersey wsX8_jersey) := goodIn_app (goodIn_of _ (by decide +kernel)) ggL_law_X8_jersey
set_option maxRecDepth 20000 in
theorem ggL_law_X9_jersey : GoodIn wsL_law wsX9_jersey := goodIn_r _ [1057, 113, 130, 131, 5, 132, 1058, 1059, 1060, 1061, 991, 97, 992, 993, 994, 995, 92, 815, 816, 817, 818, 996, 997, 998, 999, 1000, 1001, 1002, 1003, 554, 555, 556, 557, 558, 559, 560, 561, 1004, 1005, 1006, 1007, 1008, 1009, 1010, 1011, 98, 524, 525, 526, 527, 528, 529, 530, 562, 563, 564, 1012, 1013, 1014, 1015, 841, 842, 843, 844, 1016, 1017, 1018, 1019, 1020, 1021, 1022, 1023, 1024, 1025, 1026, 1027, 1028, 1029, 1030, 1031, 1139, 1140, 1141, 1142, 1143, 1144, 1145, 1146, 1147, 1148, 1149, 1150, 1151, 1152, 1153, 1154, 1155, 1156] rfl (by decide +kernel)
set_option maxRecDepth 20000 in
theorem gL_law_X9_jersey : GoodIn wsL_law (wsV RL 147 RX9 yX9_jersey wsX9_jersey) := goodIn_app (goodIn_of _ (by decide +kernel)) ggL_law_X9_jersey
set_option maxRecDepth 20000 in
theorem ggL_law_X8_needs : GoodIn wsL_law wsX8_needs := goodIn_r _ [1065, 16, 22, 312, 15, 313, 314, 36, 315, 316, 317, 318, 141, 124, 2, 125, 808, 809, 810, 143, 142, 944, 21, 945, 946, 942, 80, 81, 947, 948, 949, 38, 833, 950, 40, 951, 952, 52, 156, 61, 55, 51, 953, 954, 955, 956, 957, 958, 58, 959, 960, 961, 962, 79, 963, 964, 965, 966, 1066, 1067, 1068, 1069, 984, 985, 986, 1134, 1135, 1136, 1137, 1138, 1157, 1158, 1159, 1160, 1161, 1162, 1163, 1164, 1165, 1166, 1167, 1168, 1169, 1170, 1171, 1178, 1179, 1180, 1181, 1182, 1183, 1184, 1185, 1186, 1187, 1188, 1189, 1190, 1191, 1192, 1193, 1194, 1195, 1196, 1197, 1205, 1206, 1207] rfl (by decide +kernel)
set_option maxRecDepth 20000 in
theorem gL_law_X8_needs : GoodIn wsL_law (wsV RL 148 RX8 yX8_needs wsX8_needs) := goodIn_app (goodIn_of _ (by decide +kernel)) ggL_law_X8_needs
set_option maxRecDepth 20000 in
theorem ggL_law_X9_needs : GoodIn wsL_law wsX9_needs := goodIn_r _ [1073, 113, 92, 554, 555, 556, 5, 557, 558, 559, 560, 561, 130, 131, 132, 815, 816, 817, 818, 1024, 1025, 1026, 1027, 524, 525, 526, 527, 528, 529, 530, 562, 563, 564, 1020, 1021, 1022, 1023, 1028, 1029, 1030, 1031, 1139, 1140, 1141, 1142, 1143, 1144, 1145, 1146, 1147, 1148, 1149, 1150, 1151, 1152, 1153, 1154, 1155, 1156] rfl (by decide +kernel)
set_option maxRecDepth 20000 in
theorem gL_law_X9_needs : GoodIn wsL_law (wsV RL 151 RX9 yX9_needs wsX9_needs) := goodIn_app (goodIn_of _ (by decide +kernel)) ggL_law_X9_needs
set_option maxRecDepth 20000 in
theorem ggL_law_X8_without : GoodIn wsL_law wsX8_without := goodIn_r _ [1077, 16, 22, 853, 15, 854, 855, 38, 833, 808, 809, 810, 143, 142, 124, 2, 125, 944, 21, 945, 946, 942, 80, 81, 947, 948, 949, 950, 40, 951, 952, 52, 156, 61, 55, 51, 953, 954, 955, 956, 957, 958, 58, 959, 960, 961, 962, 79, 963, 964, 965, 966, 984, 985, 986, 1134, 1135, 1136, 1137, 1138, 1157, 1158, 1159, 1160, 1161, 1162, 1163, 1164, 1165, 1166, 1167, 1168, 1169, 1170, 1171, 1178, 1179, 1180, 1181, 1182, 1183, 1184, 1185, 1186, 1187, 1188, 1189, 1190, 1191, 1192, 1193, 1194, 1195, 1196, 1197, 1205, 1206, 1207] rfl (by decide +kernel)
set_option maxRecDepth 20000 in
theorem gL_law_X8_without : GoodIn wsL_law (wsV RL 152 RX8 yX8_without wsX8_without) := goodIn_app (goodIn_of _ (by decide +kernel)) ggL_law_X8_without
set_option maxRecDepth 20000 in
theorem ggL_law_X9_without : GoodIn wsL_law wsX9_without := goodIn_r _ [1081, 113, 92, 871, 872, 873, 5, 874, 815, 816, 817, 818, 130, 131, 132, 554, 555, 556, 557, 558, 559, 560, 561, 1020, 1021, 1022, 1023, 1024, 1025, 1026, 1027, 524, 525, 526, 527, 528, 529, 530, 562, 563, 564, 1028, 1029, 1030, 1031, 1139, 1140, 1141, 1142, 1143, 1144, 1145, 1146, 1147, 1148, 1149, 1150, 1151, 1152, 1153, 1154, 1155, 1156] rfl (by decide +kernel)
set_option maxRecDepth 20000 in
theorem gL_law_X9_without : GoodIn wsL_law (wsV RL 155 RX9 yX9_without wsX9_without) := goodIn_app (goodIn_of _ (by decide +kernel)) ggL_law_X9_without
set_option maxRecDepth 20000 in
theorem ggL_law_X8_caught : GoodIn wsL_law wsX8_caught := goodIn_r _ [1085, 1086, 1087, 1088, 124, 2, 125, 123, 1089, 1090, 1091, 1092, 1093, 1094, 1095, 1096, 1097, 417, 399, 418] rfl (by decide +kernel)
set_option maxRecDepth 20000 in
theorem gL_law_X8_caught : GoodIn wsL_law (wsV RL 156 RX8 yX8_caught wsX8_caught) := goodIn_app (goodIn_of _ (by decide +kernel)) ggL_law_X8_caught
set_option maxRecDepth 20000 in
theorem ggL_law_X9_caught : GoodIn wsL_law wsX9_caught := goodIn_r _ [1101, 113, 1102, 1103, 5, 1104, 130, 131, 132, 1105, 1106, 1107, 1108, 1109, 1110, 1111, 1112, 1113, 1114, 1139, 1140, 1141, 1142, 1143, 1144, 1145, 1146, 1147, 1148, 1149, 1150, 1151, 1152, 1153, 1154, 1155, 1156] rfl (by decide +kernel)
set_option maxRecDepth 20000 in
theorem gL_law_X9_caught : GoodIn wsL_law (wsV RL 160 RX9 yX9_caught wsX9_caught) := goodIn_app (goodIn_of _ (by decide +kernel)) ggL_law_X9_caught
set_option maxRecDepth 20000 in
theorem ggL_law_X8_holds : GoodIn wsL_law wsX8_holds := goodIn_r _ [1118, 1086, 1087, 1088, 124, 2, 125, 1119, 1120, 1092, 1091, 1093, 1094, 1095, 1096, 1097, 417, 399, 418] rfl (by decide +kernel)
set_option maxRecDepth 20000 in
theorem gL_law_X8_holds : GoodIn wsL_law (wsV RL 161 RX8 yX8_holds wsX8_holds) := goodIn_app (goodIn_of _ (by decide +kernel)) ggL_law_X8_holds
set_option maxRecDepth 20000 in
theorem ggL_law_X9_holds : GoodIn wsL_law wsX9_holds := goodIn_r _ [1124, 113, 1102, 1103, 5, 1104, 130, 131, 132, 1105, 1106, 1107, 1108, 1109, 1110, 1111, 1112, 1113, 1114, 1139, 1140, 1141, 1142, 1143, 1144, 1145, 1146, 1147, 1148, 1149, 1150, 1151, 1152, 1153, 1154, 1155, 1156] rfl (by decide +kernel)
set_option maxRecDepth 20000 in
theorem gL_law_X9_holds : GoodIn wsL_law (wsV RL 164 RX9 yX9_holds wsX9_holds) := goodIn_app (goodIn_of _ (by decide +kernel)) ggL_law_X9_holds
set_option maxRecDepth 20000 in
theorem ggL_law_X8_chase : GoodIn wsL_law wsX8_chase := goodIn_r _ [1128, 1129, 1083, 1084, 2, 1085, 1086, 1087, 1088, 124, 125, 123, 1089, 1090, 1091, 1092, 1093, 1094, 1095, 1096, 1097, 417, 399, 418] rfl (by decide +kernel)
set_option maxRecDepth 20000 in
theorem gL_law_X8_chase : GoodIn wsL_law (wsV RL 165 RX8 yX8_chase wsX8_chase) := goodIn_app (goodIn_of _ (by decide +kernel)) ggL_law_X8_chase
set_option maxRecDepth 20000 in
theorem ggL_law_X9_chase : GoodIn wsL_law wsX9_chase := goodIn_r _ [1133, 113, 1102, 1103, 5, 1104, 130, 131, 132, 1105, 1106, 1107, 1108, 1109, 1110, 1111, 1112, 1113, 1114, 1139, 1140, 1141, 1142, 1143, 1144, 1145, 1146, 1147, 1148, 1149, 1150, 1151, 1152, 1153, 1154, 1155, 1156] rfl (by decide +kernel)
set_option maxRecDepth 20000 in
theorem gL_law_X9_chase : GoodIn wsL_law (wsV RL 168 RX9 yX9_chase wsX9_chase) := goodIn_app (goodIn_of _ (by decide +kernel)) ggL_law_X9_chase
theorem dL_law_0 : decode cL_law 0 = .ok (.new 8, 3) := by decide +kernel
theorem dL_law_3 : decode cL_law 3 = .ok (.dup, 1) := by decide +kernel
theorem dL_law_4 : decode cL_law 4 = .ok (.invokespecial 15, 3) := by decide +kernel
theorem dL_law_7 : decode cL_law 7 = .ok (.astore_n 1, 1) := by decide +kernel
theorem dL_law_8 : decode cL_law 8 = .ok (.new 16, 3) := by decide +kernel
theorem dL_law_11 : decode cL_law 11 = .ok (.dup, 1) := by decide +kernel
theorem dL_law_12 : decode cL_law 12 = .ok (.invokespecial 18, 3) := by decide +kernel
theorem dL_law_15 : decode cL_law 15 = .ok (.astore_n 2, 1) := by decide +kernel
theorem dL_law_16 : decode cL_law 16 = .ok (.iconst 1, 1) := by decide +kernel
theorem dL_law_17 : decode cL_law 17 = .ok (.newarray .long, 2) := by decide +kernel
theorem dL_law_19 : decode cL_law 19 = .ok (.astore_n 3, 1) := by decide +kernel
theorem dL_law_20 : decode cL_law 20 = .ok (.iconst 0, 1) := by decide +kernel
theorem dL_law_21 : decode cL_law 21 = .ok (.istore 4, 2) := by decide +kernel
theorem dL_law_23 : decode cL_law 23 = .ok (.iload 4, 2) := by decide +kernel
theorem dL_law_25 : decode cL_law 25 = .ok (.aload_n 0, 1) := by decide +kernel
theorem dL_law_26 : decode cL_law 26 = .ok (.arraylength, 1) := by decide +kernel
theorem dL_law_27 : decode cL_law 27 = .ok (.bipush 6, 2) := by decide +kernel
theorem dL_law_29 : decode cL_law 29 = .ok (.isub, 1) := by decide +kernel
theorem dL_law_30 : decode cL_law 30 = .ok (.if_icmp .gt 1381, 3) := by decide +kernel
theorem dL_law_33 : decode cL_law 33 = .ok (.aload_n 0, 1) := by decide +kernel
theorem dL_law_34 : decode cL_law 34 = .ok (.iload 4, 2) := by decide +kernel
theorem dL_law_36 : decode cL_law 36 = .ok (.iaload, 1) := by decide +kernel
theorem dL_law_37 : decode cL_law 37 = .ok (.bipush 63, 2) := by decide +kernel
theorem dL_law_39 : decode cL_law 39 = .ok (.iand, 1) := by decide +kernel
theorem dL_law_40 : decode cL_law 40 = .ok (.tableswitch 1365 0 33 #[152, 225, 250, 263, 276, 289, 326, 363, 400, 437, 474, 523, 560, 585, 610, 647, 660, 685, 710, 735, 803, 840, 877, 926, 963, 988, 1013, 1050, 1103, 1156, 1181, 1206, 1267, 1316], 152) := by decide +kernel
theorem dL_law_192 : decode cL_law 192 = .ok (.aload_n 1, 1) := by decide +kernel
theorem dL_law_193 : decode cL_law 193 = .ok (.aload_n 0, 1) := by decide +kernel
theorem dL_law_194 : decode cL_law 194 = .ok (.iload 4, 2) := by decide +kernel
theorem dL_law_196 : decode cL_law 196 = .ok (.iconst 1, 1) := by decide +kernel
theorem dL_law_197 : decode cL_law 197 = .ok (.iadd, 1) := by decide +kernel
theorem dL_law_198 : decode cL_law 198 = .ok (.iaload, 1) := by decide +kernel
theorem dL_law_199 : decode cL_law 199 = .ok (.aload_n 0, 1) := by decide +kernel
theorem dL_law_200 : decode cL_law 200 = .ok (.iload 4, 2) := by decide +kernel
theorem dL_law_202 : decode cL_law 202 = .ok (.iconst 2, 1) := by decide +kernel
theorem dL_law_203 : decode cL_law 203 = .ok (.iadd, 1) := by decide +kernel
theorem dL_law_204 : decode cL_law 204 = .ok (.iaload, 1) := by decide +kernel
theorem dL_law_205 : decode cL_law 205 = .ok (.aload_n 0, 1) := by decide +kernel
theorem dL_law_206 : decode cL_law 206 = .ok (.iload 4, 2) := by decide +kernel
theorem dL_law_208 : decode cL_law 208 = .ok (.iconst 3, 1) := by decide +kernel
theorem dL_law_209 : decode cL_law 209 = .ok (.iadd, 1) := by decide +kernel
theorem dL_law_210 : decode cL_law 210 = .ok (.iaload, 1) := by decide +kernel
theorem dL_law_211 : decode cL_law 211 = .ok (.aload_n 0, 1) := by decide +kernel
theorem dL_law_212 : decode cL_law 212 = .ok (.iload 4, 2) := by decide +kernel
theorem dL_law_214 : decode cL_law 214 = .ok (.iconst 4, 1) := by decide +kernel
theorem dL_law_215 : decode cL_law 215 = .ok (.iadd, 1) := by decide +kernel
theorem dL_law_216 : decode cL_law 216 = .ok (.iaload, 1) := by decide +kernel
theorem dL_law_217 : decode cL_law 217 = .ok (.aload_n 0, 1) := by decide +kernel
theorem dL_law_218 : decode cL_law 218 = .ok (.iload 4, 2) := by decide +kernel
theorem dL_law_220 : decode cL_law 220 = .ok (.iconst 5, 1) := by decide +kernel
theorem dL_law_221 : decode cL_law 221 = .ok (.iadd, 1) := by decide +kernel
theorem dL_law_222 : decode cL_law 222 = .ok (.iaload, 1) := by decide +kernel
theorem dL_law_223 : decode cL_law 223 = .ok (.invokevirtual 19, 3) := by decide +kernel
theorem dL_law_226 : decode cL_law 226 = .ok (.aload_n 2, 1) := by decide +kernel
theorem dL_law_227 : decode cL_law 227 = .ok (.aload_n 0, 1) := by decide +kernel
theorem dL_law_228 : decode cL_law 228 = .ok (.iload 4, 2) := by decide +kernel
theorem dL_law_230 : decode cL_law 230 = .ok (.iconst 1, 1) := by decide +kernel
theorem dL_law_231 : decode cL_law 231 = .ok (.iadd, 1) := by decide +kernel
theorem dL_law_232 : decode cL_law 232 = .ok (.iaload, 1) := by decide +kernel
theorem dL_law_233 : decode cL_law 233 = .ok (.aload_n 0, 1) := by decide +kernel
theorem dL_law_234 : decode cL_law 234 = .ok (.iload 4, 2) := by decide +kernel
theorem dL_law_236 : decode cL_law 236 = .ok (.iconst 2, 1) := by decide +kernel
theorem dL_law_237 : decode cL_law 237 = .ok (.iadd, 1) := by decide +kernel
theorem dL_law_238 : decode cL_law 238 = .ok (.iaload, 1) := by decide +kernel
theorem dL_law_239 : decode cL_law 239 = .ok (.aload_n 0, 1) := by decide +kernel
theorem dL_law_240 : decode cL_law 240 = .ok (.iload 4, 2) := by decide +kernel
theorem dL_law_242 : decode cL_law 242 = .ok (.iconst 3, 1) := by decide +kernel
theorem dL_law_243 : decode cL_law 243 = .ok (.iadd, 1) := by decide +kernel
theorem dL_law_244 : decode cL_law 244 = .ok (.iaload, 1) := by decide +kernel
theorem dL_law_245 : decode cL_law 245 = .ok (.aload_n 0, 1) := by decide +kernel
theorem dL_law_246 : decode cL_law 246 = .ok (.iload 4, 2) := by decide +kernel
theorem dL_law_248 : decode cL_law 248 = .ok (.iconst 4, 1) := by decide +kernel
theorem dL_law_249 : decode cL_law 249 = .ok (.iadd, 1) := by decide +kernel
theorem dL_law_250 : decode cL_law 250 = .ok (.iaload, 1) := by decide +kernel
theorem dL_law_251 : decode cL_law 251 = .ok (.aload_n 0, 1) := by decide +kernel
theorem dL_law_252 : decode cL_law 252 = .ok (.iload 4, 2) := by decide +kernel
theorem dL_law_254 : decode cL_law 254 = .ok (.iconst 5, 1) := by decide +kernel
theorem dL_law_255 : decode cL_law 255 = .ok (.iadd, 1) := by decide +kernel
theorem dL_law_256 : decode cL_law 256 = .ok (.iaload, 1) := by decide +kernel
theorem dL_law_257 : decode cL_law 257 = .ok (.invokevirtual 23, 3) := by decide +kernel
theorem dL_law_260 : decode cL_law 260 = .ok (.if_icmp .eq 1145, 3) := by decide +kernel
theorem dL_law_263 : decode cL_law 263 = .ok (.iconst 0, 1) := by decide +kernel
theorem dL_law_264 : decode cL_law 264 = .ok (.ireturn, 1) := by decide +kernel
theorem dL_law_265 : decode cL_law 265 = .ok (.aload_n 1, 1) := by decide +kernel
theorem dL_law_266 : decode cL_law 266 = .ok (.aload_n 0, 1) := by decide +kernel
theorem dL_law_267 : decode cL_law 267 = .ok (.iload 4, 2) := by decide +kernel
theorem dL_law_269 : decode cL_law 269 = .ok (.iconst 1, 1) := by decide +kernel
theorem dL_law_270 : decode cL_law 270 = .ok (.iadd, 1) := by decide +kernel
theorem dL_law_271 : decode cL_law 271 = .ok (.iaload, 1) := by decide +kernel
theorem dL_law_272 : decode cL_law 272 = .ok (.invokevirtual 24, 3) := by decide +kernel
theorem dL_law_275 : decode cL_law 275 = .ok (.aload_n 2, 1) := by decide +kernel
theorem dL_law_276 : decode cL_law 276 = .ok (.aload_n 0, 1) := by decide +kernel
theorem dL_law_277 : decode cL_law 277 = .ok (.iload 4, 2) := by decide +kernel
theorem dL_law_279 : decode cL_law 279 = .ok (.iconst 1, 1) := by decide +kernel
theorem dL_law_280 : decode cL_law 280 = .ok (.iadd, 1) := by decide +kernel
theorem dL_law_281 : decode cL_law 281 = .ok (.iaload, 1) := by decide +kernel
theorem dL_law_282 : decode cL_law 282 = .ok (.invokevirtual 28, 3) := by decide +kernel
theorem dL_law_285 : decode cL_law 285 = .ok (.if_icmp .eq 1120, 3) := by decide +kernel
theorem dL_law_288 : decode cL_law 288 = .ok (.iconst 0, 1) := by decide +kernel
theorem dL_law_289 : decode cL_law 289 = .ok (.ireturn, 1) := by decide +kernel
theorem dL_law_290 : decode cL_law 290 = .ok (.aload_n 1, 1) := by decide +kernel
theorem dL_law_291 : decode cL_law 291 = .ok (.invokevirtual 29, 3) := by decide +kernel
theorem dL_law_294 : decode cL_law 294 = .ok (.aload_n 2, 1) := by decide +kernel
theorem dL_law_295 : decode cL_law 295 = .ok (.invokevirtual 33, 3) := by decide +kernel
theorem dL_law_298 : decode cL_law 298 = .ok (.if_icmp .eq 1107, 3) := by decide +kernel
theorem dL_law_301 : decode cL_law 301 = .ok (.iconst 0, 1) := by decide +kernel
theorem dL_law_302 : decode cL_law 302 = .ok (.ireturn, 1) := by decide +kernel
theorem dL_law_303 : decode cL_law 303 = .ok (.aload_n 1, 1) := by decide +kernel
theorem dL_law_304 : decode cL_law 304 = .ok (.invokevirtual 34, 3) := by decide +kernel
theorem dL_law_307 : decode cL_law 307 = .ok (.aload_n 2, 1) := by decide +kernel
theorem dL_law_308 : decode cL_law 308 = .ok (.invokevirtual 37, 3) := by decide +kernel
theorem dL_law_311 : decode cL_law 311 = .ok (.if_icmp .eq 1094, 3) := by decide +kernel
theorem dL_law_314 : decode cL_law 314 = .ok (.iconst 0, 1) := by decide +kernel
theorem dL_law_315 : decode cL_law 315 = .ok (.ireturn, 1) := by decide +kernel
theorem dL_law_316 : decode cL_law 316 = .ok (.aload_n 1, 1) := by decide +kernel
theorem dL_law_317 : decode cL_law 317 = .ok (.invokevirtual 38, 3) := by decide +kernel
theorem dL_law_320 : decode cL_law 320 = .ok (.aload_n 2, 1) := by decide +kernel
theorem dL_law_321 : decode cL_law 321 = .ok (.invokevirtual 41, 3) := by decide +kernel
theorem dL_law_324 : decode cL_law 324 = .ok (.if_icmp .eq 1081, 3) := by decide +kernel
theorem dL_law_327 : decode cL_law 327 = .ok (.iconst 0, 1) := by decide +kernel
theorem dL_law_328 : decode cL_law 328 = .ok (.ireturn, 1) := by decide +kernel
theorem dL_law_329 : decode cL_law 329 = .ok (.aload_n 1, 1) := by decide +kernel
theorem dL_law_330 : decode cL_law 330 = .ok (.aload_n 0, 1) := by decide +kernel
theorem dL_law_331 : decode cL_law 331 = .ok (.iload 4, 2) := by decide +kernel
theorem dL_law_333 : decode cL_law 333 = .ok (.iconst 1, 1) := by decide +kernel
theorem dL_law_334 : decode cL_law 334 = .ok (.iadd, 1) := by decide +kernel
theorem dL_law_335 : decode cL_law 335 = .ok (.iaload, 1) := by decide +kernel
theorem dL_law_336 : decode cL_law 336 = .ok (.aload_n 0, 1) := by decide +kernel
theorem dL_law_337 : decode cL_law 337 = .ok (.iload 4, 2) := by decide +kernel
theorem dL_law_339 : decode cL_law 339 = .ok (.iconst 2, 1) := by decide +kernel
theorem dL_law_340 : decode cL_law 340 = .ok (.iadd, 1) := by decide +kernel
theorem dL_law_341 : decode cL_law 341 = .ok (.iaload, 1) := by decide +kernel
theorem dL_law_342 : decode cL_law 342 = .ok (.invokevirtual 42, 3) := by decide +kernel
theorem dL_law_345 : decode cL_law 345 = .ok (.aload_n 2, 1) := by decide +kernel
theorem dL_law_346 : decode cL_law 346 = .ok (.aload_n 0, 1) := by decide +kernel
theorem dL_law_347 : decode cL_law 347 = .ok (.iload 4, 2) := by decide +kernel
theorem dL_law_349 : decode cL_law 349 = .ok (.iconst 1, 1) := by decide +kernel
theorem dL_law_350 : decode cL_law 350 = .ok (.iadd, 1) := by decide +kernel
theorem dL_law_351 : decode cL_law 351 = .ok (.iaload, 1) := by decide +kernel
theorem dL_law_352 : decode cL_law 352 = .ok (.aload_n 0, 1) := by decide +kernel
theorem dL_law_353 : decode cL_law 353 = .ok (.iload 4, 2) := by decide +kernel
theorem dL_law_355 : decode cL_law 355 = .ok (.iconst 2, 1) := by decide +kernel
theorem dL_law_356 : decode cL_law 356 = .ok (.iadd, 1) := by decide +kernel
theorem dL_law_357 : decode cL_law 357 = .ok (.iaload, 1) := by decide +kernel
theorem dL_law_358 : decode cL_law 358 = .ok (.invokevirtual 45, 3) := by decide +kernel
theorem dL_law_361 : decode cL_law 361 = .ok (.if_icmp .eq 1044, 3) := by decide +kernel
theorem dL_law_364 : decode cL_law 364 = .ok (.iconst 0, 1) := by decide +kernel
theorem dL_law_365 : decode cL_law 365 = .ok (.ireturn, 1) := by decide +kernel
theorem dL_law_366 : decode cL_law 366 = .ok (.aload_n 1, 1) := by decide +kernel
theorem dL_law_367 : decode cL_law 367 = .ok (.aload_n 0, 1) := by decide +kernel
theorem dL_law_368 : decode cL_law 368 = .ok (.iload 4, 2) := by decide +kernel
theorem dL_law_370 : decode cL_law 370 = .ok (.iconst 1, 1) := by decide +kernel
theorem dL_law_371 : decode cL_law 371 = .ok (.iadd, 1) := by decide +kernel
theorem dL_law_372 : decode cL_law 372 = .ok (.iaload, 1) := by decide +kernel
theorem dL_law_373 : decode cL_law 373 = .ok (.aload_n 0, 1) := by decide +kernel
theorem dL_law_374 : decode cL_law 374 = .ok (.iload 4, 2) := by decide +kernel
theorem dL_law_376 : decode cL_law 376 = .ok (.iconst 2, 1) := by decide +kernel
theorem dL_law_377 : decode cL_law 377 = .ok (.iadd, 1) := by decide +kernel
theorem dL_law_378 : decode cL_law 378 = .ok (.iaload, 1) := by decide +kernel
theorem dL_law_379 : decode cL_law 379 = .ok (.invokevirtual 46, 3) := by decide +kernel
theorem dL_law_382 : decode cL_law 382 = .ok (.aload_n 2, 1) := by decide +kernel
theorem dL_law_383 : decode cL_law 383 = .ok (.aload_n 0, 1) := by decide +kernel
theorem dL_law_384 : decode cL_law 384 = .ok (.iload 4, 2) := by decide +kernel
theorem dL_law_386 : decode cL_law 386 = .ok (.iconst 1, 1) := by decide +kernel
theorem dL_law_387 : decode cL_law 387 = .ok (.iadd, 1) := by decide +kernel
theorem dL_law_388 : decode cL_law 388 = .ok (.iaload, 1) := by decide +kernel
theorem dL_law_389 : decode cL_law 389 = .ok (.aload_n 0, 1) := by decide +kernel
theorem dL_law_390 : decode cL_law 390 = .ok (.iload 4, 2) := by decide +kernel
theorem dL_law_392 : decode cL_law 392 = .ok (.iconst 2, 1) := by decide +kernel
theorem dL_law_393 : decode cL_law 393 = .ok (.iadd, 1) := by decide +kernel
theorem dL_law_394 : decode cL_law 394 = .ok (.iaload, 1) := by decide +kernel
theorem dL_law_395 : decode cL_law 395 = .ok (.invokevirtual 49, 3) := by decide +kernel
theorem dL_law_398 : decode cL_law 398 = .ok (.if_icmp .eq 1007, 3) := by decide +kernel
theorem dL_law_401 : decode cL_law 401 = .ok (.iconst 0, 1) := by decide +kernel
theorem dL_law_402 : decode cL_law 402 = .ok (.ireturn, 1) := by decide +kernel
theorem dL_law_403 : decode cL_law 403 = .ok (.aload_n 1, 1) := by decide +kernel
theorem dL_law_404 : decode cL_law 404 = .ok (.aload_n 0, 1) := by decide +kernel
theorem dL_law_405 : decode cL_law 405 = .ok (.iload 4, 2) := by decide +kernel
theorem dL_law_407 : decode cL_law 407 = .ok (.iconst 1, 1) := by decide +kernel
theorem dL_law_408 : decode cL_law 408 = .ok (.iadd, 1) := by decide +kernel
theorem dL_law_409 : decode cL_law 409 = .ok (.iaload, 1) := by decide +kernel
theorem dL_law_410 : decode cL_law 410 = .ok (.aload_n 0, 1) := by decide +kernel
theorem dL_law_411 : decode cL_law 411 = .ok (.iload 4, 2) := by decide +kernel
theorem dL_law_413 : decode cL_law 413 = .ok (.iconst 2, 1) := by decide +kernel
theorem dL_law_414 : decode cL_law 414 = .ok (.iadd, 1) := by decide +kernel
theorem dL_law_415 : decode cL_law 415 = .ok (.iaload, 1) := by decide +kernel
theorem dL_law_416 : decode cL_law 416 = .ok (.invokevirtual 50, 3) := by decide +kernel
theorem dL_law_419 : decode cL_law 419 = .ok (.aload_n 2, 1) := by decide +kernel
theorem dL_law_420 : decode cL_law 420 = .ok (.aload_n 0, 1) := by decide +kernel
theorem dL_law_421 : decode cL_law 421 = .ok (.iload 4, 2) := by decide +kernel
theorem dL_law_423 : decode cL_law 423 = .ok (.iconst 1, 1) := by decide +kernel
theorem dL_law_424 : decode cL_law 424 = .ok (.iadd, 1) := by decide +kernel
theorem dL_law_425 : decode cL_law 425 = .ok (.iaload, 1) := by decide +kernel
theorem dL_law_426 : decode cL_law 426 = .ok (.aload_n 0, 1) := by decide +kernel
theorem dL_law_427 : decode cL_law 427 = .ok (.iload 4, 2) := by decide +kernel
theorem dL_law_429 : decode cL_law 429 = .ok (.iconst 2, 1) := by decide +kernel
theorem dL_law_430 : decode cL_law 430 = .ok (.iadd, 1) := by decide +kernel
theorem dL_law_431 : decode cL_law 431 = .ok (.iaload, 1) := by decide +kernel
theorem dL_law_432 : decode cL_law 432 = .ok (.invokevirtual 53, 3) := by decide +kernel
theorem dL_law_435 : decode cL_law 435 = .ok (.if_icmp .eq 970, 3) := by decide +kernel
theorem dL_law_438 : decode cL_law 438 = .ok (.iconst 0, 1) := by decide +kernel
theorem dL_law_439 : decode cL_law 439 = .ok (.ireturn, 1) := by decide +kernel
theorem dL_law_440 : decode cL_law 440 = .ok (.aload_n 1, 1) := by decide +kernel
theorem dL_law_441 : decode cL_law 441 = .ok (.aload_n 0, 1) := by decide +kernel
theorem dL_law_442 : decode cL_law 442 = .ok (.iload 4, 2) := by decide +kernel
theorem dL_law_444 : decode cL_law 444 = .ok (.iconst 1, 1) := by decide +kernel
theorem dL_law_445 : decode cL_law 445 = .ok (.iadd, 1) := by decide +kernel
theorem dL_law_446 : decode cL_law 446 = .ok (.iaload, 1) := by decide +kernel
theorem dL_law_447 : decode cL_law 447 = .ok (.aload_n 0, 1) := by decide +kernel
theorem dL_law_448 : decode cL_law 448 = .ok (.iload 4, 2) := by decide +kernel
theorem dL_law_450 : decode cL_law 450 = .ok (.iconst 2, 1) := by decide +kernel
theorem dL_law_451 : decode cL_law 451 = .ok (.iadd, 1) := by decide +kernel
theorem dL_law_452 : decode cL_law 452 = .ok (.iaload, 1) := by decide +kernel
theorem dL_law_453 : decode cL_law 453 = .ok (.invokevirtual 54, 3) := by decide +kernel
theorem dL_law_456 : decode cL_law 456 = .ok (.aload_n 2, 1) := by decide +kernel
theorem dL_law_457 : decode cL_law 457 = .ok (.aload_n 0, 1) := by decide +kernel
theorem dL_law_458 : decode cL_law 458 = .ok (.iload 4, 2) := by decide +kernel
theorem dL_law_460 : decode cL_law 460 = .ok (.iconst 1, 1) := by decide +kernel
theorem dL_law_461 : decode cL_law 461 = .ok (.iadd, 1) := by decide +kernel
theorem dL_law_462 : decode cL_law 462 = .ok (.iaload, 1) := by decide +kernel
theorem dL_law_463 : decode cL_law 463 = .ok (.aload_n 0, 1) := by decide +kernel
theorem dL_law_464 : decode cL_law 464 = .ok (.iload 4, 2) := by decide +kernel
theorem dL_law_466 : decode cL_law 466 = .ok (.iconst 2, 1) := by decide +kernel
theorem dL_law_467 : decode cL_law 467 = .ok (.iadd, 1) := by decide +kernel
theorem dL_law_468 : decode cL_law 468 = .ok (.iaload, 1) := by decide +kernel
theorem dL_law_469 : decode cL_law 469 = .ok (.invokevirtual 58, 3) := by decide +kernel
theorem dL_law_472 : decode cL_law 472 = .ok (.if_icmp .eq 933, 3) := by decide +kernel
theorem dL_law_475 : decode cL_law 475 = .ok (.iconst 0, 1) := by decide +kernel
theorem dL_law_476 : decode cL_law 476 = .ok (.ireturn, 1) := by decide +kernel
theorem dL_law_477 : decode cL_law 477 = .ok (.aload_n 1, 1) := by decide +kernel
theorem dL_law_478 : decode cL_law 478 = .ok (.aload_n 0, 1) := by decide +kernel
theorem dL_law_479 : decode cL_law 479 = .ok (.iload 4, 2) := by decide +kernel
theorem dL_law_481 : decode cL_law 481 = .ok (.iconst 1, 1) := by decide +kernel
theorem dL_law_482 : decode cL_law 482 = .ok (.iadd, 1) := by decide +kernel
theorem dL_law_483 : decode cL_law 483 = .ok (.iaload, 1) := by decide +kernel
theorem dL_law_484 : decode cL_law 484 = .ok (.aload_n 0, 1) := by decide +kernel
theorem dL_law_485 : decode cL_law 485 = .ok (.iload 4, 2) := by decide +kernel
theorem dL_law_487 : decode cL_law 487 = .ok (.iconst 2, 1) := by decide +kernel
theorem dL_law_488 : decode cL_law 488 = .ok (.iadd, 1) := by decide +kernel
theorem dL_law_489 : decode cL_law 489 = .ok (.iaload, 1) := by decide +kernel
theorem dL_law_490 : decode cL_law 490 = .ok (.invokevirtual 59, 3) := by decide +kernel
theorem dL_law_493 : decode cL_law 493 = .ok (.aload_n 2, 1) := by decide +kernel
theorem dL_law_494 : decode cL_law 494 = .ok (.aload_n 0, 1) := by decide +kernel
theorem dL_law_495 : decode cL_law 495 = .ok (.iload 4, 2) := by decide +kernel
theorem dL_law_497 : decode cL_law 497 = .ok (.iconst 1, 1) := by decide +kernel
theorem dL_law_498 : decode cL_law 498 = .ok (.iadd, 1) := by decide +kernel
theorem dL_law_499 : decode cL_law 499 = .ok (.iaload, 1) := by decide +kernel
theorem dL_law_500 : decode cL_law 500 = .ok (.aload_n 0, 1) := by decide +kernel
theorem dL_law_501 : decode cL_law 501 = .ok (.iload 4, 2) := by decide +kernel
theorem dL_law_503 : decode cL_law 503 = .ok (.iconst 2, 1) := by decide +kernel
theorem dL_law_504 : decode cL_law 504 = .ok (.iadd, 1) := by decide +kernel
theorem dL_law_505 : decode cL_law 505 = .ok (.iaload, 1) := by decide +kernel
theorem dL_law_506 : decode cL_law 506 = .ok (.invokevirtual 62, 3) := by decide +kernel
theorem dL_law_509 : decode cL_law 509 = .ok (.if_icmp .eq 896, 3) := by decide +kernel
theorem dL_law_512 : decode cL_law 512 = .ok (.iconst 0, 1) := by decide +kernel
theorem dL_law_513 : decode cL_law 513 = .ok (.ireturn, 1) := by decide +kernel
theorem dL_law_514 : decode cL_law 514 = .ok (.aload_n 1, 1) := by decide +kernel
theorem dL_law_515 : decode cL_law 515 = .ok (.aload_n 0, 1) := by decide +kernel
theorem dL_law_516 : decode cL_law 516 = .ok (.iload 4, 2) := by decide +kernel
theorem dL_law_518 : decode cL_law 518 = .ok (.iconst 1, 1) := by decide +kernel
theorem dL_law_519 : decode cL_law 519 = .ok (.iadd, 1) := by decide +kernel
theorem dL_law_520 : decode cL_law 520 = .ok (.iaload, 1) := by decide +kernel
theorem dL_law_521 : decode cL_law 521 = .ok (.aload_n 0, 1) := by decide +kernel
theorem dL_law_522 : decode cL_law 522 = .ok (.iload 4, 2) := by decide +kernel
theorem dL_law_524 : decode cL_law 524 = .ok (.iconst 2, 1) := by decide +kernel
theorem dL_law_525 : decode cL_law 525 = .ok (.iadd, 1) := by decide +kernel
theorem dL_law_526 : decode cL_law 526 = .ok (.iaload, 1) := by decide +kernel
theorem dL_law_527 : decode cL_law 527 = .ok (.aload_n 0, 1) := by decide +kernel
theorem dL_law_528 : decode cL_law 528 = .ok (.iload 4, 2) := by decide +kernel
theorem dL_law_530 : decode cL_law 530 = .ok (.iconst 3, 1) := by decide +kernel
theorem dL_law_531 : decode cL_law 531 = .ok (.iadd, 1) := by decide +kernel
theorem dL_law_532 : decode cL_law 532 = .ok (.iaload, 1) := by decide +kernel
theorem dL_law_533 : decode cL_law 533 = .ok (.invokevirtual 63, 3) := by decide +kernel
theorem dL_law_536 : decode cL_law 536 = .ok (.aload_n 2, 1) := by decide +kernel
theorem dL_law_537 : decode cL_law 537 = .ok (.aload_n 0, 1) := by decide +kernel
theorem dL_law_538 : decode cL_law 538 = .ok (.iload 4, 2) := by decide +kernel
theorem dL_law_540 : decode cL_law 540 = .ok (.iconst 1, 1) := by decide +kernel
theorem dL_law_541 : decode cL_law 541 = .ok (.iadd, 1) := by decide +kernel
theorem dL_law_542 : decode cL_law 542 = .ok (.iaload, 1) := by decide +kernel
theorem dL_law_543 : decode cL_law 543 = .ok (.aload_n 0, 1) := by decide +kernel
theorem dL_law_544 : decode cL_law 544 = .ok (.iload 4, 2) := by decide +kernel
theorem dL_law_546 : decode cL_law 546 = .ok (.iconst 2, 1) := by decide +kernel
theorem dL_law_547 : decode cL_law 547 = .ok (.iadd, 1) := by decide +kernel
theorem dL_law_548 : decode cL_law 548 = .ok (.iaload, 1) := by decide +kernel
theorem dL_law_549 : decode cL_law 549 = .ok (.aload_n 0, 1) := by decide +kernel
theorem dL_law_550 : decode cL_law 550 = .ok (.iload 4, 2) := by decide +kernel
theorem dL_law_552 : decode cL_law 552 = .ok (.iconst 3, 1) := by decide +kernel
theorem dL_law_553 : decode cL_law 553 = .ok (.iadd, 1) := by decide +kernel
theorem dL_law_554 : decode cL_law 554 = .ok (.iaload, 1) := by decide +kernel
theorem dL_law_555 : decode cL_law 555 = .ok (.invokevirtual 67, 3) := by decide +kernel
theorem dL_law_558 : decode cL_law 558 = .ok (.if_icmp .eq 847, 3) := by decide +kernel
theorem dL_law_561 : decode cL_law 561 = .ok (.iconst 0, 1) := by decide +kernel
theorem dL_law_562 : decode cL_law 562 = .ok (.ireturn, 1) := by decide +kernel
theorem dL_law_563 : decode cL_law 563 = .ok (.aload_n 1, 1) := by decide +kernel
theorem dL_law_564 : decode cL_law 564 = .ok (.aload_n 0, 1) := by decide +kernel
theorem dL_law_565 : decode cL_law 565 = .ok (.iload 4, 2) := by decide +kernel
theorem dL_law_567 : decode cL_law 567 = .ok (.iconst 1, 1) := by decide +kernel
theorem dL_law_568 : decode cL_law 568 = .ok (.iadd, 1) := by decide +kernel
theorem dL_law_569 : decode cL_law 569 = .ok (.iaload, 1) := by decide +kernel
theorem dL_law_570 : decode cL_law 570 = .ok (.aload_n 0, 1) := by decide +kernel
theorem dL_law_571 : decode cL_law 571 = .ok (.iload 4, 2) := by decide +kernel
theorem dL_law_573 : decode cL_law 573 = .ok (.iconst 2, 1) := by decide +kernel
theorem dL_law_574 : decode cL_law 574 = .ok (.iadd, 1) := by decide +kernel
theorem dL_law_575 : decode cL_law 575 = .ok (.iaload, 1) := by decide +kernel
theorem dL_law_576 : decode cL_law 576 = .ok (.invokevirtual 68, 3) := by decide +kernel
theorem dL_law_579 : decode cL_law 579 = .ok (.aload_n 2, 1) := by decide +kernel
theorem dL_law_580 : decode cL_law 580 = .ok (.aload_n 0, 1) := by decide +kernel
theorem dL_law_581 : decode cL_law 581 = .ok (.iload 4, 2) := by decide +kernel
theorem dL_law_583 : decode cL_law 583 = .ok (.iconst 1, 1) := by decide +kernel
theorem dL_law_584 : decode cL_law 584 = .ok (.iadd, 1) := by decide +kernel
theorem dL_law_585 : decode cL_law 585 = .ok (.iaload, 1) := by decide +kernel
theorem dL_law_586 : decode cL_law 586 = .ok (.aload_n 0, 1) := by decide +kernel
theorem dL_law_587 : decode cL_law 587 = .ok (.iload 4, 2) := by decide +kernel
theorem dL_law_589 : decode cL_law 589 = .ok (.iconst 2, 1) := by decide +kernel
theorem dL_law_590 : decode cL_law 590 = .ok (.iadd, 1) := by decide +kernel
theorem dL_law_591 : decode cL_law 591 = .ok (.iaload, 1) := by decide +kernel
theorem dL_law_592 : decode cL_law 592 = .ok (.invokevirtual 71, 3) := by decide +kernel
theorem dL_law_595 : decode cL_law 595 = .ok (.if_icmp .eq 810, 3) := by decide +kernel
theorem dL_law_598 : decode cL_law 598 = .ok (.iconst 0, 1) := by decide +kernel
theorem dL_law_599 : decode cL_law 599 = .ok (.ireturn, 1) := by decide +kernel
theorem dL_law_600 : decode cL_law 600 = .ok (.aload_n 1, 1) := by decide +kernel
theorem dL_law_601 : decode cL_law 601 = .ok (.aload_n 0, 1) := by decide +kernel
theorem dL_law_602 : decode cL_law 602 = .ok (.iload 4, 2) := by decide +kernel
theorem dL_law_604 : decode cL_law 604 = .ok (.iconst 1, 1) := by decide +kernel
theorem dL_law_605 : decode cL_law 605 = .ok (.iadd, 1) := by decide +kernel
theorem dL_law_606 : decode cL_law 606 = .ok (.iaload, 1) := by decide +kernel
theorem dL_law_607 : decode cL_law 607 = .ok (.invokevirtual 72, 3) := by decide +kernel
theorem dL_law_610 : decode cL_law 610 = .ok (.aload_n 2, 1) := by decide +kernel
theorem dL_law_611 : decode cL_law 611 = .ok (.aload_n 0, 1) := by decide +kernel
theorem dL_law_612 : decode cL_law 612 = .ok (.iload 4, 2) := by decide +kernel
theorem dL_law_614 : decode cL_law 614 = .ok (.iconst 1, 1) := by decide +kernel
theorem dL_law_615 : decode cL_law 615 = .ok (.iadd, 1) := by decide +kernel
theorem dL_law_616 : decode cL_law 616 = .ok (.iaload, 1) := by decide +kernel
theorem dL_law_617 : decode cL_law 617 = .ok (.invokevirtual 75, 3) := by decide +kernel
theorem dL_law_620 : decode cL_law 620 = .ok (.if_icmp .eq 785, 3) := by decide +kernel
theorem dL_law_623 : decode cL_law 623 = .ok (.iconst 0, 1) := by decide +kernel
theorem dL_law_624 : decode cL_law 624 = .ok (.ireturn, 1) := by decide +kernel
theorem dL_law_625 : decode cL_law 625 = .ok (.aload_n 1, 1) := by decide +kernel
theorem dL_law_626 : decode cL_law 626 = .ok (.aload_n 0, 1) := by decide +kernel
theorem dL_law_627 : decode cL_law 627 = .ok (.iload 4, 2) := by decide +kernel
theorem dL_law_629 : decode cL_law 629 = .ok (.iconst 1, 1) := by decide +kernel
theorem dL_law_630 : decode cL_law 630 = .ok (.iadd, 1) := by decide +kernel
theorem dL_law_631 : decode cL_law 631 = .ok (.iaload, 1) := by decide +kernel
theorem dL_law_632 : decode cL_law 632 = .ok (.invokevirtual 76, 3) := by decide +kernel
theorem dL_law_635 : decode cL_law 635 = .ok (.aload_n 2, 1) := by decide +kernel
