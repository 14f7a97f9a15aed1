theorem dX9_laysPrizes_88 : decode cX9_laysPrizes 88 = .ok (.istore_n 2, 1) := by decide +kernel
theorem dX9_laysPrizes_89 : decode cX9_laysPrizes 89 = .ok (.iload_n 2, 1) := by decide +kernel
theorem dX9_laysPrizes_90 : decode cX9_laysPrizes 90 = .ok (.aload_n 0, 1) := by decide +kernel
theorem dX9_laysPrizes_91 : decode cX9_laysPrizes 91 = .ok (.getfield 7, 3) := by decide +kernel
theorem dX9_laysPrizes_94 : decode cX9_laysPrizes 94 = .ok (.iload_n 1, 1) := by decide +kernel
theorem dX9_laysPrizes_95 : decode cX9_laysPrizes 95 = .ok (.iconst 2, 1) := by decide +kernel
theorem dX9_laysPrizes_96 : decode cX9_laysPrizes 96 = .ok (.invokestatic 87, 3) := by decide +kernel
theorem dX9_laysPrizes_99 : decode cX9_laysPrizes 99 = .ok (.iaload, 1) := by decide +kernel
theorem dX9_laysPrizes_100 : decode cX9_laysPrizes 100 = .ok (.if_icmp .ge 151, 3) := by decide +kernel
theorem dX9_laysPrizes_103 : decode cX9_laysPrizes 103 = .ok (.aload_n 0, 1) := by decide +kernel
theorem dX9_laysPrizes_104 : decode cX9_laysPrizes 104 = .ok (.getfield 7, 3) := by decide +kernel
theorem dX9_laysPrizes_107 : decode cX9_laysPrizes 107 = .ok (.iload_n 1, 1) := by decide +kernel
theorem dX9_laysPrizes_108 : decode cX9_laysPrizes 108 = .ok (.iload_n 2, 1) := by decide +kernel
theorem dX9_laysPrizes_109 : decode cX9_laysPrizes 109 = .ok (.iconst 1, 1) := by decide +kernel
theorem dX9_laysPrizes_110 : decode cX9_laysPrizes 110 = .ok (.invokestatic 92, 3) := by decide +kernel
theorem dX9_laysPrizes_113 : decode cX9_laysPrizes 113 = .ok (.iaload, 1) := by decide +kernel
theorem dX9_laysPrizes_114 : decode cX9_laysPrizes 114 = .ok (.istore_n 3, 1) := by decide +kernel
theorem dX9_laysPrizes_115 : decode cX9_laysPrizes 115 = .ok (.iconst 0, 1) := by decide +kernel
theorem dX9_laysPrizes_116 : decode cX9_laysPrizes 116 = .ok (.istore 4, 2) := by decide +kernel
theorem dX9_laysPrizes_118 : decode cX9_laysPrizes 118 = .ok (.iconst 0, 1) := by decide +kernel
theorem dX9_laysPrizes_119 : decode cX9_laysPrizes 119 = .ok (.istore 5, 2) := by decide +kernel
theorem dX9_laysPrizes_121 : decode cX9_laysPrizes 121 = .ok (.iload 5, 2) := by decide +kernel
theorem dX9_laysPrizes_123 : decode cX9_laysPrizes 123 = .ok (.aload_n 0, 1) := by decide +kernel
theorem dX9_laysPrizes_124 : decode cX9_laysPrizes 124 = .ok (.getfield 7, 3) := by decide +kernel
theorem dX9_laysPrizes_127 : decode cX9_laysPrizes 127 = .ok (.iload_n 1, 1) := by decide +kernel
theorem dX9_laysPrizes_128 : decode cX9_laysPrizes 128 = .ok (.iload_n 2, 1) := by decide +kernel
theorem dX9_laysPrizes_129 : decode cX9_laysPrizes 129 = .ok (.iconst 2, 1) := by decide +kernel
theorem dX9_laysPrizes_130 : decode cX9_laysPrizes 130 = .ok (.invokestatic 92, 3) := by decide +kernel
theorem dX9_laysPrizes_133 : decode cX9_laysPrizes 133 = .ok (.iaload, 1) := by decide +kernel
theorem dX9_laysPrizes_134 : decode cX9_laysPrizes 134 = .ok (.if_icmp .ge 111, 3) := by decide +kernel
theorem dX9_laysPrizes_137 : decode cX9_laysPrizes 137 = .ok (.aload_n 0, 1) := by decide +kernel
theorem dX9_laysPrizes_138 : decode cX9_laysPrizes 138 = .ok (.getfield 7, 3) := by decide +kernel
theorem dX9_laysPrizes_141 : decode cX9_laysPrizes 141 = .ok (.iload_n 1, 1) := by decide +kernel
theorem dX9_laysPrizes_142 : decode cX9_laysPrizes 142 = .ok (.iload_n 2, 1) := by decide +kernel
theorem dX9_laysPrizes_143 : decode cX9_laysPrizes 143 = .ok (.iconst 3, 1) := by decide +kernel
theorem dX9_laysPrizes_144 : decode cX9_laysPrizes 144 = .ok (.iload 5, 2) := by decide +kernel
theorem dX9_laysPrizes_146 : decode cX9_laysPrizes 146 = .ok (.iadd, 1) := by decide +kernel
theorem dX9_laysPrizes_147 : decode cX9_laysPrizes 147 = .ok (.invokestatic 92, 3) := by decide +kernel
theorem dX9_laysPrizes_150 : decode cX9_laysPrizes 150 = .ok (.iaload, 1) := by decide +kernel
theorem dX9_laysPrizes_151 : decode cX9_laysPrizes 151 = .ok (.istore 6, 2) := by decide +kernel
theorem dX9_laysPrizes_153 : decode cX9_laysPrizes 153 = .ok (.aload_n 0, 1) := by decide +kernel
theorem dX9_laysPrizes_154 : decode cX9_laysPrizes 154 = .ok (.iload_n 1, 1) := by decide +kernel
theorem dX9_laysPrizes_155 : decode cX9_laysPrizes 155 = .ok (.iload 6, 2) := by decide +kernel
theorem dX9_laysPrizes_157 : decode cX9_laysPrizes 157 = .ok (.invokevirtual 55, 3) := by decide +kernel
theorem dX9_laysPrizes_160 : decode cX9_laysPrizes 160 = .ok (.ifCond .ne 6, 3) := by decide +kernel
theorem dX9_laysPrizes_163 : decode cX9_laysPrizes 163 = .ok (.goto 76, 3) := by decide +kernel
theorem dX9_laysPrizes_166 : decode cX9_laysPrizes 166 = .ok (.iload_n 3, 1) := by decide +kernel
theorem dX9_laysPrizes_167 : decode cX9_laysPrizes 167 = .ok (.ifCond .ne 54, 3) := by decide +kernel
theorem dX9_laysPrizes_170 : decode cX9_laysPrizes 170 = .ok (.aload_n 0, 1) := by decide +kernel
theorem dX9_laysPrizes_171 : decode cX9_laysPrizes 171 = .ok (.iload_n 1, 1) := by decide +kernel
theorem dX9_laysPrizes_172 : decode cX9_laysPrizes 172 = .ok (.iload 6, 2) := by decide +kernel
theorem dX9_laysPrizes_174 : decode cX9_laysPrizes 174 = .ok (.bipush 9, 2) := by decide +kernel
theorem dX9_laysPrizes_176 : decode cX9_laysPrizes 176 = .ok (.iload 4, 2) := by decide +kernel
theorem dX9_laysPrizes_178 : decode cX9_laysPrizes 178 = .ok (.iconst 3, 1) := by decide +kernel
theorem dX9_laysPrizes_179 : decode cX9_laysPrizes 179 = .ok (.if_icmp .ge 10, 3) := by decide +kernel
theorem dX9_laysPrizes_182 : decode cX9_laysPrizes 182 = .ok (.iconst 3, 1) := by decide +kernel
theorem dX9_laysPrizes_183 : decode cX9_laysPrizes 183 = .ok (.iload 4, 2) := by decide +kernel
theorem dX9_laysPrizes_185 : decode cX9_laysPrizes 185 = .ok (.isub, 1) := by decide +kernel
theorem dX9_laysPrizes_186 : decode cX9_laysPrizes 186 = .ok (.goto 4, 3) := by decide +kernel
theorem dX9_laysPrizes_189 : decode cX9_laysPrizes 189 = .ok (.iconst 0, 1) := by decide +kernel
theorem dX9_laysPrizes_190 : decode cX9_laysPrizes 190 = .ok (.invokevirtual 144, 3) := by decide +kernel
theorem dX9_laysPrizes_193 : decode cX9_laysPrizes 193 = .ok (.aload_n 0, 1) := by decide +kernel
theorem dX9_laysPrizes_194 : decode cX9_laysPrizes 194 = .ok (.iload_n 1, 1) := by decide +kernel
theorem dX9_laysPrizes_195 : decode cX9_laysPrizes 195 = .ok (.iload 6, 2) := by decide +kernel
theorem dX9_laysPrizes_197 : decode cX9_laysPrizes 197 = .ok (.bipush 10, 2) := by decide +kernel
theorem dX9_laysPrizes_199 : decode cX9_laysPrizes 199 = .ok (.iload 4, 2) := by decide +kernel
theorem dX9_laysPrizes_201 : decode cX9_laysPrizes 201 = .ok (.iconst 4, 1) := by decide +kernel
theorem dX9_laysPrizes_202 : decode cX9_laysPrizes 202 = .ok (.if_icmp .ge 12, 3) := by decide +kernel
theorem dX9_laysPrizes_205 : decode cX9_laysPrizes 205 = .ok (.getstatic 151, 3) := by decide +kernel
theorem dX9_laysPrizes_208 : decode cX9_laysPrizes 208 = .ok (.iload 4, 2) := by decide +kernel
theorem dX9_laysPrizes_210 : decode cX9_laysPrizes 210 = .ok (.iaload, 1) := by decide +kernel
theorem dX9_laysPrizes_211 : decode cX9_laysPrizes 211 = .ok (.goto 4, 3) := by decide +kernel
theorem dX9_laysPrizes_214 : decode cX9_laysPrizes 214 = .ok (.iconst 0, 1) := by decide +kernel
theorem dX9_laysPrizes_215 : decode cX9_laysPrizes 215 = .ok (.invokevirtual 144, 3) := by decide +kernel
theorem dX9_laysPrizes_218 : decode cX9_laysPrizes 218 = .ok (.goto 18, 3) := by decide +kernel
theorem dX9_laysPrizes_221 : decode cX9_laysPrizes 221 = .ok (.aload_n 0, 1) := by decide +kernel
theorem dX9_laysPrizes_222 : decode cX9_laysPrizes 222 = .ok (.iload_n 1, 1) := by decide +kernel
theorem dX9_laysPrizes_223 : decode cX9_laysPrizes 223 = .ok (.iload 6, 2) := by decide +kernel
theorem dX9_laysPrizes_225 : decode cX9_laysPrizes 225 = .ok (.bipush 11, 2) := by decide +kernel
theorem dX9_laysPrizes_227 : decode cX9_laysPrizes 227 = .ok (.iload_n 3, 1) := by decide +kernel
theorem dX9_laysPrizes_228 : decode cX9_laysPrizes 228 = .ok (.iload 4, 2) := by decide +kernel
theorem dX9_laysPrizes_230 : decode cX9_laysPrizes 230 = .ok (.invokestatic 154, 3) := by decide +kernel
theorem dX9_laysPrizes_233 : decode cX9_laysPrizes 233 = .ok (.invokevirtual 144, 3) := by decide +kernel
theorem dX9_laysPrizes_236 : decode cX9_laysPrizes 236 = .ok (.iinc 4 1, 3) := by decide +kernel
theorem dX9_laysPrizes_239 : decode cX9_laysPrizes 239 = .ok (.iinc 5 1, 3) := by decide +kernel
theorem dX9_laysPrizes_242 : decode cX9_laysPrizes 242 = .ok (.goto (-121), 3) := by decide +kernel
theorem dX9_laysPrizes_245 : decode cX9_laysPrizes 245 = .ok (.iinc 2 1, 3) := by decide +kernel
theorem dX9_laysPrizes_248 : decode cX9_laysPrizes 248 = .ok (.goto (-159), 3) := by decide +kernel
theorem dX9_laysPrizes_251 : decode cX9_laysPrizes 251 = .ok (.return_, 1) := by decide +kernel
set_option maxRecDepth 20000 in
theorem ggX9_close_X9_closes : GoodIn wsX9_close wsX9_closes := goodIn_r _ [6, 7, 8, 9, 10, 11, 12, 5, 13, 14, 15, 16, 17, 18, 19, 20, 21, 22, 23, 24, 25, 26, 27, 28, 29, 30, 31, 32, 33, 34, 35, 36, 37, 38, 39, 40, 41, 42, 43, 44, 45, 46, 47, 48, 49, 50, 51, 52, 53, 54, 55, 56, 57, 58, 59, 60, 61, 62, 63, 64, 65, 66, 67, 68, 69, 70, 71, 72, 73, 74, 75, 76, 77, 78, 79, 80, 81, 82, 83, 84, 85, 86, 87, 88, 89, 90, 91, 92, 93, 94, 95, 96, 97, 98, 99, 100, 101, 102, 103, 104, 105, 106, 107, 108, 109, 110, 111, 112, 113, 114, 115] rfl (by decide +kernel)
set_option maxRecDepth 20000 in
theorem gX9_close_X9_closes : GoodIn wsX9_close (wsV RX9 157 RX9 yX9_closes wsX9_closes) := goodIn_app (goodIn_of _ (by decide +kernel)) ggX9_close_X9_closes
theorem dX9_close_0 : decode cX9_close 0 = .ok (.aload_n 0, 1) := by decide +kernel
theorem dX9_close_1 : decode cX9_close 1 = .ok (.iconst 0, 1) := by decide +kernel
theorem dX9_close_2 : decode cX9_close 2 = .ok (.putfield 39, 3) := by decide +kernel
theorem dX9_close_5 : decode cX9_close 5 = .ok (.aload_n 0, 1) := by decide +kernel
theorem dX9_close_6 : decode cX9_close 6 = .ok (.invokevirtual 157, 3) := by decide +kernel
theorem dX9_close_9 : decode cX9_close 9 = .ok (.ireturn, 1) := by decide +kernel
set_option maxRecDepth 20000 in
theorem ggX9_closes_X9_latest : GoodIn wsX9_closes wsX9_latest := goodIn_r _ [8, 1, 93, 94, 95, 96, 97, 98, 99, 100, 101, 102, 103, 104, 105, 106, 107, 108, 109, 110] rfl (by decide +kernel)
set_option maxRecDepth 20000 in
theorem gX9_closes_X9_latest : GoodIn wsX9_closes (wsV RX9 74 RX9 yX9_latest wsX9_latest) := goodIn_app (goodIn_of _ (by decide +kernel)) ggX9_closes_X9_latest
set_option maxRecDepth 20000 in
theorem ggX9_closes_X9_isOpen : GoodIn wsX9_closes wsX9_isOpen := goodIn_r _ [12, 1, 93, 94, 95, 96, 97, 98, 99, 100, 101, 102, 103, 104, 105, 106, 107, 108, 109, 110] rfl (by decide +kernel)
set_option maxRecDepth 20000 in
theorem gX9_closes_X9_isOpen : GoodIn wsX9_closes (wsV RX9 70 RX9 yX9_isOpen wsX9_isOpen) := goodIn_app (goodIn_of _ (by decide +kernel)) ggX9_closes_X9_isOpen
set_option maxRecDepth 20000 in
theorem ggX9_closes_X9_finishes : GoodIn wsX9_closes wsX9_finishes := goodIn_r _ [16, 1, 17, 18, 19, 7, 20, 21, 22, 23, 93, 94, 95, 96, 97, 98, 99, 100, 101, 102, 103, 104, 105, 106, 107, 108, 109, 110] rfl (by decide +kernel)
set_option maxRecDepth 20000 in
theorem gX9_closes_X9_finishes : GoodIn wsX9_closes (wsV RX9 77 RX9 yX9_finishes wsX9_finishes) := goodIn_app (goodIn_of _ (by decide +kernel)) ggX9_closes_X9_finishes
set_option maxRecDepth 20000 in
theorem ggX9_closes_X9_at : GoodIn wsX9_closes wsX9_at := goodIn_r _ [26] rfl (by decide +kernel)
set_option maxRecDepth 20000 in
theorem gX9_closes_X9_at : GoodIn wsX9_closes (va_wsS RX9 87 yX9_at wsX9_at) := goodIn_app (goodIn_of _ (by decide +kernel)) ggX9_closes_X9_at
set_option maxRecDepth 20000 in
theorem ggX9_closes_X9_laysOrder : GoodIn wsX9_closes wsX9_laysOrder := goodIn_r _ [30, 2, 1, 3, 17, 18, 19, 7, 20, 21, 22, 23, 93, 94, 95, 96, 97, 98, 99, 100, 101, 102, 103, 104, 105, 106, 107, 108, 109, 110] rfl (by decide +kernel)
set_option maxRecDepth 20000 in
theorem gX9_closes_X9_laysOrder : GoodIn wsX9_closes (wsV RX9 160 RX9 yX9_laysOrder wsX9_laysOrder) := goodIn_app (goodIn_of _ (by decide +kernel)) ggX9_closes_X9_laysOrder
set_option maxRecDepth 20000 in
theorem ggX9_closes_X9_laysRaw : GoodIn wsX9_closes wsX9_laysRaw := goodIn_r _ [34, 2, 1, 3, 24, 25, 7, 26, 35, 36, 37, 38, 21, 22, 23, 93, 94, 95, 96, 97, 98, 99, 100, 101, 102, 103, 104, 105, 106, 107, 108, 109, 110] rfl (by decide +kernel)
set_option maxRecDepth 20000 in
theorem gX9_closes_X9_laysRaw : GoodIn wsX9_closes (wsV RX9 164 RX9 yX9_laysRaw wsX9_laysRaw) := goodIn_app (goodIn_of _ (by decide +kernel)) ggX9_closes_X9_laysRaw
set_option maxRecDepth 20000 in
theorem ggX9_closes_X9_at_ : GoodIn wsX9_closes wsX9_at_ := goodIn_r _ [23] rfl (by decide +kernel)
set_option maxRecDepth 20000 in
theorem gX9_closes_X9_at_ : GoodIn wsX9_closes (va_wsS RX9 51 yX9_at_ wsX9_at_) := goodIn_app (goodIn_of _ (by decide +kernel)) ggX9_closes_X9_at_
set_option maxRecDepth 20000 in
theorem ggX9_closes_X9_timeOf : GoodIn wsX9_closes wsX9_timeOf := goodIn_r _ [42, 1, 21, 22, 7, 23, 43, 44, 45, 46, 24, 25, 26, 17, 18, 19, 20, 93, 94, 95, 96, 97, 98, 99, 100, 101, 102, 103, 104, 105, 106, 107, 108, 109, 110] rfl (by decide +kernel)
set_option maxRecDepth 20000 in
theorem gX9_closes_X9_timeOf : GoodIn wsX9_closes (wsV RX9 167 RX9 yX9_timeOf wsX9_timeOf) := goodIn_app (goodIn_of _ (by decide +kernel)) ggX9_closes_X9_timeOf
set_option maxRecDepth 20000 in
theorem ggX9_closes_X9_laysLimit : GoodIn wsX9_closes wsX9_laysLimit := goodIn_r _ [50, 1, 3, 2, 21, 22, 7, 23, 24, 25, 26, 51, 52, 53, 93, 94, 95, 96, 97, 98, 99, 100, 101, 102, 103, 104, 105, 106, 107, 108, 109, 110] rfl (by decide +kernel)
set_option maxRecDepth 20000 in
theorem gX9_closes_X9_laysLimit : GoodIn wsX9_closes (wsV RX9 170 RX9 yX9_laysLimit wsX9_laysLimit) := goodIn_app (goodIn_of _ (by decide +kernel)) ggX9_closes_X9_laysLimit
set_option maxRecDepth 20000 in
theorem ggX9_closes_X9_laysPrizes : GoodIn wsX9_closes wsX9_laysPrizes := goodIn_r _ [57, 2, 1, 3, 58, 24, 25, 7, 26, 59, 60, 61, 62, 63, 64, 65, 66, 17, 18, 19, 20, 21, 22, 23, 67, 68, 69, 70, 71, 72, 73, 74, 75, 76, 77, 78, 79, 80, 81, 93, 94, 95, 96, 97, 98, 99, 100, 101, 102, 103, 104, 105, 106, 107, 108, 109, 110] rfl (by decide +kernel)
set_option maxRecDepth 20000 in
theorem gX9_closes_X9_laysPrizes : GoodIn wsX9_closes (wsV RX9 173 RX9 yX9_laysPrizes wsX9_laysPrizes) := goodIn_app (goodIn_of _ (by decide +kernel)) ggX9_closes_X9_laysPrizes
set_option maxRecDepth 20000 in
theorem ggX9_closes_X9_isLate : GoodIn wsX9_closes wsX9_isLate := goodIn_r _ [66, 1, 17, 18, 19, 7, 20, 21, 22, 23, 24, 25, 26, 93, 94, 95, 96, 97, 98, 99, 100, 101, 102, 103, 104, 105, 106, 107, 108, 109, 110] rfl (by decide +kernel)
set_option maxRecDepth 20000 in
theorem gX9_closes_X9_isLate : GoodIn wsX9_closes (wsV RX9 141 RX9 yX9_isLate wsX9_isLate) := goodIn_app (goodIn_of _ (by decide +kernel)) ggX9_closes_X9_isLate
set_option maxRecDepth 20000 in
theorem ggX9_closes_X9_isThere : GoodIn wsX9_closes wsX9_isThere := goodIn_r _ [85, 1, 86, 87, 88, 7, 89, 90, 91, 92, 93, 94, 95, 96, 97, 98, 99, 100, 101, 102, 103, 104, 105, 106, 107, 108, 109, 110] rfl (by decide +kernel)
set_option maxRecDepth 20000 in
theorem gX9_closes_X9_isThere : GoodIn wsX9_closes (wsV RX9 59 RX9 yX9_isThere wsX9_isThere) := goodIn_app (goodIn_of _ (by decide +kernel)) ggX9_closes_X9_isThere
set_option maxRecDepth 20000 in
theorem ggX9_closes_X9_hasFinish : GoodIn wsX9_closes wsX9_hasFinish := goodIn_r _ [20, 1, 21, 22, 7, 23, 93, 94, 95, 96, 97, 98, 99, 100, 101, 102, 103, 104, 105, 106, 107, 108, 109, 110] rfl (by decide +kernel)
set_option maxRecDepth 20000 in
theorem gX9_closes_X9_hasFinish : GoodIn wsX9_closes (wsV RX9 55 RX9 yX9_hasFinish wsX9_hasFinish) := goodIn_app (goodIn_of _ (by decide +kernel)) ggX9_closes_X9_hasFinish
theorem dX9_closes_0 : decode cX9_closes 0 = .ok (.aload_n 0, 1) := by decide +kernel
theorem dX9_closes_1 : decode cX9_closes 1 = .ok (.invokevirtual 74, 3) := by decide +kernel
theorem dX9_closes_4 : decode cX9_closes 4 = .ok (.istore_n 1, 1) := by decide +kernel
theorem dX9_closes_5 : decode cX9_closes 5 = .ok (.aload_n 0, 1) := by decide +kernel
theorem dX9_closes_6 : decode cX9_closes 6 = .ok (.invokevirtual 70, 3) := by decide +kernel
theorem dX9_closes_9 : decode cX9_closes 9 = .ok (.ifCond .eq 11, 3) := by decide +kernel
theorem dX9_closes_12 : decode cX9_closes 12 = .ok (.aload_n 0, 1) := by decide +kernel
theorem dX9_closes_13 : decode cX9_closes 13 = .ok (.iload_n 1, 1) := by decide +kernel
theorem dX9_closes_14 : decode cX9_closes 14 = .ok (.invokevirtual 77, 3) := by decide +kernel
theorem dX9_closes_17 : decode cX9_closes 17 = .ok (.ifCond .ne 5, 3) := by decide +kernel
theorem dX9_closes_20 : decode cX9_closes 20 = .ok (.iconst (-1), 1) := by decide +kernel
theorem dX9_closes_21 : decode cX9_closes 21 = .ok (.ireturn, 1) := by decide +kernel
theorem dX9_closes_22 : decode cX9_closes 22 = .ok (.aload_n 0, 1) := by decide +kernel
theorem dX9_closes_23 : decode cX9_closes 23 = .ok (.getfield 7, 3) := by decide +kernel
theorem dX9_closes_26 : decode cX9_closes 26 = .ok (.iconst 3, 1) := by decide +kernel
theorem dX9_closes_27 : decode cX9_closes 27 = .ok (.iconst 0, 1) := by decide +kernel
theorem dX9_closes_28 : decode cX9_closes 28 = .ok (.iastore, 1) := by decide +kernel
theorem dX9_closes_29 : decode cX9_closes 29 = .ok (.aload_n 0, 1) := by decide +kernel
theorem dX9_closes_30 : decode cX9_closes 30 = .ok (.getfield 7, 3) := by decide +kernel
theorem dX9_closes_33 : decode cX9_closes 33 = .ok (.iload_n 1, 1) := by decide +kernel
theorem dX9_closes_34 : decode cX9_closes 34 = .ok (.iconst 3, 1) := by decide +kernel
theorem dX9_closes_35 : decode cX9_closes 35 = .ok (.invokestatic 87, 3) := by decide +kernel
theorem dX9_closes_38 : decode cX9_closes 38 = .ok (.aload_n 0, 1) := by decide +kernel
theorem dX9_closes_39 : decode cX9_closes 39 = .ok (.getfield 7, 3) := by decide +kernel
theorem dX9_closes_42 : decode cX9_closes 42 = .ok (.iconst 4, 1) := by decide +kernel
theorem dX9_closes_43 : decode cX9_closes 43 = .ok (.iaload, 1) := by decide +kernel
theorem dX9_closes_44 : decode cX9_closes 44 = .ok (.iastore, 1) := by decide +kernel
theorem dX9_closes_45 : decode cX9_closes 45 = .ok (.aload_n 0, 1) := by decide +kernel
theorem dX9_closes_46 : decode cX9_closes 46 = .ok (.getfield 7, 3) := by decide +kernel
theorem dX9_closes_49 : decode cX9_closes 49 = .ok (.iload_n 1, 1) := by decide +kernel
theorem dX9_closes_50 : decode cX9_closes 50 = .ok (.iconst 4, 1) := by decide +kernel
theorem dX9_closes_51 : decode cX9_closes 51 = .ok (.invokestatic 87, 3) := by decide +kernel
theorem dX9_closes_54 : decode cX9_closes 54 = .ok (.aload_n 0, 1) := by decide +kernel
theorem dX9_closes_55 : decode cX9_closes 55 = .ok (.getfield 7, 3) := by decide +kernel
theorem dX9_closes_58 : decode cX9_closes 58 = .ok (.iconst 5, 1) := by decide +kernel
theorem dX9_closes_59 : decode cX9_closes 59 = .ok (.iaload, 1) := by decide +kernel
theorem dX9_closes_60 : decode cX9_closes 60 = .ok (.iastore, 1) := by decide +kernel
theorem dX9_closes_61 : decode cX9_closes 61 = .ok (.aload_n 0, 1) := by decide +kernel
theorem dX9_closes_62 : decode cX9_closes 62 = .ok (.iload_n 1, 1) := by decide +kernel
theorem dX9_closes_63 : decode cX9_closes 63 = .ok (.invokevirtual 160, 3) := by decide +kernel
theorem dX9_closes_66 : decode cX9_closes 66 = .ok (.aload_n 0, 1) := by decide +kernel
theorem dX9_closes_67 : decode cX9_closes 67 = .ok (.getfield 7, 3) := by decide +kernel
theorem dX9_closes_70 : decode cX9_closes 70 = .ok (.iload_n 1, 1) := by decide +kernel
theorem dX9_closes_71 : decode cX9_closes 71 = .ok (.iconst 5, 1) := by decide +kernel
theorem dX9_closes_72 : decode cX9_closes 72 = .ok (.invokestatic 87, 3) := by decide +kernel
theorem dX9_closes_75 : decode cX9_closes 75 = .ok (.aload_n 0, 1) := by decide +kernel
theorem dX9_closes_76 : decode cX9_closes 76 = .ok (.getfield 114, 3) := by decide +kernel
theorem dX9_closes_79 : decode cX9_closes 79 = .ok (.iastore, 1) := by decide +kernel
theorem dX9_closes_80 : decode cX9_closes 80 = .ok (.aload_n 0, 1) := by decide +kernel
theorem dX9_closes_81 : decode cX9_closes 81 = .ok (.iload_n 1, 1) := by decide +kernel
theorem dX9_closes_82 : decode cX9_closes 82 = .ok (.invokevirtual 164, 3) := by decide +kernel
theorem dX9_closes_85 : decode cX9_closes 85 = .ok (.iconst 0, 1) := by decide +kernel
theorem dX9_closes_86 : decode cX9_closes 86 = .ok (.istore_n 2, 1) := by decide +kernel
theorem dX9_closes_87 : decode cX9_closes 87 = .ok (.iload_n 2, 1) := by decide +kernel
theorem dX9_closes_88 : decode cX9_closes 88 = .ok (.aload_n 0, 1) := by decide +kernel
theorem dX9_closes_89 : decode cX9_closes 89 = .ok (.getfield 114, 3) := by decide +kernel
theorem dX9_closes_92 : decode cX9_closes 92 = .ok (.if_icmp .ge 37, 3) := by decide +kernel
theorem dX9_closes_95 : decode cX9_closes 95 = .ok (.aload_n 0, 1) := by decide +kernel
theorem dX9_closes_96 : decode cX9_closes 96 = .ok (.getfield 7, 3) := by decide +kernel
theorem dX9_closes_99 : decode cX9_closes 99 = .ok (.iload_n 1, 1) := by decide +kernel
theorem dX9_closes_100 : decode cX9_closes 100 = .ok (.aload_n 0, 1) := by decide +kernel
theorem dX9_closes_101 : decode cX9_closes 101 = .ok (.getfield 23, 3) := by decide +kernel
theorem dX9_closes_104 : decode cX9_closes 104 = .ok (.iload_n 2, 1) := by decide +kernel
theorem dX9_closes_105 : decode cX9_closes 105 = .ok (.iaload, 1) := by decide +kernel
theorem dX9_closes_106 : decode cX9_closes 106 = .ok (.bipush 6, 2) := by decide +kernel
theorem dX9_closes_108 : decode cX9_closes 108 = .ok (.invokestatic 51, 3) := by decide +kernel
theorem dX9_closes_111 : decode cX9_closes 111 = .ok (.aload_n 0, 1) := by decide +kernel
theorem dX9_closes_112 : decode cX9_closes 112 = .ok (.iload_n 1, 1) := by decide +kernel
theorem dX9_closes_113 : decode cX9_closes 113 = .ok (.aload_n 0, 1) := by decide +kernel
theorem dX9_closes_114 : decode cX9_closes 114 = .ok (.getfield 23, 3) := by decide +kernel
theorem dX9_closes_117 : decode cX9_closes 117 = .ok (.iload_n 2, 1) := by decide +kernel
theorem dX9_closes_118 : decode cX9_closes 118 = .ok (.iaload, 1) := by decide +kernel
theorem dX9_closes_119 : decode cX9_closes 119 = .ok (.invokevirtual 167, 3) := by decide +kernel
theorem dX9_closes_122 : decode cX9_closes 122 = .ok (.iastore, 1) := by decide +kernel
theorem dX9_closes_123 : decode cX9_closes 123 = .ok (.iinc 2 1, 3) := by decide +kernel
theorem dX9_closes_126 : decode cX9_closes 126 = .ok (.goto (-39), 3) := by decide +kernel
theorem dX9_closes_129 : decode cX9_closes 129 = .ok (.aload_n 0, 1) := by decide +kernel
theorem dX9_closes_130 : decode cX9_closes 130 = .ok (.iload_n 1, 1) := by decide +kernel
theorem dX9_closes_131 : decode cX9_closes 131 = .ok (.invokevirtual 170, 3) := by decide +kernel
theorem dX9_closes_134 : decode cX9_closes 134 = .ok (.aload_n 0, 1) := by decide +kernel
theorem dX9_closes_135 : decode cX9_closes 135 = .ok (.iload_n 1, 1) := by decide +kernel
theorem dX9_closes_136 : decode cX9_closes 136 = .ok (.invokevirtual 173, 3) := by decide +kernel
theorem dX9_closes_139 : decode cX9_closes 139 = .ok (.iconst 0, 1) := by decide +kernel
theorem dX9_closes_140 : decode cX9_closes 140 = .ok (.istore_n 2, 1) := by decide +kernel
theorem dX9_closes_141 : decode cX9_closes 141 = .ok (.iconst 0, 1) := by decide +kernel
theorem dX9_closes_142 : decode cX9_closes 142 = .ok (.istore_n 3, 1) := by decide +kernel
theorem dX9_closes_143 : decode cX9_closes 143 = .ok (.iload_n 3, 1) := by decide +kernel
theorem dX9_closes_144 : decode cX9_closes 144 = .ok (.aload_n 0, 1) := by decide +kernel
theorem dX9_closes_145 : decode cX9_closes 145 = .ok (.getfield 114, 3) := by decide +kernel
theorem dX9_closes_148 : decode cX9_closes 148 = .ok (.if_icmp .ge 31, 3) := by decide +kernel
theorem dX9_closes_151 : decode cX9_closes 151 = .ok (.iload_n 2, 1) := by decide +kernel
theorem dX9_closes_152 : decode cX9_closes 152 = .ok (.aload_n 0, 1) := by decide +kernel
theorem dX9_closes_153 : decode cX9_closes 153 = .ok (.iload_n 1, 1) := by decide +kernel
theorem dX9_closes_154 : decode cX9_closes 154 = .ok (.aload_n 0, 1) := by decide +kernel
theorem dX9_closes_155 : decode cX9_closes 155 = .ok (.getfield 23, 3) := by decide +kernel
theorem dX9_closes_158 : decode cX9_closes 158 = .ok (.iload_n 3, 1) := by decide +kernel
theorem dX9_closes_159 : decode cX9_closes 159 = .ok (.iaload, 1) := by decide +kernel
theorem dX9_closes_160 : decode cX9_closes 160 = .ok (.invokevirtual 141, 3) := by decide +kernel
theorem dX9_closes_163 : decode cX9_closes 163 = .ok (.ifCond .eq 7, 3) := by decide +kernel
theorem dX9_closes_166 : decode cX9_closes 166 = .ok (.iconst 1, 1) := by decide +kernel
theorem dX9_closes_167 : decode cX9_closes 167 = .ok (.goto 4, 3) := by decide +kernel
theorem dX9_closes_170 : decode cX9_closes 170 = .ok (.iconst 0, 1) := by decide +kernel
theorem dX9_closes_171 : decode cX9_closes 171 = .ok (.iadd, 1) := by decide +kernel
theorem dX9_closes_172 : decode cX9_closes 172 = .ok (.istore_n 2, 1) := by decide +kernel
theorem dX9_closes_173 : decode cX9_closes 173 = .ok (.iinc 3 1, 3) := by decide +kernel
theorem dX9_closes_176 : decode cX9_closes 176 = .ok (.goto (-33), 3) := by decide +kernel
theorem dX9_closes_179 : decode cX9_closes 179 = .ok (.aload_n 0, 1) := by decide +kernel
theorem dX9_closes_180 : decode cX9_closes 180 = .ok (.getfield 7, 3) := by decide +kernel
theorem dX9_closes_183 : decode cX9_closes 183 = .ok (.iload_n 1, 1) := by decide +kernel
theorem dX9_closes_184 : decode cX9_closes 184 = .ok (.bipush 10, 2) := by decide +kernel
theorem dX9_closes_186 : decode cX9_closes 186 = .ok (.invokestatic 87, 3) := by decide +kernel
theorem dX9_closes_189 : decode cX9_closes 189 = .ok (.iload_n 2, 1) := by decide +kernel
theorem dX9_closes_190 : decode cX9_closes 190 = .ok (.iastore, 1) := by decide +kernel
theorem dX9_closes_191 : decode cX9_closes 191 = .ok (.aload_n 0, 1) := by decide +kernel
theorem dX9_closes_192 : decode cX9_closes 192 = .ok (.getfield 7, 3) := by decide +kernel
theorem dX9_closes_195 : decode cX9_closes 195 = .ok (.iload_n 1, 1) := by decide +kernel
theorem dX9_closes_196 : decode cX9_closes 196 = .ok (.bipush 11, 2) := by decide +kernel
theorem dX9_closes_198 : decode cX9_closes 198 = .ok (.invokestatic 87, 3) := by decide +kernel
theorem dX9_closes_201 : decode cX9_closes 201 = .ok (.iconst 5, 1) := by decide +kernel
theorem dX9_closes_202 : decode cX9_closes 202 = .ok (.iload_n 2, 1) := by decide +kernel
theorem dX9_closes_203 : decode cX9_closes 203 = .ok (.imul, 1) := by decide +kernel
theorem dX9_closes_204 : decode cX9_closes 204 = .ok (.aload_n 0, 1) := by decide +kernel
theorem dX9_closes_205 : decode cX9_closes 205 = .ok (.getfield 114, 3) := by decide +kernel
theorem dX9_closes_208 : decode cX9_closes 208 = .ok (.if_icmp .le 7, 3) := by decide +kernel
theorem dX9_closes_211 : decode cX9_closes 211 = .ok (.iconst 1, 1) := by decide +kernel
theorem dX9_closes_212 : decode cX9_closes 212 = .ok (.goto 4, 3) := by decide +kernel
theorem dX9_closes_215 : decode cX9_closes 215 = .ok (.iconst 0, 1) := by decide +kernel
theorem dX9_closes_216 : decode cX9_closes 216 = .ok (.iastore, 1) := by decide +kernel
theorem dX9_closes_217 : decode cX9_closes 217 = .ok (.iconst 0, 1) := by decide +kernel
theorem dX9_closes_218 : decode cX9_closes 218 = .ok (.istore_n 3, 1) := by decide +kernel
theorem dX9_closes_219 : decode cX9_closes 219 = .ok (.iconst 0, 1) := by decide +kernel
theorem dX9_closes_220 : decode cX9_closes 220 = .ok (.istore 4, 2) := by decide +kernel
theorem dX9_closes_222 : decode cX9_closes 222 = .ok (.iload 4, 2) := by decide +kernel
theorem dX9_closes_224 : decode cX9_closes 224 = .ok (.aload_n 0, 1) := by decide +kernel
theorem dX9_closes_225 : decode cX9_closes 225 = .ok (.getfield 7, 3) := by decide +kernel
theorem dX9_closes_228 : decode cX9_closes 228 = .ok (.iconst 1, 1) := by decide +kernel
theorem dX9_closes_229 : decode cX9_closes 229 = .ok (.iaload, 1) := by decide +kernel
theorem dX9_closes_230 : decode cX9_closes 230 = .ok (.if_icmp .ge 85, 3) := by decide +kernel
theorem dX9_closes_233 : decode cX9_closes 233 = .ok (.aload_n 0, 1) := by decide +kernel
theorem dX9_closes_234 : decode cX9_closes 234 = .ok (.iload 4, 2) := by decide +kernel
theorem dX9_closes_236 : decode cX9_closes 236 = .ok (.invokevirtual 59, 3) := by decide +kernel
theorem dX9_closes_239 : decode cX9_closes 239 = .ok (.ifCond .eq 41, 3) := by decide +kernel
theorem dX9_closes_242 : decode cX9_closes 242 = .ok (.aload_n 0, 1) := by decide +kernel
theorem dX9_closes_243 : decode cX9_closes 243 = .ok (.iload_n 1, 1) := by decide +kernel
theorem dX9_closes_244 : decode cX9_closes 244 = .ok (.iload 4, 2) := by decide +kernel
theorem dX9_closes_246 : decode cX9_closes 246 = .ok (.invokevirtual 55, 3) := by decide +kernel
theorem dX9_closes_249 : decode cX9_closes 249 = .ok (.ifCond .eq 27, 3) := by decide +kernel
theorem dX9_closes_252 : decode cX9_closes 252 = .ok (.aload_n 0, 1) := by decide +kernel
theorem dX9_closes_253 : decode cX9_closes 253 = .ok (.iload_n 1, 1) := by decide +kernel
theorem dX9_closes_254 : decode cX9_closes 254 = .ok (.iload 4, 2) := by decide +kernel
theorem dX9_closes_256 : decode cX9_closes 256 = .ok (.invokevirtual 141, 3) := by decide +kernel
theorem dX9_closes_259 : decode cX9_closes 259 = .ok (.ifCond .eq 21, 3) := by decide +kernel
theorem dX9_closes_262 : decode cX9_closes 262 = .ok (.aload_n 0, 1) := by decide +kernel
theorem dX9_closes_263 : decode cX9_closes 263 = .ok (.getfield 7, 3) := by decide +kernel
theorem dX9_closes_266 : decode cX9_closes 266 = .ok (.iload_n 1, 1) := by decide +kernel
theorem dX9_closes_267 : decode cX9_closes 267 = .ok (.bipush 11, 2) := by decide +kernel
theorem dX9_closes_269 : decode cX9_closes 269 = .ok (.invokestatic 87, 3) := by decide +kernel
theorem dX9_closes_272 : decode cX9_closes 272 = .ok (.iaload, 1) := by decide +kernel
theorem dX9_closes_273 : decode cX9_closes 273 = .ok (.ifCond .ne 7, 3) := by decide +kernel
theorem dX9_closes_276 : decode cX9_closes 276 = .ok (.iconst 1, 1) := by decide +kernel
theorem dX9_closes_277 : decode cX9_closes 277 = .ok (.goto 4, 3) := by decide +kernel
theorem dX9_closes_280 : decode cX9_closes 280 = .ok (.iconst 0, 1) := by decide +kernel
theorem dX9_closes_281 : decode cX9_closes 281 = .ok (.istore 5, 2) := by decide +kernel
theorem dX9_closes_283 : decode cX9_closes 283 = .ok (.iload 5, 2) := by decide +kernel
theorem dX9_closes_285 : decode cX9_closes 285 = .ok (.ifCond .ne 6, 3) := by decide +kernel
theorem dX9_closes_288 : decode cX9_closes 288 = .ok (.goto 21, 3) := by decide +kernel
theorem dX9_closes_291 : decode cX9_closes 291 = .ok (.aload_n 0, 1) := by decide +kernel
theorem dX9_closes_292 : decode cX9_closes 292 = .ok (.getfield 7, 3) := by decide +kernel
theorem dX9_closes_295 : decode cX9_closes 295 = .ok (.bipush 8, 2) := by decide +kernel
theorem dX9_closes_297 : decode cX9_closes 297 = .ok (.iconst 3, 1) := by decide +kernel
theorem dX9_closes_298 : decode cX9_closes 298 = .ok (.iload 4, 2) := by decide +kernel
theorem dX9_closes_300 : decode cX9_closes 300 = .ok (.imul, 1) := by decide +kernel
theorem dX9_closes_301 : decode cX9_closes 301 = .ok (.iadd, 1) := by decide +kernel
theorem dX9_closes_302 : decode cX9_closes 302 = .ok (.iconst 2, 1) := by decide +kernel
theorem dX9_closes_303 : decode cX9_closes 303 = .ok (.iadd, 1) := by decide +kernel
theorem dX9_closes_304 : decode cX9_closes 304 = .ok (.iconst 0, 1) := by decide +kernel
theorem dX9_closes_305 : decode cX9_closes 305 = .ok (.iastore, 1) := by decide +kernel
theorem dX9_closes_306 : decode cX9_closes 306 = .ok (.iinc 3 1, 3) := by decide +kernel
theorem dX9_closes_309 : decode cX9_closes 309 = .ok (.iinc 4 1, 3) := by decide +kernel
theorem dX9_closes_312 : decode cX9_closes 312 = .ok (.goto (-90), 3) := by decide +kernel
theorem dX9_closes_315 : decode cX9_closes 315 = .ok (.iload_n 3, 1) := by decide +kernel
theorem dX9_closes_316 : decode cX9_closes 316 = .ok (.ireturn, 1) := by decide +kernel
set_option maxRecDepth 20000 in
theorem ggX9_keep_X9_isIn : GoodIn wsX9_keep wsX9_isIn := goodIn_r _ [8] rfl (by decide +kernel)
set_option maxRecDepth 20000 in
theorem gX9_keep_X9_isIn : GoodIn wsX9_keep (va_wsS RX9 43 yX9_isIn wsX9_isIn) := goodIn_app (goodIn_of _ (by decide +kernel)) ggX9_keep_X9_isIn
theorem dX9_keep_0 : decode cX9_keep 0 = .ok (.aload_n 0, 1) := by decide +kernel
theorem dX9_keep_1 : decode cX9_keep 1 = .ok (.iconst 0, 1) := by decide +kernel
theorem dX9_keep_2 : decode cX9_keep 2 = .ok (.putfield 39, 3) := by decide +kernel
theorem dX9_keep_5 : decode cX9_keep 5 = .ok (.iload_n 1, 1) := by decide +kernel
theorem dX9_keep_6 : decode cX9_keep 6 = .ok (.iconst 0, 1) := by decide +kernel
theorem dX9_keep_7 : decode cX9_keep 7 = .ok (.iconst 1, 1) := by decide +kernel
theorem dX9_keep_8 : decode cX9_keep 8 = .ok (.invokestatic 43, 3) := by decide +kernel
theorem dX9_keep_11 : decode cX9_keep 11 = .ok (.ifCond .ne 5, 3) := by decide +kernel
theorem dX9_keep_14 : decode cX9_keep 14 = .ok (.iconst 0, 1) := by decide +kernel
theorem dX9_keep_15 : decode cX9_keep 15 = .ok (.ireturn, 1) := by decide +kernel
theorem dX9_keep_16 : decode cX9_keep 16 = .ok (.iconst 0, 1) := by decide +kernel
theorem dX9_keep_17 : decode cX9_keep 17 = .ok (.istore_n 2, 1) := by decide +kernel
theorem dX9_keep_18 : decode cX9_keep 18 = .ok (.iload_n 2, 1) := by decide +kernel
theorem dX9_keep_19 : decode cX9_keep 19 = .ok (.sipush 2656, 3) := by decide +kernel
theorem dX9_keep_22 : decode cX9_keep 22 = .ok (.if_icmp .ge 27, 3) := by decide +kernel
theorem dX9_keep_25 : decode cX9_keep 25 = .ok (.aload_n 0, 1) := by decide +kernel
theorem dX9_keep_26 : decode cX9_keep 26 = .ok (.getfield 13, 3) := by decide +kernel
theorem dX9_keep_29 : decode cX9_keep 29 = .ok (.sipush 2656, 3) := by decide +kernel
theorem dX9_keep_32 : decode cX9_keep 32 = .ok (.iload_n 1, 1) := by decide +kernel
theorem dX9_keep_33 : decode cX9_keep 33 = .ok (.imul, 1) := by decide +kernel
theorem dX9_keep_34 : decode cX9_keep 34 = .ok (.iload_n 2, 1) := by decide +kernel
theorem dX9_keep_35 : decode cX9_keep 35 = .ok (.iadd, 1) := by decide +kernel
theorem dX9_keep_36 : decode cX9_keep 36 = .ok (.aload_n 0, 1) := by decide +kernel
theorem dX9_keep_37 : decode cX9_keep 37 = .ok (.getfield 7, 3) := by decide +kernel
theorem dX9_keep_40 : decode cX9_keep 40 = .ok (.iload_n 2, 1) := by decide +kernel
theorem dX9_keep_41 : decode cX9_keep 41 = .ok (.iaload, 1) := by decide +kernel
theorem dX9_keep_42 : decode cX9_keep 42 = .ok (.iastore, 1) := by decide +kernel
theorem dX9_keep_43 : decode cX9_keep 43 = .ok (.iinc 2 1, 3) := by decide +kernel
theorem dX9_keep_46 : decode cX9_keep 46 = .ok (.goto (-28), 3) := by decide +kernel
theorem dX9_keep_49 : decode cX9_keep 49 = .ok (.aload_n 0, 1) := by decide +kernel
theorem dX9_keep_50 : decode cX9_keep 50 = .ok (.getfield 19, 3) := by decide +kernel
theorem dX9_keep_53 : decode cX9_keep 53 = .ok (.iload_n 1, 1) := by decide +kernel
theorem dX9_keep_54 : decode cX9_keep 54 = .ok (.iconst 1, 1) := by decide +kernel
theorem dX9_keep_55 : decode cX9_keep 55 = .ok (.bastore, 1) := by decide +kernel
theorem dX9_keep_56 : decode cX9_keep 56 = .ok (.iconst 1, 1) := by decide +kernel
theorem dX9_keep_57 : decode cX9_keep 57 = .ok (.ireturn, 1) := by decide +kernel
set_option maxRecDepth 20000 in
theorem ggX9_back_X9_isIn : GoodIn wsX9_back wsX9_isIn := goodIn_r _ [8] rfl (by decide +kernel)
set_option maxRecDepth 20000 in
theorem gX9_back_X9_isIn : GoodIn wsX9_back (va_wsS RX9 43 yX9_isIn wsX9_isIn) := goodIn_app (goodIn_of _ (by decide +kernel)) ggX9_back_X9_isIn
theorem dX9_back_0 : decode cX9_back 0 = .ok (.aload_n 0, 1) := by decide +kernel
theorem dX9_back_1 : decode cX9_back 1 = .ok (.iconst 0, 1) := by decide +kernel
theorem dX9_back_2 : decode cX9_back 2 = .ok (.putfield 39, 3) := by decide +kernel
theorem dX9_back_5 : decode cX9_back 5 = .ok (.iload_n 1, 1) := by decide +kernel
theorem dX9_back_6 : decode cX9_back 6 = .ok (.iconst 0, 1) := by decide +kernel
theorem dX9_back_7 : decode cX9_back 7 = .ok (.iconst 1, 1) := by decide +kernel
theorem dX9_back_8 : decode cX9_back 8 = .ok (.invokestatic 43, 3) := by decide +kernel
theorem dX9_back_11 : decode cX9_back 11 = .ok (.ifCond .eq 12, 3) := by decide +kernel
theorem dX9_back_14 : decode cX9_back 14 = .ok (.aload_n 0, 1) := by decide +kernel
theorem dX9_back_15 : decode cX9_back 15 = .ok (.getfield 19, 3) := by decide +kernel
theorem dX9_back_18 : decode cX9_back 18 = .ok (.iload_n 1, 1) := by decide +kernel
theorem dX9_back_19 : decode cX9_back 19 = .ok (.baload, 1) := by decide +kernel
theorem dX9_back_20 : decode cX9_back 20 = .ok (.ifCond .ne 5, 3) := by decide +kernel
theorem dX9_back_23 : decode cX9_back 23 = .ok (.iconst 0, 1) := by decide +kernel
theorem dX9_back_24 : decode cX9_back 24 = .ok (.ireturn, 1) := by decide +kernel
theorem dX9_back_25 : decode cX9_back 25 = .ok (.iconst 0, 1) := by decide +kernel
theorem dX9_back_26 : decode cX9_back 26 = .ok (.istore_n 2, 1) := by decide +kernel
theorem dX9_back_27 : decode cX9_back 27 = .ok (.iload_n 2, 1) := by decide +kernel
theorem dX9_back_28 : decode cX9_back 28 = .ok (.sipush 2656, 3) := by decide +kernel
theorem dX9_back_31 : decode cX9_back 31 = .ok (.if_icmp .ge 27, 3) := by decide +kernel
theorem dX9_back_34 : decode cX9_back 34 = .ok (.aload_n 0, 1) := by decide +kernel
theorem dX9_back_35 : decode cX9_back 35 = .ok (.getfield 7, 3) := by decide +kernel
theorem dX9_back_38 : decode cX9_back 38 = .ok (.iload_n 2, 1) := by decide +kernel
theorem dX9_back_39 : decode cX9_back 39 = .ok (.aload_n 0, 1) := by decide +kernel
theorem dX9_back_40 : decode cX9_back 40 = .ok (.getfield 13, 3) := by decide +kernel
theorem dX9_back_43 : decode cX9_back 43 = .ok (.sipush 2656, 3) := by decide +kernel
theorem dX9_back_46 : decode cX9_back 46 = .ok (.iload_n 1, 1) := by decide +kernel
theorem dX9_back_47 : decode cX9_back 47 = .ok (.imul, 1) := by decide +kernel
theorem dX9_back_48 : decode cX9_back 48 = .ok (.iload_n 2, 1) := by decide +kernel
theorem dX9_back_49 : decode cX9_back 49 = .ok (.iadd, 1) := by decide +kernel
theorem dX9_back_50 : decode cX9_back 50 = .ok (.iaload, 1) := by decide +kernel
theorem dX9_back_51 : decode cX9_back 51 = .ok (.iastore, 1) := by decide +kernel
theorem dX9_back_52 : decode cX9_back 52 = .ok (.iinc 2 1, 3) := by decide +kernel
theorem dX9_back_55 : decode cX9_back 55 = .ok (.goto (-28), 3) := by decide +kernel
theorem dX9_back_58 : decode cX9_back 58 = .ok (.iconst 1, 1) := by decide +kernel
theorem dX9_back_59 : decode cX9_back 59 = .ok (.ireturn, 1) := by decide +kernel
set_option maxRecDepth 20000 in
theorem ggX9_count_X9_there : GoodIn wsX9_count wsX9_there := goodIn_r _ [8, 2, 9, 10, 11, 7, 12, 13, 14, 15, 16, 17, 18, 19, 42, 43, 44, 45, 46, 47, 48, 49, 50, 51, 52, 53, 54, 55, 56, 57, 58, 59] rfl (by decide +kernel)
set_option maxRecDepth 20000 in
theorem gX9_count_X9_there : GoodIn wsX9_count (wsV RX9 84 RX9 yX9_there wsX9_there) := goodIn_app (goodIn_of _ (by decide +kernel)) ggX9_count_X9_there
set_option maxRecDepth 20000 in
theorem ggX9_count_X9_closedMany : GoodIn wsX9_count wsX9_closedMany := goodIn_r _ [23, 2, 42, 43, 44, 45, 46, 47, 48, 49, 50, 51, 52, 53, 54, 55, 56, 57, 58, 59] rfl (by decide +kernel)
set_option maxRecDepth 20000 in
theorem gX9_count_X9_closedMany : GoodIn wsX9_count (wsV RX9 176 RX9 yX9_closedMany wsX9_closedMany) := goodIn_app (goodIn_of _ (by decide +kernel)) ggX9_count_X9_closedMany
set_option maxRecDepth 20000 in
theorem ggX9_count_X9_latest : GoodIn wsX9_count wsX9_latest := goodIn_r _ [27, 2, 42, 43, 44, 45, 46, 47, 48, 49, 50, 51, 52, 53, 54, 55, 56, 57, 58, 59] rfl (by decide +kernel)
set_option maxRecDepth 20000 in
theorem gX9_count_X9_latest : GoodIn wsX9_count (wsV RX9 74 RX9 yX9_latest wsX9_latest) := goodIn_app (goodIn_of _ (by decide +kernel)) ggX9_count_X9_latest
set_option maxRecDepth 20000 in
theorem ggX9_count_X9_at : GoodIn wsX9_count wsX9_at := goodIn_r _ [30] rfl (by decide +kernel)
set_option maxRecDepth 20000 in
theorem gX9_count_X9_at : GoodIn wsX9_count (va_wsS RX9 87 yX9_at wsX9_at) := goodIn_app (goodIn_of _ (by decide +kernel)) ggX9_count_X9_at
set_option maxRecDepth 20000 in
theorem ggX9_count_X9_finishes : GoodIn wsX9_count wsX9_finishes := goodIn_r _ [34, 2, 35, 36, 37, 7, 38, 39, 40, 41, 42, 43, 44, 45, 46, 47, 48, 49, 50, 51, 52, 53, 54, 55, 56, 57, 58, 59] rfl (by decide +kernel)
set_option maxRecDepth 20000 in
theorem gX9_count_X9_finishes : GoodIn wsX9_count (wsV RX9 77 RX9 yX9_finishes wsX9_finishes) := goodIn_app (goodIn_of _ (by decide +kernel)) ggX9_count_X9_finishes
theorem dX9_count_0 : decode cX9_count 0 = .ok (.aload_n 0, 1) := by decide +kernel
theorem dX9_count_1 : decode cX9_count 1 = .ok (.iconst 0, 1) := by decide +kernel
theorem dX9_count_2 : decode cX9_count 2 = .ok (.putfield 39, 3) := by decide +kernel
theorem dX9_count_5 : decode cX9_count 5 = .ok (.iload_n 1, 1) := by decide +kernel
theorem dX9_count_6 : decode cX9_count 6 = .ok (.tableswitch 149 0 9 #[54, 61, 68, 73, 80, 85, 110, 130, 137, 144], 54) := by decide +kernel
theorem dX9_count_60 : decode cX9_count 60 = .ok (.aload_n 0, 1) := by decide +kernel
theorem dX9_count_61 : decode cX9_count 61 = .ok (.getfield 7, 3) := by decide +kernel
theorem dX9_count_64 : decode cX9_count 64 = .ok (.iconst 0, 1) := by decide +kernel
theorem dX9_count_65 : decode cX9_count 65 = .ok (.iaload, 1) := by decide +kernel
theorem dX9_count_66 : decode cX9_count 66 = .ok (.ireturn, 1) := by decide +kernel
theorem dX9_count_67 : decode cX9_count 67 = .ok (.aload_n 0, 1) := by decide +kernel
theorem dX9_count_68 : decode cX9_count 68 = .ok (.getfield 7, 3) := by decide +kernel
theorem dX9_count_71 : decode cX9_count 71 = .ok (.iconst 1, 1) := by decide +kernel
theorem dX9_count_72 : decode cX9_count 72 = .ok (.iaload, 1) := by decide +kernel
theorem dX9_count_73 : decode cX9_count 73 = .ok (.ireturn, 1) := by decide +kernel
theorem dX9_count_74 : decode cX9_count 74 = .ok (.aload_n 0, 1) := by decide +kernel
theorem dX9_count_75 : decode cX9_count 75 = .ok (.invokevirtual 84, 3) := by decide +kernel
theorem dX9_count_78 : decode cX9_count 78 = .ok (.ireturn, 1) := by decide +kernel
theorem dX9_count_79 : decode cX9_count 79 = .ok (.aload_n 0, 1) := by decide +kernel
theorem dX9_count_80 : decode cX9_count 80 = .ok (.getfield 7, 3) := by decide +kernel
theorem dX9_count_83 : decode cX9_count 83 = .ok (.iconst 2, 1) := by decide +kernel
theorem dX9_count_84 : decode cX9_count 84 = .ok (.iaload, 1) := by decide +kernel
theorem dX9_count_85 : decode cX9_count 85 = .ok (.ireturn, 1) := by decide +kernel
theorem dX9_count_86 : decode cX9_count 86 = .ok (.aload_n 0, 1) := by decide +kernel
theorem dX9_count_87 : decode cX9_count 87 = .ok (.invokevirtual 176, 3) := by decide +kernel
theorem dX9_count_90 : decode cX9_count 90 = .ok (.ireturn, 1) := by decide +kernel
theorem dX9_count_91 : decode cX9_count 91 = .ok (.aload_n 0, 1) := by decide +kernel
theorem dX9_count_92 : decode cX9_count 92 = .ok (.invokevirtual 74, 3) := by decide +kernel
theorem dX9_count_95 : decode cX9_count 95 = .ok (.ifCond .ge 7, 3) := by decide +kernel
theorem dX9_count_98 : decode cX9_count 98 = .ok (.iconst 0, 1) := by decide +kernel
theorem dX9_count_99 : decode cX9_count 99 = .ok (.goto 16, 3) := by decide +kernel
theorem dX9_count_102 : decode cX9_count 102 = .ok (.aload_n 0, 1) := by decide +kernel
theorem dX9_count_103 : decode cX9_count 103 = .ok (.getfield 7, 3) := by decide +kernel
theorem dX9_count_106 : decode cX9_count 106 = .ok (.aload_n 0, 1) := by decide +kernel
theorem dX9_count_107 : decode cX9_count 107 = .ok (.invokevirtual 74, 3) := by decide +kernel
theorem dX9_count_110 : decode cX9_count 110 = .ok (.iconst 2, 1) := by decide +kernel
theorem dX9_count_111 : decode cX9_count 111 = .ok (.invokestatic 87, 3) := by decide +kernel
theorem dX9_count_114 : decode cX9_count 114 = .ok (.iaload, 1) := by decide +kernel
theorem dX9_count_115 : decode cX9_count 115 = .ok (.ireturn, 1) := by decide +kernel
theorem dX9_count_116 : decode cX9_count 116 = .ok (.aload_n 0, 1) := by decide +kernel
theorem dX9_count_117 : decode cX9_count 117 = .ok (.invokevirtual 74, 3) := by decide +kernel
theorem dX9_count_120 : decode cX9_count 120 = .ok (.ifCond .ge 7, 3) := by decide +kernel
theorem dX9_count_123 : decode cX9_count 123 = .ok (.iconst 0, 1) := by decide +kernel
theorem dX9_count_124 : decode cX9_count 124 = .ok (.goto 11, 3) := by decide +kernel
theorem dX9_count_127 : decode cX9_count 127 = .ok (.aload_n 0, 1) := by decide +kernel
theorem dX9_count_128 : decode cX9_count 128 = .ok (.aload_n 0, 1) := by decide +kernel
theorem dX9_count_129 : decode cX9_count 129 = .ok (.invokevirtual 74, 3) := by decide +kernel
theorem dX9_count_132 : decode cX9_count 132 = .ok (.invokevirtual 77, 3) := by decide +kernel
theorem dX9_count_135 : decode cX9_count 135 = .ok (.ireturn, 1) := by decide +kernel
theorem dX9_count_136 : decode cX9_count 136 = .ok (.aload_n 0, 1) := by decide +kernel
theorem dX9_count_137 : decode cX9_count 137 = .ok (.getfield 7, 3) := by decide +kernel
theorem dX9_count_140 : decode cX9_count 140 = .ok (.iconst 4, 1) := by decide +kernel
theorem dX9_count_141 : decode cX9_count 141 = .ok (.iaload, 1) := by decide +kernel
theorem dX9_count_142 : decode cX9_count 142 = .ok (.ireturn, 1) := by decide +kernel
theorem dX9_count_143 : decode cX9_count 143 = .ok (.aload_n 0, 1) := by decide +kernel
theorem dX9_count_144 : decode cX9_count 144 = .ok (.getfield 7, 3) := by decide +kernel
theorem dX9_count_147 : decode cX9_count 147 = .ok (.iconst 5, 1) := by decide +kernel
theorem dX9_count_148 : decode cX9_count 148 = .ok (.iaload, 1) := by decide +kernel
theorem dX9_count_149 : decode cX9_count 149 = .ok (.ireturn, 1) := by decide +kernel
theorem dX9_count_150 : decode cX9_count 150 = .ok (.aload_n 0, 1) := by decide +kernel
theorem dX9_count_151 : decode cX9_count 151 = .ok (.getfield 179, 3) := by decide +kernel
theorem dX9_count_154 : decode cX9_count 154 = .ok (.ireturn, 1) := by decide +kernel
theorem dX9_count_155 : decode cX9_count 155 = .ok (.iconst (-1), 1) := by decide +kernel
theorem dX9_count_156 : decode cX9_count 156 = .ok (.ireturn, 1) := by decide +kernel
set_option maxRecDepth 20000 in
theorem ggX9_allOf_X9_closedMany : GoodIn wsX9_allOf wsX9_closedMany := goodIn_r _ [6, 1, 10, 11, 12, 13, 14, 15, 16, 17, 18, 19, 20, 21, 22, 23, 24, 25, 26, 27] rfl (by decide +kernel)
set_option maxRecDepth 20000 in
theorem gX9_allOf_X9_closedMany : GoodIn wsX9_allOf (wsV RX9 176 RX9 yX9_closedMany wsX9_closedMany) := goodIn_app (goodIn_of _ (by decide +kernel)) ggX9_allOf_X9_closedMany
set_option maxRecDepth 20000 in
theorem ggX9_allOf_X9_at_ : GoodIn wsX9_allOf wsX9_at_ := goodIn_r _ [9] rfl (by decide +kernel)
set_option maxRecDepth 20000 in
theorem gX9_allOf_X9_at_ : GoodIn wsX9_allOf (va_wsS RX9 51 yX9_at_ wsX9_at_) := goodIn_app (goodIn_of _ (by decide +kernel)) ggX9_allOf_X9_at_
theorem dX9_allOf_0 : decode cX9_allOf 0 = .ok (.iconst 0, 1) := by decide +kernel
theorem dX9_allOf_1 : decode cX9_allOf 1 = .ok (.istore_n 3, 1) := by decide +kernel
theorem dX9_allOf_2 : decode cX9_allOf 2 = .ok (.iconst 0, 1) := by decide +kernel
theorem dX9_allOf_3 : decode cX9_allOf 3 = .ok (.istore 4, 2) := by decide +kernel
theorem dX9_allOf_5 : decode cX9_allOf 5 = .ok (.iload 4, 2) := by decide +kernel
theorem dX9_allOf_7 : decode cX9_allOf 7 = .ok (.aload_n 0, 1) := by decide +kernel
theorem dX9_allOf_8 : decode cX9_allOf 8 = .ok (.invokevirtual 176, 3) := by decide +kernel
theorem dX9_allOf_11 : decode cX9_allOf 11 = .ok (.if_icmp .ge 24, 3) := by decide +kernel
theorem dX9_allOf_14 : decode cX9_allOf 14 = .ok (.iload_n 3, 1) := by decide +kernel
theorem dX9_allOf_15 : decode cX9_allOf 15 = .ok (.aload_n 0, 1) := by decide +kernel
theorem dX9_allOf_16 : decode cX9_allOf 16 = .ok (.getfield 7, 3) := by decide +kernel
theorem dX9_allOf_19 : decode cX9_allOf 19 = .ok (.iload 4, 2) := by decide +kernel
theorem dX9_allOf_21 : decode cX9_allOf 21 = .ok (.iload_n 1, 1) := by decide +kernel
theorem dX9_allOf_22 : decode cX9_allOf 22 = .ok (.iload_n 2, 1) := by decide +kernel
theorem dX9_allOf_23 : decode cX9_allOf 23 = .ok (.invokestatic 51, 3) := by decide +kernel
theorem dX9_allOf_26 : decode cX9_allOf 26 = .ok (.iaload, 1) := by decide +kernel
theorem dX9_allOf_27 : decode cX9_allOf 27 = .ok (.iadd, 1) := by decide +kernel
theorem dX9_allOf_28 : decode cX9_allOf 28 = .ok (.istore_n 3, 1) := by decide +kernel
theorem dX9_allOf_29 : decode cX9_allOf 29 = .ok (.iinc 4 1, 3) := by decide +kernel
theorem dX9_allOf_32 : decode cX9_allOf 32 = .ok (.goto (-27), 3) := by decide +kernel
theorem dX9_allOf_35 : decode cX9_allOf 35 = .ok (.iload_n 3, 1) := by decide +kernel
theorem dX9_allOf_36 : decode cX9_allOf 36 = .ok (.ireturn, 1) := by decide +kernel
set_option maxRecDepth 20000 in
theorem ggX9_of_X9_isRider : GoodIn wsX9_of wsX9_isRider := goodIn_r _ [7, 2, 8, 9, 6, 10, 22, 23, 24, 25, 26, 27, 28, 29, 30, 31, 32, 33, 34, 35, 36, 37, 38, 39] rfl (by decide +kernel)
set_option maxRecDepth 20000 in
theorem gX9_of_X9_isRider : GoodIn wsX9_of (wsV RX9 47 RX9 yX9_isRider wsX9_isRider) := goodIn_app (goodIn_of _ (by decide +kernel)) ggX9_of_X9_isRider
set_option maxRecDepth 20000 in
theorem ggX9_of_X9_isIn : GoodIn wsX9_of wsX9_isIn := goodIn_r _ [10] rfl (by decide +kernel)
set_option maxRecDepth 20000 in
theorem gX9_of_X9_isIn : GoodIn wsX9_of (va_wsS RX9 43 yX9_isIn wsX9_isIn) := goodIn_app (goodIn_of _ (by decide +kernel)) ggX9_of_X9_isIn
set_option maxRecDepth 20000 in
theorem ggX9_of_X9_allOf : GoodIn wsX9_of wsX9_allOf := goodIn_r _ [14, 2, 15, 16, 17, 6, 18, 19, 20, 21, 22, 23, 24, 25, 26, 27, 28, 29, 30, 31, 32, 33, 34, 35, 36, 37, 38, 39] rfl (by decide +kernel)
set_option maxRecDepth 20000 in
theorem gX9_of_X9_allOf : GoodIn wsX9_of (wsV RX9 182 RX9 yX9_allOf wsX9_allOf) := goodIn_app (goodIn_of _ (by decide +kernel)) ggX9_of_X9_allOf
theorem dX9_of_0 : decode cX9_of 0 = .ok (.aload_n 0, 1) := by decide +kernel
theorem dX9_of_1 : decode cX9_of 1 = .ok (.aload_n 0, 1) := by decide +kernel
theorem dX9_of_2 : decode cX9_of 2 = .ok (.iload_n 1, 1) := by decide +kernel
theorem dX9_of_3 : decode cX9_of 3 = .ok (.invokevirtual 47, 3) := by decide +kernel
theorem dX9_of_6 : decode cX9_of 6 = .ok (.ifCond .eq 17, 3) := by decide +kernel
theorem dX9_of_9 : decode cX9_of 9 = .ok (.iload_n 2, 1) := by decide +kernel
theorem dX9_of_10 : decode cX9_of 10 = .ok (.iconst 0, 1) := by decide +kernel
theorem dX9_of_11 : decode cX9_of 11 = .ok (.bipush 6, 2) := by decide +kernel
theorem dX9_of_13 : decode cX9_of 13 = .ok (.invokestatic 43, 3) := by decide +kernel
theorem dX9_of_16 : decode cX9_of 16 = .ok (.ifCond .eq 7, 3) := by decide +kernel
theorem dX9_of_19 : decode cX9_of 19 = .ok (.iconst 0, 1) := by decide +kernel
theorem dX9_of_20 : decode cX9_of 20 = .ok (.goto 4, 3) := by decide +kernel
theorem dX9_of_23 : decode cX9_of 23 = .ok (.iconst 1, 1) := by decide +kernel
theorem dX9_of_24 : decode cX9_of 24 = .ok (.putfield 39, 3) := by decide +kernel
theorem dX9_of_27 : decode cX9_of 27 = .ok (.aload_n 0, 1) := by decide +kernel
theorem dX9_of_28 : decode cX9_of 28 = .ok (.getfield 39, 3) := by decide +kernel
theorem dX9_of_31 : decode cX9_of 31 = .ok (.iconst 1, 1) := by decide +kernel
theorem dX9_of_32 : decode cX9_of 32 = .ok (.if_icmp .ne 5, 3) := by decide +kernel
theorem dX9_of_35 : decode cX9_of 35 = .ok (.iconst 0, 1) := by decide +kernel
theorem dX9_of_36 : decode cX9_of 36 = .ok (.ireturn, 1) := by decide +kernel
theorem dX9_of_37 : decode cX9_of 37 = .ok (.iload_n 2, 1) := by decide +kernel
theorem dX9_of_38 : decode cX9_of 38 = .ok (.tableswitch 76 0 5 #[38, 38, 38, 52, 60, 68], 38) := by decide +kernel
theorem dX9_of_76 : decode cX9_of 76 = .ok (.aload_n 0, 1) := by decide +kernel
theorem dX9_of_77 : decode cX9_of 77 = .ok (.getfield 7, 3) := by decide +kernel
theorem dX9_of_80 : decode cX9_of 80 = .ok (.bipush 8, 2) := by decide +kernel
theorem dX9_of_82 : decode cX9_of 82 = .ok (.iconst 3, 1) := by decide +kernel
theorem dX9_of_83 : decode cX9_of 83 = .ok (.iload_n 1, 1) := by decide +kernel
theorem dX9_of_84 : decode cX9_of 84 = .ok (.imul, 1) := by decide +kernel
theorem dX9_of_85 : decode cX9_of 85 = .ok (.iadd, 1) := by decide +kernel
theorem dX9_of_86 : decode cX9_of 86 = .ok (.iload_n 2, 1) := by decide +kernel
theorem dX9_of_87 : decode cX9_of 87 = .ok (.iadd, 1) := by decide +kernel
theorem dX9_of_88 : decode cX9_of 88 = .ok (.iaload, 1) := by decide +kernel
theorem dX9_of_89 : decode cX9_of 89 = .ok (.ireturn, 1) := by decide +kernel
theorem dX9_of_90 : decode cX9_of 90 = .ok (.aload_n 0, 1) := by decide +kernel
theorem dX9_of_91 : decode cX9_of 91 = .ok (.iload_n 1, 1) := by decide +kernel
theorem dX9_of_92 : decode cX9_of 92 = .ok (.bipush 10, 2) := by decide +kernel
theorem dX9_of_94 : decode cX9_of 94 = .ok (.invokevirtual 182, 3) := by decide +kernel
theorem dX9_of_97 : decode cX9_of 97 = .ok (.ireturn, 1) := by decide +kernel
theorem dX9_of_98 : decode cX9_of 98 = .ok (.aload_n 0, 1) := by decide +kernel
theorem dX9_of_99 : decode cX9_of 99 = .ok (.iload_n 1, 1) := by decide +kernel
theorem dX9_of_100 : decode cX9_of 100 = .ok (.bipush 11, 2) := by decide +kernel
theorem dX9_of_102 : decode cX9_of 102 = .ok (.invokevirtual 182, 3) := by decide +kernel
theorem dX9_of_105 : decode cX9_of 105 = .ok (.ireturn, 1) := by decide +kernel
theorem dX9_of_106 : decode cX9_of 106 = .ok (.aload_n 0, 1) := by decide +kernel
theorem dX9_of_107 : decode cX9_of 107 = .ok (.iload_n 1, 1) := by decide +kernel
theorem dX9_of_108 : decode cX9_of 108 = .ok (.bipush 9, 2) := by decide +kernel
theorem dX9_of_110 : decode cX9_of 110 = .ok (.invokevirtual 182, 3) := by decide +kernel
theorem dX9_of_113 : decode cX9_of 113 = .ok (.ireturn, 1) := by decide +kernel
theorem dX9_of_114 : decode cX9_of 114 = .ok (.aload_n 0, 1) := by decide +kernel
theorem dX9_of_115 : decode cX9_of 115 = .ok (.iload_n 1, 1) := by decide +kernel
theorem dX9_of_116 : decode cX9_of 116 = .ok (.iconst 3, 1) := by decide +kernel
theorem dX9_of_117 : decode cX9_of 117 = .ok (.invokevirtual 182, 3) := by decide +kernel
theorem dX9_of_120 : decode cX9_of 120 = .ok (.ireturn, 1) := by decide +kernel
set_option maxRecDepth 20000 in
theorem ggX9_isClosed_X9_closedMany : GoodIn wsX9_isClosed wsX9_closedMany := goodIn_r _ [5, 6, 10, 11, 12, 13, 14, 15, 16, 17, 18, 19, 20, 21, 22, 23, 24, 25, 26, 27] rfl (by decide +kernel)
set_option maxRecDepth 20000 in
theorem gX9_isClosed_X9_closedMany : GoodIn wsX9_isClosed (wsV RX9 176 RX9 yX9_closedMany wsX9_closedMany) := goodIn_app (goodIn_of _ (by decide +kernel)) ggX9_isClosed_X9_closedMany
set_option maxRecDepth 20000 in
theorem ggX9_isClosed_X9_isIn : GoodIn wsX9_isClosed wsX9_isIn := goodIn_r _ [9] rfl (by decide +kernel)
set_option maxRecDepth 20000 in
theorem gX9_isClosed_X9_isIn : GoodIn wsX9_isClosed (va_wsS RX9 43 yX9_isIn wsX9_isIn) := goodIn_app (goodIn_of _ (by decide +kernel)) ggX9_isClosed_X9_isIn
theorem dX9_isClosed_0 : decode cX9_isClosed 0 = .ok (.iload_n 1, 1) := by decide +kernel
theorem dX9_isClosed_1 : decode cX9_isClosed 1 = .ok (.iconst 0, 1) := by decide +kernel
theorem dX9_isClosed_2 : decode cX9_isClosed 2 = .ok (.aload_n 0, 1) := by decide +kernel
theorem dX9_isClosed_3 : decode cX9_isClosed 3 = .ok (.invokevirtual 176, 3) := by decide +kernel
theorem dX9_isClosed_6 : decode cX9_isClosed 6 = .ok (.iconst 1, 1) := by decide +kernel
theorem dX9_isClosed_7 : decode cX9_isClosed 7 = .ok (.isub, 1) := by decide +kernel
theorem dX9_isClosed_8 : decode cX9_isClosed 8 = .ok (.invokestatic 43, 3) := by decide +kernel
theorem dX9_isClosed_11 : decode cX9_isClosed 11 = .ok (.ireturn, 1) := by decide +kernel
set_option maxRecDepth 20000 in
theorem ggX9_lesser_X9_at_ : GoodIn wsX9_lesser wsX9_at_ := goodIn_r _ [5] rfl (by decide +kernel)
set_option maxRecDepth 20000 in
theorem gX9_lesser_X9_at_ : GoodIn wsX9_lesser (va_wsS RX9 51 yX9_at_ wsX9_at_) := goodIn_app (goodIn_of _ (by decide +kernel)) ggX9_lesser_X9_at_
theorem dX9_lesser_0 : decode cX9_lesser 0 = .ok (.iconst 0, 1) := by decide +kernel
theorem dX9_lesser_1 : decode cX9_lesser 1 = .ok (.istore_n 3, 1) := by decide +kernel
theorem dX9_lesser_2 : decode cX9_lesser 2 = .ok (.iconst 0, 1) := by decide +kernel
theorem dX9_lesser_3 : decode cX9_lesser 3 = .ok (.istore 4, 2) := by decide +kernel
theorem dX9_lesser_5 : decode cX9_lesser 5 = .ok (.iload 4, 2) := by decide +kernel
theorem dX9_lesser_7 : decode cX9_lesser 7 = .ok (.aload_n 0, 1) := by decide +kernel
theorem dX9_lesser_8 : decode cX9_lesser 8 = .ok (.getfield 7, 3) := by decide +kernel
theorem dX9_lesser_11 : decode cX9_lesser 11 = .ok (.iconst 1, 1) := by decide +kernel
theorem dX9_lesser_12 : decode cX9_lesser 12 = .ok (.iaload, 1) := by decide +kernel
theorem dX9_lesser_13 : decode cX9_lesser 13 = .ok (.if_icmp .ge 59, 3) := by decide +kernel
theorem dX9_lesser_16 : decode cX9_lesser 16 = .ok (.aload_n 0, 1) := by decide +kernel
theorem dX9_lesser_17 : decode cX9_lesser 17 = .ok (.getfield 7, 3) := by decide +kernel
theorem dX9_lesser_20 : decode cX9_lesser 20 = .ok (.iload_n 1, 1) := by decide +kernel
theorem dX9_lesser_21 : decode cX9_lesser 21 = .ok (.iload 4, 2) := by decide +kernel
theorem dX9_lesser_23 : decode cX9_lesser 23 = .ok (.iconst 5, 1) := by decide +kernel
theorem dX9_lesser_24 : decode cX9_lesser 24 = .ok (.invokestatic 51, 3) := by decide +kernel
theorem dX9_lesser_27 : decode cX9_lesser 27 = .ok (.iaload, 1) := by decide +kernel
theorem dX9_lesser_28 : decode cX9_lesser 28 = .ok (.aload_n 0, 1) := by decide +kernel
theorem dX9_lesser_29 : decode cX9_lesser 29 = .ok (.getfield 7, 3) := by decide +kernel
theorem dX9_lesser_32 : decode cX9_lesser 32 = .ok (.iload_n 1, 1) := by decide +kernel
theorem dX9_lesser_33 : decode cX9_lesser 33 = .ok (.iload 4, 2) := by decide +kernel
theorem dX9_lesser_35 : decode cX9_lesser 35 = .ok (.bipush 6, 2) := by decide +kernel
theorem dX9_lesser_37 : decode cX9_lesser 37 = .ok (.invokestatic 51, 3) := by decide +kernel
theorem dX9_lesser_40 : decode cX9_lesser 40 = .ok (.iaload, 1) := by decide +kernel
theorem dX9_lesser_41 : decode cX9_lesser 41 = .ok (.isub, 1) := by decide +kernel
theorem dX9_lesser_42 : decode cX9_lesser 42 = .ok (.istore 5, 2) := by decide +kernel
theorem dX9_lesser_44 : decode cX9_lesser 44 = .ok (.iload_n 3, 1) := by decide +kernel
theorem dX9_lesser_45 : decode cX9_lesser 45 = .ok (.iload_n 2, 1) := by decide +kernel
theorem dX9_lesser_46 : decode cX9_lesser 46 = .ok (.ifCond .eq 8, 3) := by decide +kernel
theorem dX9_lesser_49 : decode cX9_lesser 49 = .ok (.iload 5, 2) := by decide +kernel
theorem dX9_lesser_51 : decode cX9_lesser 51 = .ok (.goto 13, 3) := by decide +kernel
theorem dX9_lesser_54 : decode cX9_lesser 54 = .ok (.iload 5, 2) := by decide +kernel
theorem dX9_lesser_56 : decode cX9_lesser 56 = .ok (.ifCond .le 7, 3) := by decide +kernel
theorem dX9_lesser_59 : decode cX9_lesser 59 = .ok (.iconst 1, 1) := by decide +kernel
theorem dX9_lesser_60 : decode cX9_lesser 60 = .ok (.goto 4, 3) := by decide +kernel
theorem dX9_lesser_63 : decode cX9_lesser 63 = .ok (.iconst 0, 1) := by decide +kernel
theorem dX9_lesser_64 : decode cX9_lesser 64 = .ok (.iadd, 1) := by decide +kernel
theorem dX9_lesser_65 : decode cX9_lesser 65 = .ok (.istore_n 3, 1) := by decide +kernel
theorem dX9_lesser_66 : decode cX9_lesser 66 = .ok (.iinc 4 1, 3) := by decide +kernel
theorem dX9_lesser_69 : decode cX9_lesser 69 = .ok (.goto (-64), 3) := by decide +kernel
theorem dX9_lesser_72 : decode cX9_lesser 72 = .ok (.iload_n 3, 1) := by decide +kernel
theorem dX9_lesser_73 : decode cX9_lesser 73 = .ok (.ireturn, 1) := by decide +kernel
set_option maxRecDepth 20000 in
theorem ggX9_told_X9_isClosed : GoodIn wsX9_told wsX9_isClosed := goodIn_r _ [7, 8, 9, 10, 6, 11, 2, 12, 13, 14, 25, 26, 27, 28, 29, 30, 31, 32, 33, 34, 35, 36, 37, 38, 39, 40, 41, 42] rfl (by decide +kernel)
set_option maxRecDepth 20000 in
theorem gX9_told_X9_isClosed : GoodIn wsX9_told (wsV RX9 185 RX9 yX9_isClosed wsX9_isClosed) := goodIn_app (goodIn_of _ (by decide +kernel)) ggX9_told_X9_isClosed
set_option maxRecDepth 20000 in
theorem ggX9_told_X9_at : GoodIn wsX9_told wsX9_at := goodIn_r _ [17] rfl (by decide +kernel)
set_option maxRecDepth 20000 in
theorem gX9_told_X9_at : GoodIn wsX9_told (va_wsS RX9 87 yX9_at wsX9_at) := goodIn_app (goodIn_of _ (by decide +kernel)) ggX9_told_X9_at
set_option maxRecDepth 20000 in
theorem ggX9_told_X9_lesser : GoodIn wsX9_told wsX9_lesser := goodIn_r _ [21, 2, 22, 23, 6, 24, 25, 26, 27, 28, 29, 30, 31, 32, 33, 34, 35, 36, 37, 38, 39, 40, 41, 42] rfl (by decide +kernel)
set_option maxRecDepth 20000 in
theorem gX9_told_X9_lesser : GoodIn wsX9_told (wsV RX9 188 RX9 yX9_lesser wsX9_lesser) := goodIn_app (goodIn_of _ (by decide +kernel)) ggX9_told_X9_lesser
theorem dX9_told_0 : decode cX9_told 0 = .ok (.aload_n 0, 1) := by decide +kernel
theorem dX9_told_1 : decode cX9_told 1 = .ok (.iconst 0, 1) := by decide +kernel
theorem dX9_told_2 : decode cX9_told 2 = .ok (.putfield 39, 3) := by decide +kernel
theorem dX9_told_5 : decode cX9_told 5 = .ok (.aload_n 0, 1) := by decide +kernel
theorem dX9_told_6 : decode cX9_told 6 = .ok (.iload_n 1, 1) := by decide +kernel
theorem dX9_told_7 : decode cX9_told 7 = .ok (.invokevirtual 185, 3) := by decide +kernel
theorem dX9_told_10 : decode cX9_told 10 = .ok (.ifCond .ne 5, 3) := by decide +kernel
theorem dX9_told_13 : decode cX9_told 13 = .ok (.iconst (-1), 1) := by decide +kernel
theorem dX9_told_14 : decode cX9_told 14 = .ok (.ireturn, 1) := by decide +kernel
theorem dX9_told_15 : decode cX9_told 15 = .ok (.iload_n 2, 1) := by decide +kernel
theorem dX9_told_16 : decode cX9_told 16 = .ok (.tableswitch 179 0 10 #[60, 71, 82, 93, 105, 117, 129, 141, 153, 165, 172], 60) := by decide +kernel
theorem dX9_told_76 : decode cX9_told 76 = .ok (.aload_n 0, 1) := by decide +kernel
theorem dX9_told_77 : decode cX9_told 77 = .ok (.getfield 7, 3) := by decide +kernel
theorem dX9_told_80 : decode cX9_told 80 = .ok (.iload_n 1, 1) := by decide +kernel
theorem dX9_told_81 : decode cX9_told 81 = .ok (.iconst 0, 1) := by decide +kernel
theorem dX9_told_82 : decode cX9_told 82 = .ok (.invokestatic 87, 3) := by decide +kernel
theorem dX9_told_85 : decode cX9_told 85 = .ok (.iaload, 1) := by decide +kernel
theorem dX9_told_86 : decode cX9_told 86 = .ok (.ireturn, 1) := by decide +kernel
theorem dX9_told_87 : decode cX9_told 87 = .ok (.aload_n 0, 1) := by decide +kernel
theorem dX9_told_88 : decode cX9_told 88 = .ok (.getfield 7, 3) := by decide +kernel
theorem dX9_told_91 : decode cX9_told 91 = .ok (.iload_n 1, 1) := by decide +kernel
theorem dX9_told_92 : decode cX9_told 92 = .ok (.iconst 1, 1) := by decide +kernel
theorem dX9_told_93 : decode cX9_told 93 = .ok (.invokestatic 87, 3) := by decide +kernel
theorem dX9_told_96 : decode cX9_told 96 = .ok (.iaload, 1) := by decide +kernel
theorem dX9_told_97 : decode cX9_told 97 = .ok (.ireturn, 1) := by decide +kernel
theorem dX9_told_98 : decode cX9_told 98 = .ok (.aload_n 0, 1) := by decide +kernel
theorem dX9_told_99 : decode cX9_told 99 = .ok (.getfield 7, 3) := by decide +kernel
theorem dX9_told_102 : decode cX9_told 102 = .ok (.iload_n 1, 1) := by decide +kernel
theorem dX9_told_103 : decode cX9_told 103 = .ok (.iconst 5, 1) := by decide +kernel
theorem dX9_told_104 : decode cX9_told 104 = .ok (.invokestatic 87, 3) := by decide +kernel
theorem dX9_told_107 : decode cX9_told 107 = .ok (.iaload, 1) := by decide +kernel
theorem dX9_told_108 : decode cX9_told 108 = .ok (.ireturn, 1) := by decide +kernel
theorem dX9_told_109 : decode cX9_told 109 = .ok (.aload_n 0, 1) := by decide +kernel
theorem dX9_told_110 : decode cX9_told 110 = .ok (.getfield 7, 3) := by decide +kernel
theorem dX9_told_113 : decode cX9_told 113 = .ok (.iload_n 1, 1) := by decide +kernel
theorem dX9_told_114 : decode cX9_told 114 = .ok (.bipush 6, 2) := by decide +kernel
theorem dX9_told_116 : decode cX9_told 116 = .ok (.invokestatic 87, 3) := by decide +kernel
theorem dX9_told_119 : decode cX9_told 119 = .ok (.iaload, 1) := by decide +kernel
theorem dX9_told_120 : decode cX9_told 120 = .ok (.ireturn, 1) := by decide +kernel
theorem dX9_told_121 : decode cX9_told 121 = .ok (.aload_n 0, 1) := by decide +kernel
theorem dX9_told_122 : decode cX9_told 122 = .ok (.getfield 7, 3) := by decide +kernel
theorem dX9_told_125 : decode cX9_told 125 = .ok (.iload_n 1, 1) := by decide +kernel
theorem dX9_told_126 : decode cX9_told 126 = .ok (.bipush 7, 2) := by decide +kernel
theorem dX9_told_128 : decode cX9_told 128 = .ok (.invokestatic 87, 3) := by decide +kernel
theorem dX9_told_131 : decode cX9_told 131 = .ok (.iaload, 1) := by decide +kernel
theorem dX9_told_132 : decode cX9_told 132 = .ok (.ireturn, 1) := by decide +kernel
theorem dX9_told_133 : decode cX9_told 133 = .ok (.aload_n 0, 1) := by decide +kernel
theorem dX9_told_134 : decode cX9_told 134 = .ok (.getfield 7, 3) := by decide +kernel
theorem dX9_told_137 : decode cX9_told 137 = .ok (.iload_n 1, 1) := by decide +kernel
theorem dX9_told_138 : decode cX9_told 138 = .ok (.bipush 8, 2) := by decide +kernel
theorem dX9_told_140 : decode cX9_told 140 = .ok (.invokestatic 87, 3) := by decide +kernel
theorem dX9_told_143 : decode cX9_told 143 = .ok (.iaload, 1) := by decide +kernel
theorem dX9_told_144 : decode cX9_told 144 = .ok (.ireturn, 1) := by decide +kernel
theorem dX9_told_145 : decode cX9_told 145 = .ok (.aload_n 0, 1) := by decide +kernel
theorem dX9_told_146 : decode cX9_told 146 = .ok (.getfield 7, 3) := by decide +kernel
theorem dX9_told_149 : decode cX9_told 149 = .ok (.iload_n 1, 1) := by decide +kernel
theorem dX9_told_150 : decode cX9_told 150 = .ok (.bipush 9, 2) := by decide +kernel
theorem dX9_told_152 : decode cX9_told 152 = .ok (.invokestatic 87, 3) := by decide +kernel
theorem dX9_told_155 : decode cX9_told 155 = .ok (.iaload, 1) := by decide +kernel
theorem dX9_told_156 : decode cX9_told 156 = .ok (.ireturn, 1) := by decide +kernel
theorem dX9_told_157 : decode cX9_told 157 = .ok (.aload_n 0, 1) := by decide +kernel
theorem dX9_told_158 : decode cX9_told 158 = .ok (.getfield 7, 3) := by decide +kernel
theorem dX9_told_161 : decode cX9_told 161 = .ok (.iload_n 1, 1) := by decide +kernel
theorem dX9_told_162 : decode cX9_told 162 = .ok (.bipush 10, 2) := by decide +kernel
theorem dX9_told_164 : decode cX9_told 164 = .ok (.invokestatic 87, 3) := by decide +kernel
theorem dX9_told_167 : decode cX9_told 167 = .ok (.iaload, 1) := by decide +kernel
theorem dX9_told_168 : decode cX9_told 168 = .ok (.ireturn, 1) := by decide +kernel
theorem dX9_told_169 : decode cX9_told 169 = .ok (.aload_n 0, 1) := by decide +kernel
theorem dX9_told_170 : decode cX9_told 170 = .ok (.getfield 7, 3) := by decide +kernel
theorem dX9_told_173 : decode cX9_told 173 = .ok (.iload_n 1, 1) := by decide +kernel
theorem dX9_told_174 : decode cX9_told 174 = .ok (.bipush 11, 2) := by decide +kernel
theorem dX9_told_176 : decode cX9_told 176 = .ok (.invokestatic 87, 3) := by decide +kernel
theorem dX9_told_179 : decode cX9_told 179 = .ok (.iaload, 1) := by decide +kernel
theorem dX9_told_180 : decode cX9_told 180 = .ok (.ireturn, 1) := by decide +kernel
theorem dX9_told_181 : decode cX9_told 181 = .ok (.aload_n 0, 1) := by decide +kernel
theorem dX9_told_182 : decode cX9_told 182 = .ok (.iload_n 1, 1) := by decide +kernel
theorem dX9_told_183 : decode cX9_told 183 = .ok (.iconst 0, 1) := by decide +kernel
theorem dX9_told_184 : decode cX9_told 184 = .ok (.invokevirtual 188, 3) := by decide +kernel
theorem dX9_told_187 : decode cX9_told 187 = .ok (.ireturn, 1) := by decide +kernel
theorem dX9_told_188 : decode cX9_told 188 = .ok (.aload_n 0, 1) := by decide +kernel
theorem dX9_told_189 : decode cX9_told 189 = .ok (.iload_n 1, 1) := by decide +kernel
theorem dX9_told_190 : decode cX9_told 190 = .ok (.iconst 1, 1) := by decide +kernel
theorem dX9_told_191 : decode cX9_told 191 = .ok (.invokevirtual 188, 3) := by decide +kernel
theorem dX9_told_194 : decode cX9_told 194 = .ok (.ireturn, 1) := by decide +kernel
theorem dX9_told_195 : decode cX9_told 195 = .ok (.iconst (-1), 1) := by decide +kernel
theorem dX9_told_196 : decode cX9_told 196 = .ok (.ireturn, 1) := by decide +kernel
set_option maxRecDepth 20000 in
theorem ggX9_order_X9_isClosed : GoodIn wsX9_order wsX9_isClosed := goodIn_r _ [8, 9, 10, 11, 7, 12, 13, 14, 15, 16, 28, 29, 30, 31, 32, 33, 34, 35, 36, 37, 38, 39, 40, 41, 42, 43, 44, 45] rfl (by decide +kernel)
set_option maxRecDepth 20000 in
theorem gX9_order_X9_isClosed : GoodIn wsX9_order (wsV RX9 185 RX9 yX9_isClosed wsX9_isClosed) := goodIn_app (goodIn_of _ (by decide +kernel)) ggX9_order_X9_isClosed
set_option maxRecDepth 20000 in
theorem ggX9_order_X9_laysOrder : GoodIn wsX9_order wsX9_laysOrder := goodIn_r _ [20, 2, 13, 3, 21, 22, 23, 7, 24, 25, 26, 27, 28, 29, 30, 31, 32, 33, 34, 35, 36, 37, 38, 39, 40, 41, 42, 43, 44, 45] rfl (by decide +kernel)
set_option maxRecDepth 20000 in
theorem gX9_order_X9_laysOrder : GoodIn wsX9_order (wsV RX9 160 RX9 yX9_laysOrder wsX9_laysOrder) := goodIn_app (goodIn_of _ (by decide +kernel)) ggX9_order_X9_laysOrder
set_option maxRecDepth 20000 in
theorem ggX9_order_X9_isIn : GoodIn wsX9_order wsX9_isIn := goodIn_r _ [16] rfl (by decide +kernel)
set_option maxRecDepth 20000 in
theorem gX9_order_X9_isIn : GoodIn wsX9_order (va_wsS RX9 43 yX9_isIn wsX9_isIn) := goodIn_app (goodIn_of _ (by decide +kernel)) ggX9_order_X9_isIn
theorem dX9_order_0 : decode cX9_order 0 = .ok (.aload_n 0, 1) := by decide +kernel
theorem dX9_order_1 : decode cX9_order 1 = .ok (.iconst 0, 1) := by decide +kernel
theorem dX9_order_2 : decode cX9_order 2 = .ok (.putfield 39, 3) := by decide +kernel
theorem dX9_order_5 : decode cX9_order 5 = .ok (.aload_n 0, 1) := by decide +kernel
theorem dX9_order_6 : decode cX9_order 6 = .ok (.iload_n 1, 1) := by decide +kernel
theorem dX9_order_7 : decode cX9_order 7 = .ok (.invokevirtual 185, 3) := by decide +kernel
theorem dX9_order_10 : decode cX9_order 10 = .ok (.ifCond .ne 5, 3) := by decide +kernel
theorem dX9_order_13 : decode cX9_order 13 = .ok (.iconst (-1), 1) := by decide +kernel
theorem dX9_order_14 : decode cX9_order 14 = .ok (.ireturn, 1) := by decide +kernel
theorem dX9_order_15 : decode cX9_order 15 = .ok (.aload_n 0, 1) := by decide +kernel
theorem dX9_order_16 : decode cX9_order 16 = .ok (.iload_n 1, 1) := by decide +kernel
theorem dX9_order_17 : decode cX9_order 17 = .ok (.invokevirtual 160, 3) := by decide +kernel
theorem dX9_order_20 : decode cX9_order 20 = .ok (.iload_n 2, 1) := by decide +kernel
theorem dX9_order_21 : decode cX9_order 21 = .ok (.iconst 0, 1) := by decide +kernel
theorem dX9_order_22 : decode cX9_order 22 = .ok (.aload_n 0, 1) := by decide +kernel
theorem dX9_order_23 : decode cX9_order 23 = .ok (.getfield 114, 3) := by decide +kernel
theorem dX9_order_26 : decode cX9_order 26 = .ok (.iconst 1, 1) := by decide +kernel
theorem dX9_order_27 : decode cX9_order 27 = .ok (.isub, 1) := by decide +kernel
theorem dX9_order_28 : decode cX9_order 28 = .ok (.invokestatic 43, 3) := by decide +kernel
theorem dX9_order_31 : decode cX9_order 31 = .ok (.ifCond .eq 12, 3) := by decide +kernel
theorem dX9_order_34 : decode cX9_order 34 = .ok (.aload_n 0, 1) := by decide +kernel
theorem dX9_order_35 : decode cX9_order 35 = .ok (.getfield 23, 3) := by decide +kernel
theorem dX9_order_38 : decode cX9_order 38 = .ok (.iload_n 2, 1) := by decide +kernel
theorem dX9_order_39 : decode cX9_order 39 = .ok (.iaload, 1) := by decide +kernel
theorem dX9_order_40 : decode cX9_order 40 = .ok (.goto 4, 3) := by decide +kernel
theorem dX9_order_43 : decode cX9_order 43 = .ok (.iconst (-1), 1) := by decide +kernel
theorem dX9_order_44 : decode cX9_order 44 = .ok (.ireturn, 1) := by decide +kernel
set_option maxRecDepth 20000 in
theorem ggX9_result_X9_isClosed : GoodIn wsX9_result wsX9_isClosed := goodIn_r _ [7, 8, 9, 10, 6, 11, 2, 12, 13, 14, 26, 27, 28, 29, 30, 31, 32, 33, 34, 35, 36, 37, 38, 39, 40, 41, 42, 43] rfl (by decide +kernel)
set_option maxRecDepth 20000 in
theorem gX9_result_X9_isClosed : GoodIn wsX9_result (wsV RX9 185 RX9 yX9_isClosed wsX9_isClosed) := goodIn_app (goodIn_of _ (by decide +kernel)) ggX9_result_X9_isClosed
set_option maxRecDepth 20000 in
theorem ggX9_result_X9_isRider : GoodIn wsX9_result wsX9_isRider := goodIn_r _ [18, 2, 12, 13, 6, 14, 26, 27, 28, 29, 30, 31, 32, 33, 34, 35, 36, 37, 38, 39, 40, 41, 42, 43] rfl (by decide +kernel)
set_option maxRecDepth 20000 in
theorem gX9_result_X9_isRider : GoodIn wsX9_result (wsV RX9 47 RX9 yX9_isRider wsX9_isRider) := goodIn_app (goodIn_of _ (by decide +kernel)) ggX9_result_X9_isRider
set_option maxRecDepth 20000 in
theorem ggX9_result_X9_hasFinish : GoodIn wsX9_result wsX9_hasFinish := goodIn_r _ [22, 2, 23, 24, 6, 25, 26, 27, 28, 29, 30, 31, 32, 33, 34, 35, 36, 37, 38, 39, 40, 41, 42, 43] rfl (by decide +kernel)
set_option maxRecDepth 20000 in
theorem gX9_result_X9_hasFinish : GoodIn wsX9_result (wsV RX9 55 RX9 yX9_hasFinish wsX9_hasFinish) := goodIn_app (goodIn_of _ (by decide +kernel)) ggX9_result_X9_hasFinish
set_option maxRecDepth 20000 in
theorem ggX9_result_X9_at_ : GoodIn wsX9_result wsX9_at_ := goodIn_r _ [25] rfl (by decide +kernel)
set_option maxRecDepth 20000 in
theorem gX9_result_X9_at_ : GoodIn wsX9_result (va_wsS RX9 51 yX9_at_ wsX9_at_) := goodIn_app (goodIn_of _ (by decide +kernel)) ggX9_result_X9_at_
theorem dX9_result_0 : decode cX9_result 0 = .ok (.aload_n 0, 1) := by decide +kernel
theorem dX9_result_1 : decode cX9_result 1 = .ok (.iconst 0, 1) := by decide +kernel
theorem dX9_result_2 : decode cX9_result 2 = .ok (.putfield 39, 3) := by decide +kernel
theorem dX9_result_5 : decode cX9_result 5 = .ok (.aload_n 0, 1) := by decide +kernel
theorem dX9_result_6 : decode cX9_result 6 = .ok (.iload_n 1, 1) := by decide +kernel
theorem dX9_result_7 : decode cX9_result 7 = .ok (.invokevirtual 185, 3) := by decide +kernel
theorem dX9_result_10 : decode cX9_result 10 = .ok (.ifCond .eq 20, 3) := by decide +kernel
theorem dX9_result_13 : decode cX9_result 13 = .ok (.aload_n 0, 1) := by decide +kernel
theorem dX9_result_14 : decode cX9_result 14 = .ok (.iload_n 2, 1) := by decide +kernel
theorem dX9_result_15 : decode cX9_result 15 = .ok (.invokevirtual 47, 3) := by decide +kernel
theorem dX9_result_18 : decode cX9_result 18 = .ok (.ifCond .eq 12, 3) := by decide +kernel
theorem dX9_result_21 : decode cX9_result 21 = .ok (.aload_n 0, 1) := by decide +kernel
theorem dX9_result_22 : decode cX9_result 22 = .ok (.iload_n 1, 1) := by decide +kernel
theorem dX9_result_23 : decode cX9_result 23 = .ok (.iload_n 2, 1) := by decide +kernel
theorem dX9_result_24 : decode cX9_result 24 = .ok (.invokevirtual 55, 3) := by decide +kernel
theorem dX9_result_27 : decode cX9_result 27 = .ok (.ifCond .ne 5, 3) := by decide +kernel
theorem dX9_result_30 : decode cX9_result 30 = .ok (.iconst (-1), 1) := by decide +kernel
theorem dX9_result_31 : decode cX9_result 31 = .ok (.ireturn, 1) := by decide +kernel
theorem dX9_result_32 : decode cX9_result 32 = .ok (.iload_n 3, 1) := by decide +kernel
theorem dX9_result_33 : decode cX9_result 33 = .ok (.tableswitch 149 0 7 #[47, 59, 71, 84, 97, 110, 123, 136], 47) := by decide +kernel
theorem dX9_result_80 : decode cX9_result 80 = .ok (.aload_n 0, 1) := by decide +kernel
theorem dX9_result_81 : decode cX9_result 81 = .ok (.getfield 7, 3) := by decide +kernel
theorem dX9_result_84 : decode cX9_result 84 = .ok (.iload_n 1, 1) := by decide +kernel
theorem dX9_result_85 : decode cX9_result 85 = .ok (.iload_n 2, 1) := by decide +kernel
theorem dX9_result_86 : decode cX9_result 86 = .ok (.iconst 0, 1) := by decide +kernel
theorem dX9_result_87 : decode cX9_result 87 = .ok (.invokestatic 51, 3) := by decide +kernel
theorem dX9_result_90 : decode cX9_result 90 = .ok (.iaload, 1) := by decide +kernel
theorem dX9_result_91 : decode cX9_result 91 = .ok (.ireturn, 1) := by decide +kernel
theorem dX9_result_92 : decode cX9_result 92 = .ok (.aload_n 0, 1) := by decide +kernel
theorem dX9_result_93 : decode cX9_result 93 = .ok (.getfield 7, 3) := by decide +kernel
theorem dX9_result_96 : decode cX9_result 96 = .ok (.iload_n 1, 1) := by decide +kernel
theorem dX9_result_97 : decode cX9_result 97 = .ok (.iload_n 2, 1) := by decide +kernel
theorem dX9_result_98 : decode cX9_result 98 = .ok (.iconst 5, 1) := by decide +kernel
theorem dX9_result_99 : decode cX9_result 99 = .ok (.invokestatic 51, 3) := by decide +kernel
theorem dX9_result_102 : decode cX9_result 102 = .ok (.iaload, 1) := by decide +kernel
theorem dX9_result_103 : decode cX9_result 103 = .ok (.ireturn, 1) := by decide +kernel
theorem dX9_result_104 : decode cX9_result 104 = .ok (.aload_n 0, 1) := by decide +kernel
theorem dX9_result_105 : decode cX9_result 105 = .ok (.getfield 7, 3) := by decide +kernel
theorem dX9_result_108 : decode cX9_result 108 = .ok (.iload_n 1, 1) := by decide +kernel
theorem dX9_result_109 : decode cX9_result 109 = .ok (.iload_n 2, 1) := by decide +kernel
theorem dX9_result_110 : decode cX9_result 110 = .ok (.bipush 6, 2) := by decide +kernel
theorem dX9_result_112 : decode cX9_result 112 = .ok (.invokestatic 51, 3) := by decide +kernel
theorem dX9_result_115 : decode cX9_result 115 = .ok (.iaload, 1) := by decide +kernel
theorem dX9_result_116 : decode cX9_result 116 = .ok (.ireturn, 1) := by decide +kernel
theorem dX9_result_117 : decode cX9_result 117 = .ok (.aload_n 0, 1) := by decide +kernel
theorem dX9_result_118 : decode cX9_result 118 = .ok (.getfield 7, 3) := by decide +kernel
theorem dX9_result_121 : decode cX9_result 121 = .ok (.iload_n 1, 1) := by decide +kernel
theorem dX9_result_122 : decode cX9_result 122 = .ok (.iload_n 2, 1) := by decide +kernel
theorem dX9_result_123 : decode cX9_result 123 = .ok (.bipush 7, 2) := by decide +kernel
theorem dX9_result_125 : decode cX9_result 125 = .ok (.invokestatic 51, 3) := by decide +kernel
theorem dX9_result_128 : decode cX9_result 128 = .ok (.iaload, 1) := by decide +kernel
theorem dX9_result_129 : decode cX9_result 129 = .ok (.ireturn, 1) := by decide +kernel
theorem dX9_result_130 : decode cX9_result 130 = .ok (.aload_n 0, 1) := by decide +kernel
theorem dX9_result_131 : decode cX9_result 131 = .ok (.getfield 7, 3) := by decide +kernel
theorem dX9_result_134 : decode cX9_result 134 = .ok (.iload_n 1, 1) := by decide +kernel
theorem dX9_result_135 : decode cX9_result 135 = .ok (.iload_n 2, 1) := by decide +kernel
theorem dX9_result_136 : decode cX9_result 136 = .ok (.bipush 8, 2) := by decide +kernel
theorem dX9_result_138 : decode cX9_result 138 = .ok (.invokestatic 51, 3) := by decide +kernel
theorem dX9_result_141 : decode cX9_result 141 = .ok (.iaload, 1) := by decide +kernel
theorem dX9_result_142 : decode cX9_result 142 = .ok (.ireturn, 1) := by decide +kernel
theorem dX9_result_143 : decode cX9_result 143 = .ok (.aload_n 0, 1) := by decide +kernel
theorem dX9_result_144 : decode cX9_result 144 = .ok (.getfield 7, 3) := by decide +kernel
theorem dX9_result_147 : decode cX9_result 147 = .ok (.iload_n 1, 1) := by decide +kernel
theorem dX9_result_148 : decode cX9_result 148 = .ok (.iload_n 2, 1) := by decide +kernel
theorem dX9_result_149 : decode cX9_result 149 = .ok (.bipush 9, 2) := by decide +kernel
theorem dX9_result_151 : decode cX9_result 151 = .ok (.invokestatic 51, 3) := by decide +kernel
theorem dX9_result_154 : decode cX9_result 154 = .ok (.iaload, 1) := by decide +kernel
theorem dX9_result_155 : decode cX9_result 155 = .ok (.ireturn, 1) := by decide +kernel
theorem dX9_result_156 : decode cX9_result 156 = .ok (.aload_n 0, 1) := by decide +kernel
theorem dX9_result_157 : decode cX9_result 157 = .ok (.getfield 7, 3) := by decide +kernel
theorem dX9_result_160 : decode cX9_result 160 = .ok (.iload_n 1, 1) := by decide +kernel
theorem dX9_result_161 : decode cX9_result 161 = .ok (.iload_n 2, 1) := by decide +kernel
theorem dX9_result_162 : decode cX9_result 162 = .ok (.bipush 10, 2) := by decide +kernel
theorem dX9_result_164 : decode cX9_result 164 = .ok (.invokestatic 51, 3) := by decide +kernel
theorem dX9_result_167 : decode cX9_result 167 = .ok (.iaload, 1) := by decide +kernel
theorem dX9_result_168 : decode cX9_result 168 = .ok (.ireturn, 1) := by decide +kernel
theorem dX9_result_169 : decode cX9_result 169 = .ok (.aload_n 0, 1) := by decide +kernel
theorem dX9_result_170 : decode cX9_result 170 = .ok (.getfield 7, 3) := by decide +kernel
theorem dX9_result_173 : decode cX9_result 173 = .ok (.iload_n 1, 1) := by decide +kernel
theorem dX9_result_174 : decode cX9_result 174 = .ok (.iload_n 2, 1) := by decide +kernel
theorem dX9_result_175 : decode cX9_result 175 = .ok (.bipush 11, 2) := by decide +kernel
theorem dX9_result_177 : decode cX9_result 177 = .ok (.invokestatic 51, 3) := by decide +kernel
theorem dX9_result_180 : decode cX9_result 180 = .ok (.iaload, 1) := by decide +kernel
theorem dX9_result_181 : decode cX9_result 181 = .ok (.ireturn, 1) := by decide +kernel
theorem dX9_result_182 : decode cX9_result 182 = .ok (.iconst (-1), 1) := by decide +kernel
theorem dX9_result_183 : decode cX9_result 183 = .ok (.ireturn, 1) := by decide +kernel
set_option maxRecDepth 20000 in
theorem ggX9_parted_X9_isClosed : GoodIn wsX9_parted wsX9_isClosed := goodIn_r _ [6, 7, 8, 9, 5, 10, 11, 12, 13, 14, 39, 40, 41, 42, 43, 44, 45, 46, 47, 48, 49, 50, 51, 52, 53, 54, 55, 56] rfl (by decide +kernel)
set_option maxRecDepth 20000 in
theorem gX9_parted_X9_isClosed : GoodIn wsX9_parted (wsV RX9 185 RX9 yX9_isClosed wsX9_isClosed) := goodIn_app (goodIn_of _ (by decide +kernel)) ggX9_parted_X9_isClosed
set_option maxRecDepth 20000 in
theorem ggX9_parted_X9_isIn : GoodIn wsX9_parted wsX9_isIn := goodIn_r _ [14] rfl (by decide +kernel)
set_option maxRecDepth 20000 in
theorem gX9_parted_X9_isIn : GoodIn wsX9_parted (va_wsS RX9 43 yX9_isIn wsX9_isIn) := goodIn_app (goodIn_of _ (by decide +kernel)) ggX9_parted_X9_isIn
set_option maxRecDepth 20000 in
theorem ggX9_parted_X9_laysOrder : GoodIn wsX9_parted wsX9_laysOrder := goodIn_r _ [18, 19, 11, 20, 21, 22, 23, 5, 24, 25, 26, 27, 39, 40, 41, 42, 43, 44, 45, 46, 47, 48, 49, 50, 51, 52, 53, 54, 55, 56] rfl (by decide +kernel)
set_option maxRecDepth 20000 in
theorem gX9_parted_X9_laysOrder : GoodIn wsX9_parted (wsV RX9 160 RX9 yX9_laysOrder wsX9_laysOrder) := goodIn_app (goodIn_of _ (by decide +kernel)) ggX9_parted_X9_laysOrder
set_option maxRecDepth 20000 in
theorem ggX9_parted_X9_bunches : GoodIn wsX9_parted wsX9_bunches := goodIn_r _ [31, 19, 11, 32, 33, 5, 34, 35, 36, 37, 38, 20, 25, 26, 27, 39, 40, 41, 42, 43, 44, 45, 46, 47, 48, 49, 50, 51, 52, 53, 54, 55, 56] rfl (by decide +kernel)
set_option maxRecDepth 20000 in
theorem gX9_parted_X9_bunches : GoodIn wsX9_parted (wsV RX9 192 RX9 yX9_bunches wsX9_bunches) := goodIn_app (goodIn_of _ (by decide +kernel)) ggX9_parted_X9_bunches
theorem dX9_parted_0 : decode cX9_parted 0 = .ok (.aload_n 0, 1) := by decide +kernel
theorem dX9_parted_1 : decode cX9_parted 1 = .ok (.iconst 0, 1) := by decide +kernel
theorem dX9_parted_2 : decode cX9_parted 2 = .ok (.putfield 39, 3) := by decide +kernel
theorem dX9_parted_5 : decode cX9_parted 5 = .ok (.aload_n 0, 1) := by decide +kernel
theorem dX9_parted_6 : decode cX9_parted 6 = .ok (.iload_n 1, 1) := by decide +kernel
theorem dX9_parted_7 : decode cX9_parted 7 = .ok (.invokevirtual 185, 3) := by decide +kernel
theorem dX9_parted_10 : decode cX9_parted 10 = .ok (.ifCond .eq 13, 3) := by decide +kernel
theorem dX9_parted_13 : decode cX9_parted 13 = .ok (.iload_n 2, 1) := by decide +kernel
theorem dX9_parted_14 : decode cX9_parted 14 = .ok (.iconst 1, 1) := by decide +kernel
theorem dX9_parted_15 : decode cX9_parted 15 = .ok (.bipush 99, 2) := by decide +kernel
theorem dX9_parted_17 : decode cX9_parted 17 = .ok (.invokestatic 43, 3) := by decide +kernel
theorem dX9_parted_20 : decode cX9_parted 20 = .ok (.ifCond .ne 5, 3) := by decide +kernel
theorem dX9_parted_23 : decode cX9_parted 23 = .ok (.iconst (-1), 1) := by decide +kernel
theorem dX9_parted_24 : decode cX9_parted 24 = .ok (.ireturn, 1) := by decide +kernel
theorem dX9_parted_25 : decode cX9_parted 25 = .ok (.aload_n 0, 1) := by decide +kernel
theorem dX9_parted_26 : decode cX9_parted 26 = .ok (.iload_n 1, 1) := by decide +kernel
theorem dX9_parted_27 : decode cX9_parted 27 = .ok (.invokevirtual 160, 3) := by decide +kernel
theorem dX9_parted_30 : decode cX9_parted 30 = .ok (.aload_n 0, 1) := by decide +kernel
theorem dX9_parted_31 : decode cX9_parted 31 = .ok (.iload_n 1, 1) := by decide +kernel
theorem dX9_parted_32 : decode cX9_parted 32 = .ok (.iload_n 2, 1) := by decide +kernel
theorem dX9_parted_33 : decode cX9_parted 33 = .ok (.invokevirtual 192, 3) := by decide +kernel
theorem dX9_parted_36 : decode cX9_parted 36 = .ok (.ireturn, 1) := by decide +kernel
set_option maxRecDepth 20000 in
theorem ggX9_together_X9_isClosed : GoodIn wsX9_together wsX9_isClosed := goodIn_r _ [6, 7, 8, 9, 5, 10, 11, 12, 13, 14, 39, 40, 41, 42, 43, 44, 45, 46, 47, 48, 49, 50, 51, 52, 53, 54, 55, 56] rfl (by decide +kernel)
set_option maxRecDepth 20000 in
theorem gX9_together_X9_isClosed : GoodIn wsX9_together (wsV RX9 185 RX9 yX9_isClosed wsX9_isClosed) := goodIn_app (goodIn_of _ (by decide +kernel)) ggX9_together_X9_isClosed
set_option maxRecDepth 20000 in
theorem ggX9_together_X9_laysOrder : GoodIn wsX9_together wsX9_laysOrder := goodIn_r _ [18, 19, 11, 20, 21, 22, 23, 5, 24, 25, 26, 27, 39, 40, 41, 42, 43, 44, 45, 46, 47, 48, 49, 50, 51, 52, 53, 54, 55, 56] rfl (by decide +kernel)
set_option maxRecDepth 20000 in
theorem gX9_together_X9_laysOrder : GoodIn wsX9_together (wsV RX9 160 RX9 yX9_laysOrder wsX9_laysOrder) := goodIn_app (goodIn_of _ (by decide +kernel)) ggX9_together_X9_laysOrder
set_option maxRecDepth 20000 in
theorem ggX9_together_X9_bunches : GoodIn wsX9_together wsX9_bunches := goodIn_r _ [31, 19, 11, 32, 33, 5, 34, 35, 36, 37, 38, 20, 25, 26, 27, 39, 40, 41, 42, 43, 44, 45, 46, 47, 48, 49, 50, 51, 52, 53, 54, 55, 56] rfl (by decide +kernel)
set_option maxRecDepth 20000 in
theorem gX9_together_X9_bunches : GoodIn wsX9_together (wsV RX9 192 RX9 yX9_bunches wsX9_bunches) := goodIn_app (goodIn_of _ (by decide +kernel)) ggX9_together_X9_bunches
theorem dX9_together_0 : decode cX9_together 0 = .ok (.aload_n 0, 1) := by decide +kernel
theorem dX9_together_1 : decode cX9_together 1 = .ok (.iconst 0, 1) := by decide +kernel
theorem dX9_together_2 : decode cX9_together 2 = .ok (.putfield 39, 3) := by decide +kernel
theorem dX9_together_5 : decode cX9_together 5 = .ok (.aload_n 0, 1) := by decide +kernel
theorem dX9_together_6 : decode cX9_together 6 = .ok (.iload_n 1, 1) := by decide +kernel
theorem dX9_together_7 : decode cX9_together 7 = .ok (.invokevirtual 185, 3) := by decide +kernel
theorem dX9_together_10 : decode cX9_together 10 = .ok (.ifCond .ne 5, 3) := by decide +kernel
theorem dX9_together_13 : decode cX9_together 13 = .ok (.iconst (-1), 1) := by decide +kernel
theorem dX9_together_14 : decode cX9_together 14 = .ok (.ireturn, 1) := by decide +kernel
theorem dX9_together_15 : decode cX9_together 15 = .ok (.aload_n 0, 1) := by decide +kernel
theorem dX9_together_16 : decode cX9_together 16 = .ok (.iload_n 1, 1) := by decide +kernel
theorem dX9_together_17 : decode cX9_together 17 = .ok (.invokevirtual 160, 3) := by decide +kernel
theorem dX9_together_20 : decode cX9_together 20 = .ok (.iconst 1, 1) := by decide +kernel
theorem dX9_together_21 : decode cX9_together 21 = .ok (.istore_n 2, 1) := by decide +kernel
theorem dX9_together_22 : decode cX9_together 22 = .ok (.iload_n 2, 1) := by decide +kernel
theorem dX9_together_23 : decode cX9_together 23 = .ok (.bipush 100, 2) := by decide +kernel
theorem dX9_together_25 : decode cX9_together 25 = .ok (.if_icmp .ge 21, 3) := by decide +kernel
theorem dX9_together_28 : decode cX9_together 28 = .ok (.aload_n 0, 1) := by decide +kernel
theorem dX9_together_29 : decode cX9_together 29 = .ok (.iload_n 1, 1) := by decide +kernel
theorem dX9_together_30 : decode cX9_together 30 = .ok (.iload_n 2, 1) := by decide +kernel
theorem dX9_together_31 : decode cX9_together 31 = .ok (.invokevirtual 192, 3) := by decide +kernel
theorem dX9_together_34 : decode cX9_together 34 = .ok (.iconst 1, 1) := by decide +kernel
theorem dX9_together_35 : decode cX9_together 35 = .ok (.if_icmp .ne 5, 3) := by decide +kernel
theorem dX9_together_38 : decode cX9_together 38 = .ok (.iload_n 2, 1) := by decide +kernel
theorem dX9_together_39 : decode cX9_together 39 = .ok (.ireturn, 1) := by decide +kernel
theorem dX9_together_40 : decode cX9_together 40 = .ok (.iinc 2 1, 3) := by decide +kernel
theorem dX9_together_43 : decode cX9_together 43 = .ok (.goto (-21), 3) := by decide +kernel
theorem dX9_together_46 : decode cX9_together 46 = .ok (.iconst (-1), 1) := by decide +kernel
theorem dX9_together_47 : decode cX9_together 47 = .ok (.ireturn, 1) := by decide +kernel
set_option maxRecDepth 20000 in
theorem ggX9_escaped_X9_isClosed : GoodIn wsX9_escaped wsX9_isClosed := goodIn_r _ [7, 8, 9, 10, 6, 11, 12, 13, 14, 15, 32, 33, 34, 35, 36, 37, 38, 39, 40, 41, 42, 43, 44, 45, 46, 47, 48, 49] rfl (by decide +kernel)
set_option maxRecDepth 20000 in
theorem gX9_escaped_X9_isClosed : GoodIn wsX9_escaped (wsV RX9 185 RX9 yX9_isClosed wsX9_isClosed) := goodIn_app (goodIn_of _ (by decide +kernel)) ggX9_escaped_X9_isClosed
set_option maxRecDepth 20000 in
theorem ggX9_escaped_X9_laysOrder : GoodIn wsX9_escaped wsX9_laysOrder := goodIn_r _ [19, 2, 12, 20, 21, 22, 23, 6, 24, 25, 26, 27, 32, 33, 34, 35, 36, 37, 38, 39, 40, 41, 42, 43, 44, 45, 46, 47, 48, 49] rfl (by decide +kernel)
set_option maxRecDepth 20000 in
theorem gX9_escaped_X9_laysOrder : GoodIn wsX9_escaped (wsV RX9 160 RX9 yX9_laysOrder wsX9_laysOrder) := goodIn_app (goodIn_of _ (by decide +kernel)) ggX9_escaped_X9_laysOrder
set_option maxRecDepth 20000 in
theorem ggX9_escaped_X9_space : GoodIn wsX9_escaped wsX9_space := goodIn_r _ [31, 12, 20, 25, 26, 6, 27, 32, 33, 34, 35, 36, 37, 38, 39, 40, 41, 42, 43, 44, 45, 46, 47, 48, 49] rfl (by decide +kernel)
set_option maxRecDepth 20000 in
theorem gX9_escaped_X9_space : GoodIn wsX9_escaped (wsV RX9 117 RX9 yX9_space wsX9_space) := goodIn_app (goodIn_of _ (by decide +kernel)) ggX9_escaped_X9_space
theorem dX9_escaped_0 : decode cX9_escaped 0 = .ok (.aload_n 0, 1) := by decide +kernel
theorem dX9_escaped_1 : decode cX9_escaped 1 = .ok (.iconst 0, 1) := by decide +kernel
theorem dX9_escaped_2 : decode cX9_escaped 2 = .ok (.putfield 39, 3) := by decide +kernel
theorem dX9_escaped_5 : decode cX9_escaped 5 = .ok (.aload_n 0, 1) := by decide +kernel
theorem dX9_escaped_6 : decode cX9_escaped 6 = .ok (.iload_n 1, 1) := by decide +kernel
theorem dX9_escaped_7 : decode cX9_escaped 7 = .ok (.invokevirtual 185, 3) := by decide +kernel
theorem dX9_escaped_10 : decode cX9_escaped 10 = .ok (.ifCond .ne 5, 3) := by decide +kernel
theorem dX9_escaped_13 : decode cX9_escaped 13 = .ok (.iconst (-1), 1) := by decide +kernel
theorem dX9_escaped_14 : decode cX9_escaped 14 = .ok (.ireturn, 1) := by decide +kernel
theorem dX9_escaped_15 : decode cX9_escaped 15 = .ok (.aload_n 0, 1) := by decide +kernel
theorem dX9_escaped_16 : decode cX9_escaped 16 = .ok (.iload_n 1, 1) := by decide +kernel
theorem dX9_escaped_17 : decode cX9_escaped 17 = .ok (.invokevirtual 160, 3) := by decide +kernel
theorem dX9_escaped_20 : decode cX9_escaped 20 = .ok (.iconst (-1), 1) := by decide +kernel
theorem dX9_escaped_21 : decode cX9_escaped 21 = .ok (.istore_n 2, 1) := by decide +kernel
theorem dX9_escaped_22 : decode cX9_escaped 22 = .ok (.iconst (-1), 1) := by decide +kernel
theorem dX9_escaped_23 : decode cX9_escaped 23 = .ok (.istore_n 3, 1) := by decide +kernel
theorem dX9_escaped_24 : decode cX9_escaped 24 = .ok (.iconst 1, 1) := by decide +kernel
theorem dX9_escaped_25 : decode cX9_escaped 25 = .ok (.istore 4, 2) := by decide +kernel
theorem dX9_escaped_27 : decode cX9_escaped 27 = .ok (.iload 4, 2) := by decide +kernel
theorem dX9_escaped_29 : decode cX9_escaped 29 = .ok (.aload_n 0, 1) := by decide +kernel
theorem dX9_escaped_30 : decode cX9_escaped 30 = .ok (.getfield 114, 3) := by decide +kernel
theorem dX9_escaped_33 : decode cX9_escaped 33 = .ok (.if_icmp .ge 34, 3) := by decide +kernel
theorem dX9_escaped_36 : decode cX9_escaped 36 = .ok (.aload_n 0, 1) := by decide +kernel
theorem dX9_escaped_37 : decode cX9_escaped 37 = .ok (.iload_n 1, 1) := by decide +kernel
theorem dX9_escaped_38 : decode cX9_escaped 38 = .ok (.iload 4, 2) := by decide +kernel
theorem dX9_escaped_40 : decode cX9_escaped 40 = .ok (.invokevirtual 117, 3) := by decide +kernel
theorem dX9_escaped_43 : decode cX9_escaped 43 = .ok (.iload_n 3, 1) := by decide +kernel
theorem dX9_escaped_44 : decode cX9_escaped 44 = .ok (.if_icmp .gt 6, 3) := by decide +kernel
theorem dX9_escaped_47 : decode cX9_escaped 47 = .ok (.goto 14, 3) := by decide +kernel
theorem dX9_escaped_50 : decode cX9_escaped 50 = .ok (.aload_n 0, 1) := by decide +kernel
theorem dX9_escaped_51 : decode cX9_escaped 51 = .ok (.iload_n 1, 1) := by decide +kernel
theorem dX9_escaped_52 : decode cX9_escaped 52 = .ok (.iload 4, 2) := by decide +kernel
theorem dX9_escaped_54 : decode cX9_escaped 54 = .ok (.invokevirtual 117, 3) := by decide +kernel
theorem dX9_escaped_57 : decode cX9_escaped 57 = .ok (.istore_n 3, 1) := by decide +kernel
theorem dX9_escaped_58 : decode cX9_escaped 58 = .ok (.iload 4, 2) := by decide +kernel
theorem dX9_escaped_60 : decode cX9_escaped 60 = .ok (.istore_n 2, 1) := by decide +kernel
theorem dX9_escaped_61 : decode cX9_escaped 61 = .ok (.iinc 4 1, 3) := by decide +kernel
theorem dX9_escaped_64 : decode cX9_escaped 64 = .ok (.goto (-37), 3) := by decide +kernel
theorem dX9_escaped_67 : decode cX9_escaped 67 = .ok (.iload_n 2, 1) := by decide +kernel
theorem dX9_escaped_68 : decode cX9_escaped 68 = .ok (.ireturn, 1) := by decide +kernel
set_option maxRecDepth 20000 in
theorem ggX9_totalBut_X9_closedMany : GoodIn wsX9_totalBut wsX9_closedMany := goodIn_r _ [6, 1, 17, 18, 19, 20, 21, 22, 23, 24, 25, 26, 27, 28, 29, 30, 31, 32, 33, 34] rfl (by decide +kernel)
set_option maxRecDepth 20000 in
theorem gX9_totalBut_X9_closedMany : GoodIn wsX9_totalBut (wsV RX9 176 RX9 yX9_closedMany wsX9_closedMany) := goodIn_app (goodIn_of _ (by decide +kernel)) ggX9_totalBut_X9_closedMany
set_option maxRecDepth 20000 in
theorem ggX9_totalBut_X9_hasFinish : GoodIn wsX9_totalBut wsX9_hasFinish := goodIn_r _ [10, 1, 11, 12, 5, 13, 17, 18, 19, 20, 21, 22, 23, 24, 25, 26, 27, 28, 29, 30, 31, 32, 33, 34] rfl (by decide +kernel)
set_option maxRecDepth 20000 in
theorem gX9_totalBut_X9_hasFinish : GoodIn wsX9_totalBut (wsV RX9 55 RX9 yX9_hasFinish wsX9_hasFinish) := goodIn_app (goodIn_of _ (by decide +kernel)) ggX9_totalBut_X9_hasFinish
set_option maxRecDepth 20000 in
theorem ggX9_totalBut_X9_at_ : GoodIn wsX9_totalBut wsX9_at_ := goodIn_r _ [13] rfl (by decide +kernel)
set_option maxRecDepth 20000 in
theorem gX9_totalBut_X9_at_ : GoodIn wsX9_totalBut (va_wsS RX9 51 yX9_at_ wsX9_at_) := goodIn_app (goodIn_of _ (by decide +kernel)) ggX9_totalBut_X9_at_
set_option maxRecDepth 20000 in
theorem ggX9_totalBut_X9_at : GoodIn wsX9_totalBut wsX9_at := goodIn_r _ [16] rfl (by decide +kernel)
set_option maxRecDepth 20000 in
theorem gX9_totalBut_X9_at : GoodIn wsX9_totalBut (va_wsS RX9 87 yX9_at wsX9_at) := goodIn_app (goodIn_of _ (by decide +kernel)) ggX9_totalBut_X9_at
theorem dX9_totalBut_0 : decode cX9_totalBut 0 = .ok (.iconst 0, 1) := by decide +kernel
theorem dX9_totalBut_1 : decode cX9_totalBut 1 = .ok (.istore_n 3, 1) := by decide +kernel
theorem dX9_totalBut_2 : decode cX9_totalBut 2 = .ok (.iconst 0, 1) := by decide +kernel
theorem dX9_totalBut_3 : decode cX9_totalBut 3 = .ok (.istore 4, 2) := by decide +kernel
theorem dX9_totalBut_5 : decode cX9_totalBut 5 = .ok (.iload 4, 2) := by decide +kernel
theorem dX9_totalBut_7 : decode cX9_totalBut 7 = .ok (.aload_n 0, 1) := by decide +kernel
theorem dX9_totalBut_8 : decode cX9_totalBut 8 = .ok (.invokevirtual 176, 3) := by decide +kernel
theorem dX9_totalBut_11 : decode cX9_totalBut 11 = .ok (.if_icmp .ge 86, 3) := by decide +kernel
theorem dX9_totalBut_14 : decode cX9_totalBut 14 = .ok (.iload 4, 2) := by decide +kernel
theorem dX9_totalBut_16 : decode cX9_totalBut 16 = .ok (.iload_n 2, 1) := by decide +kernel
theorem dX9_totalBut_17 : decode cX9_totalBut 17 = .ok (.if_icmp .ne 6, 3) := by decide +kernel
theorem dX9_totalBut_20 : decode cX9_totalBut 20 = .ok (.goto 71, 3) := by decide +kernel
theorem dX9_totalBut_23 : decode cX9_totalBut 23 = .ok (.iload_n 3, 1) := by decide +kernel
theorem dX9_totalBut_24 : decode cX9_totalBut 24 = .ok (.aload_n 0, 1) := by decide +kernel
theorem dX9_totalBut_25 : decode cX9_totalBut 25 = .ok (.iload 4, 2) := by decide +kernel
theorem dX9_totalBut_27 : decode cX9_totalBut 27 = .ok (.iload_n 1, 1) := by decide +kernel
theorem dX9_totalBut_28 : decode cX9_totalBut 28 = .ok (.invokevirtual 55, 3) := by decide +kernel
theorem dX9_totalBut_31 : decode cX9_totalBut 31 = .ok (.ifCond .eq 46, 3) := by decide +kernel
theorem dX9_totalBut_34 : decode cX9_totalBut 34 = .ok (.aload_n 0, 1) := by decide +kernel
theorem dX9_totalBut_35 : decode cX9_totalBut 35 = .ok (.getfield 7, 3) := by decide +kernel
theorem dX9_totalBut_38 : decode cX9_totalBut 38 = .ok (.iload 4, 2) := by decide +kernel
theorem dX9_totalBut_40 : decode cX9_totalBut 40 = .ok (.iload_n 1, 1) := by decide +kernel
theorem dX9_totalBut_41 : decode cX9_totalBut 41 = .ok (.bipush 6, 2) := by decide +kernel
theorem dX9_totalBut_43 : decode cX9_totalBut 43 = .ok (.invokestatic 51, 3) := by decide +kernel
theorem dX9_totalBut_46 : decode cX9_totalBut 46 = .ok (.iaload, 1) := by decide +kernel
theorem dX9_totalBut_47 : decode cX9_totalBut 47 = .ok (.aload_n 0, 1) := by decide +kernel
theorem dX9_totalBut_48 : decode cX9_totalBut 48 = .ok (.getfield 7, 3) := by decide +kernel
theorem dX9_totalBut_51 : decode cX9_totalBut 51 = .ok (.iload 4, 2) := by decide +kernel
theorem dX9_totalBut_53 : decode cX9_totalBut 53 = .ok (.iload_n 1, 1) := by decide +kernel
theorem dX9_totalBut_54 : decode cX9_totalBut 54 = .ok (.iconst 3, 1) := by decide +kernel
theorem dX9_totalBut_55 : decode cX9_totalBut 55 = .ok (.invokestatic 51, 3) := by decide +kernel
theorem dX9_totalBut_58 : decode cX9_totalBut 58 = .ok (.iaload, 1) := by decide +kernel
theorem dX9_totalBut_59 : decode cX9_totalBut 59 = .ok (.iadd, 1) := by decide +kernel
theorem dX9_totalBut_60 : decode cX9_totalBut 60 = .ok (.aload_n 0, 1) := by decide +kernel
theorem dX9_totalBut_61 : decode cX9_totalBut 61 = .ok (.getfield 7, 3) := by decide +kernel
theorem dX9_totalBut_64 : decode cX9_totalBut 64 = .ok (.iload 4, 2) := by decide +kernel
theorem dX9_totalBut_66 : decode cX9_totalBut 66 = .ok (.iload_n 1, 1) := by decide +kernel
theorem dX9_totalBut_67 : decode cX9_totalBut 67 = .ok (.bipush 9, 2) := by decide +kernel
theorem dX9_totalBut_69 : decode cX9_totalBut 69 = .ok (.invokestatic 51, 3) := by decide +kernel
theorem dX9_totalBut_72 : decode cX9_totalBut 72 = .ok (.iaload, 1) := by decide +kernel
theorem dX9_totalBut_73 : decode cX9_totalBut 73 = .ok (.isub, 1) := by decide +kernel
theorem dX9_totalBut_74 : decode cX9_totalBut 74 = .ok (.goto 15, 3) := by decide +kernel
theorem dX9_totalBut_77 : decode cX9_totalBut 77 = .ok (.aload_n 0, 1) := by decide +kernel
theorem dX9_totalBut_78 : decode cX9_totalBut 78 = .ok (.getfield 7, 3) := by decide +kernel
theorem dX9_totalBut_81 : decode cX9_totalBut 81 = .ok (.iload 4, 2) := by decide +kernel
theorem dX9_totalBut_83 : decode cX9_totalBut 83 = .ok (.bipush 9, 2) := by decide +kernel
theorem dX9_totalBut_85 : decode cX9_totalBut 85 = .ok (.invokestatic 87, 3) := by decide +kernel
theorem dX9_totalBut_88 : decode cX9_totalBut 88 = .ok (.iaload, 1) := by decide +kernel
theorem dX9_totalBut_89 : decode cX9_totalBut 89 = .ok (.iadd, 1) := by decide +kernel
theorem dX9_totalBut_90 : decode cX9_totalBut 90 = .ok (.istore_n 3, 1) := by decide +kernel
theorem dX9_totalBut_91 : decode cX9_totalBut 91 = .ok (.iinc 4 1, 3) := by decide +kernel
theorem dX9_totalBut_94 : decode cX9_totalBut 94 = .ok (.goto (-89), 3) := by decide +kernel
theorem dX9_totalBut_97 : decode cX9_totalBut 97 = .ok (.iload_n 3, 1) := by decide +kernel
theorem dX9_totalBut_98 : decode cX9_totalBut 98 = .ok (.ireturn, 1) := by decide +kernel
set_option maxRecDepth 20000 in
theorem ggX9_placesBut_X9_closedMany : GoodIn wsX9_placesBut wsX9_closedMany := goodIn_r _ [6, 1, 14, 15, 16, 17, 18, 19, 20, 21, 22, 23, 24, 25, 26, 27, 28, 29, 30, 31] rfl (by decide +kernel)
set_option maxRecDepth 20000 in
theorem gX9_placesBut_X9_closedMany : GoodIn wsX9_placesBut (wsV RX9 176 RX9 yX9_closedMany wsX9_closedMany) := goodIn_app (goodIn_of _ (by decide +kernel)) ggX9_placesBut_X9_closedMany
set_option maxRecDepth 20000 in
theorem ggX9_placesBut_X9_hasFinish : GoodIn wsX9_placesBut wsX9_hasFinish := goodIn_r _ [10, 1, 11, 12, 5, 13, 14, 15, 16, 17, 18, 19, 20, 21, 22, 23, 24, 25, 26, 27, 28, 29, 30, 31] rfl (by decide +kernel)
set_option maxRecDepth 20000 in
theorem gX9_placesBut_X9_hasFinish : GoodIn wsX9_placesBut (wsV RX9 55 RX9 yX9_hasFinish wsX9_hasFinish) := goodIn_app (goodIn_of _ (by decide +kernel)) ggX9_placesBut_X9_hasFinish
set_option maxRecDepth 20000 in
theorem ggX9_placesBut_X9_at_ : GoodIn wsX9_placesBut wsX9_at_ := goodIn_r _ [13] rfl (by decide +kernel)
set_option maxRecDepth 20000 in
theorem gX9_placesBut_X9_at_ : GoodIn wsX9_placesBut (va_wsS RX9 51 yX9_at_ wsX9_at_) := goodIn_app (goodIn_of _ (by decide +kernel)) ggX9_placesBut_X9_at_
theorem dX9_placesBut_0 : decode cX9_placesBut 0 = .ok (.iconst 0, 1) := by decide +kernel
theorem dX9_placesBut_1 : decode cX9_placesBut 1 = .ok (.istore_n 3, 1) := by decide +kernel
theorem dX9_placesBut_2 : decode cX9_placesBut 2 = .ok (.iconst 0, 1) := by decide +kernel
theorem dX9_placesBut_3 : decode cX9_placesBut 3 = .ok (.istore 4, 2) := by decide +kernel
theorem dX9_placesBut_5 : decode cX9_placesBut 5 = .ok (.iload 4, 2) := by decide +kernel
theorem dX9_placesBut_7 : decode cX9_placesBut 7 = .ok (.aload_n 0, 1) := by decide +kernel
theorem dX9_placesBut_8 : decode cX9_placesBut 8 = .ok (.invokevirtual 176, 3) := by decide +kernel
theorem dX9_placesBut_11 : decode cX9_placesBut 11 = .ok (.if_icmp .ge 50, 3) := by decide +kernel
theorem dX9_placesBut_14 : decode cX9_placesBut 14 = .ok (.iload_n 3, 1) := by decide +kernel
theorem dX9_placesBut_15 : decode cX9_placesBut 15 = .ok (.iload 4, 2) := by decide +kernel
theorem dX9_placesBut_17 : decode cX9_placesBut 17 = .ok (.iload_n 2, 1) := by decide +kernel
theorem dX9_placesBut_18 : decode cX9_placesBut 18 = .ok (.if_icmp .ne 7, 3) := by decide +kernel
theorem dX9_placesBut_21 : decode cX9_placesBut 21 = .ok (.iconst 0, 1) := by decide +kernel
theorem dX9_placesBut_22 : decode cX9_placesBut 22 = .ok (.goto 31, 3) := by decide +kernel
theorem dX9_placesBut_25 : decode cX9_placesBut 25 = .ok (.aload_n 0, 1) := by decide +kernel
theorem dX9_placesBut_26 : decode cX9_placesBut 26 = .ok (.iload 4, 2) := by decide +kernel
theorem dX9_placesBut_28 : decode cX9_placesBut 28 = .ok (.iload_n 1, 1) := by decide +kernel
theorem dX9_placesBut_29 : decode cX9_placesBut 29 = .ok (.invokevirtual 55, 3) := by decide +kernel
theorem dX9_placesBut_32 : decode cX9_placesBut 32 = .ok (.ifCond .eq 19, 3) := by decide +kernel
theorem dX9_placesBut_35 : decode cX9_placesBut 35 = .ok (.aload_n 0, 1) := by decide +kernel
theorem dX9_placesBut_36 : decode cX9_placesBut 36 = .ok (.getfield 7, 3) := by decide +kernel
theorem dX9_placesBut_39 : decode cX9_placesBut 39 = .ok (.iload 4, 2) := by decide +kernel
theorem dX9_placesBut_41 : decode cX9_placesBut 41 = .ok (.iload_n 1, 1) := by decide +kernel
theorem dX9_placesBut_42 : decode cX9_placesBut 42 = .ok (.bipush 8, 2) := by decide +kernel
theorem dX9_placesBut_44 : decode cX9_placesBut 44 = .ok (.invokestatic 51, 3) := by decide +kernel
theorem dX9_placesBut_47 : decode cX9_placesBut 47 = .ok (.iaload, 1) := by decide +kernel
theorem dX9_placesBut_48 : decode cX9_placesBut 48 = .ok (.goto 5, 3) := by decide +kernel
theorem dX9_placesBut_51 : decode cX9_placesBut 51 = .ok (.bipush 99, 2) := by decide +kernel
theorem dX9_placesBut_53 : decode cX9_placesBut 53 = .ok (.iadd, 1) := by decide +kernel
theorem dX9_placesBut_54 : decode cX9_placesBut 54 = .ok (.istore_n 3, 1) := by decide +kernel
theorem dX9_placesBut_55 : decode cX9_placesBut 55 = .ok (.iinc 4 1, 3) := by decide +kernel
theorem dX9_placesBut_58 : decode cX9_placesBut 58 = .ok (.goto (-53), 3) := by decide +kernel
theorem dX9_placesBut_61 : decode cX9_placesBut 61 = .ok (.iload_n 3, 1) := by decide +kernel
theorem dX9_placesBut_62 : decode cX9_placesBut 62 = .ok (.ireturn, 1) := by decide +kernel
set_option maxRecDepth 20000 in
theorem ggX9_isAhead_X9_totalBut : GoodIn wsX9_isAhead wsX9_totalBut := goodIn_r _ [5, 6, 7, 8, 9, 4, 10, 11, 12, 13, 14, 15, 16, 17, 18, 19, 20, 25, 26, 27, 28, 29, 30, 31, 32, 33, 34, 35, 36, 37, 38, 39, 40, 41, 42] rfl (by decide +kernel)
set_option maxRecDepth 20000 in
theorem gX9_isAhead_X9_totalBut : GoodIn wsX9_isAhead (wsV RX9 195 RX9 yX9_totalBut wsX9_totalBut) := goodIn_app (goodIn_of _ (by decide +kernel)) ggX9_isAhead_X9_totalBut
set_option maxRecDepth 20000 in
theorem ggX9_isAhead_X9_placesBut : GoodIn wsX9_isAhead wsX9_placesBut := goodIn_r _ [24, 6, 7, 8, 9, 4, 10, 11, 12, 13, 14, 15, 16, 17, 25, 26, 27, 28, 29, 30, 31, 32, 33, 34, 35, 36, 37, 38, 39, 40, 41, 42] rfl (by decide +kernel)
set_option maxRecDepth 20000 in
theorem gX9_isAhead_X9_placesBut : GoodIn wsX9_isAhead (wsV RX9 198 RX9 yX9_placesBut wsX9_placesBut) := goodIn_app (goodIn_of _ (by decide +kernel)) ggX9_isAhead_X9_placesBut
theorem dX9_isAhead_0 : decode cX9_isAhead 0 = .ok (.aload_n 0, 1) := by decide +kernel
theorem dX9_isAhead_1 : decode cX9_isAhead 1 = .ok (.iload_n 1, 1) := by decide +kernel
theorem dX9_isAhead_2 : decode cX9_isAhead 2 = .ok (.iload 4, 2) := by decide +kernel
theorem dX9_isAhead_4 : decode cX9_isAhead 4 = .ok (.invokevirtual 195, 3) := by decide +kernel
theorem dX9_isAhead_7 : decode cX9_isAhead 7 = .ok (.iload_n 3, 1) := by decide +kernel
theorem dX9_isAhead_8 : decode cX9_isAhead 8 = .ok (.isub, 1) := by decide +kernel
theorem dX9_isAhead_9 : decode cX9_isAhead 9 = .ok (.istore 5, 2) := by decide +kernel
theorem dX9_isAhead_11 : decode cX9_isAhead 11 = .ok (.aload_n 0, 1) := by decide +kernel
theorem dX9_isAhead_12 : decode cX9_isAhead 12 = .ok (.iload_n 2, 1) := by decide +kernel
theorem dX9_isAhead_13 : decode cX9_isAhead 13 = .ok (.iload 4, 2) := by decide +kernel
theorem dX9_isAhead_15 : decode cX9_isAhead 15 = .ok (.invokevirtual 195, 3) := by decide +kernel
theorem dX9_isAhead_18 : decode cX9_isAhead 18 = .ok (.istore 6, 2) := by decide +kernel
theorem dX9_isAhead_20 : decode cX9_isAhead 20 = .ok (.iload 5, 2) := by decide +kernel
theorem dX9_isAhead_22 : decode cX9_isAhead 22 = .ok (.iload 6, 2) := by decide +kernel
theorem dX9_isAhead_24 : decode cX9_isAhead 24 = .ok (.if_icmp .eq 16, 3) := by decide +kernel
theorem dX9_isAhead_27 : decode cX9_isAhead 27 = .ok (.iload 5, 2) := by decide +kernel
theorem dX9_isAhead_29 : decode cX9_isAhead 29 = .ok (.iload 6, 2) := by decide +kernel
theorem dX9_isAhead_31 : decode cX9_isAhead 31 = .ok (.if_icmp .ge 7, 3) := by decide +kernel
theorem dX9_isAhead_34 : decode cX9_isAhead 34 = .ok (.iconst 1, 1) := by decide +kernel
theorem dX9_isAhead_35 : decode cX9_isAhead 35 = .ok (.goto 4, 3) := by decide +kernel
theorem dX9_isAhead_38 : decode cX9_isAhead 38 = .ok (.iconst 0, 1) := by decide +kernel
theorem dX9_isAhead_39 : decode cX9_isAhead 39 = .ok (.ireturn, 1) := by decide +kernel
theorem dX9_isAhead_40 : decode cX9_isAhead 40 = .ok (.aload_n 0, 1) := by decide +kernel
theorem dX9_isAhead_41 : decode cX9_isAhead 41 = .ok (.iload_n 1, 1) := by decide +kernel
theorem dX9_isAhead_42 : decode cX9_isAhead 42 = .ok (.iload 4, 2) := by decide +kernel
theorem dX9_isAhead_44 : decode cX9_isAhead 44 = .ok (.invokevirtual 198, 3) := by decide +kernel
theorem dX9_isAhead_47 : decode cX9_isAhead 47 = .ok (.istore 7, 2) := by decide +kernel
theorem dX9_isAhead_49 : decode cX9_isAhead 49 = .ok (.aload_n 0, 1) := by decide +kernel
theorem dX9_isAhead_50 : decode cX9_isAhead 50 = .ok (.iload_n 2, 1) := by decide +kernel
theorem dX9_isAhead_51 : decode cX9_isAhead 51 = .ok (.iload 4, 2) := by decide +kernel
theorem dX9_isAhead_53 : decode cX9_isAhead 53 = .ok (.invokevirtual 198, 3) := by decide +kernel
theorem dX9_isAhead_56 : decode cX9_isAhead 56 = .ok (.istore 8, 2) := by decide +kernel
theorem dX9_isAhead_58 : decode cX9_isAhead 58 = .ok (.iload 7, 2) := by decide +kernel
theorem dX9_isAhead_60 : decode cX9_isAhead 60 = .ok (.iload 8, 2) := by decide +kernel
theorem dX9_isAhead_62 : decode cX9_isAhead 62 = .ok (.if_icmp .eq 18, 3) := by decide +kernel
theorem dX9_isAhead_65 : decode cX9_isAhead 65 = .ok (.iload 7, 2) := by decide +kernel
theorem dX9_isAhead_67 : decode cX9_isAhead 67 = .ok (.iload 8, 2) := by decide +kernel
theorem dX9_isAhead_69 : decode cX9_isAhead 69 = .ok (.if_icmp .ge 7, 3) := by decide +kernel
theorem dX9_isAhead_72 : decode cX9_isAhead 72 = .ok (.iconst 1, 1) := by decide +kernel
theorem dX9_isAhead_73 : decode cX9_isAhead 73 = .ok (.goto 17, 3) := by decide +kernel
theorem dX9_isAhead_76 : decode cX9_isAhead 76 = .ok (.iconst 0, 1) := by decide +kernel
theorem dX9_isAhead_77 : decode cX9_isAhead 77 = .ok (.goto 13, 3) := by decide +kernel
theorem dX9_isAhead_80 : decode cX9_isAhead 80 = .ok (.iload_n 1, 1) := by decide +kernel
theorem dX9_isAhead_81 : decode cX9_isAhead 81 = .ok (.iload_n 2, 1) := by decide +kernel
theorem dX9_isAhead_82 : decode cX9_isAhead 82 = .ok (.if_icmp .ge 7, 3) := by decide +kernel
theorem dX9_isAhead_85 : decode cX9_isAhead 85 = .ok (.iconst 1, 1) := by decide +kernel
theorem dX9_isAhead_86 : decode cX9_isAhead 86 = .ok (.goto 4, 3) := by decide +kernel
theorem dX9_isAhead_89 : decode cX9_isAhead 89 = .ok (.iconst 0, 1) := by decide +kernel
theorem dX9_isAhead_90 : decode cX9_isAhead 90 = .ok (.ireturn, 1) := by decide +kernel
set_option maxRecDepth 20000 in
theorem ggX9_isOn_X9_isThere : GoodIn wsX9_isOn wsX9_isThere := goodIn_r _ [6, 1, 7, 8, 9, 5, 10, 11, 12, 13, 25, 26, 27, 28, 29, 30, 31, 32, 33, 34, 35, 36, 37, 38, 39, 40, 41, 42] rfl (by decide +kernel)
set_option maxRecDepth 20000 in
theorem gX9_isOn_X9_isThere : GoodIn wsX9_isOn (wsV RX9 59 RX9 yX9_isThere wsX9_isThere) := goodIn_app (goodIn_of _ (by decide +kernel)) ggX9_isOn_X9_isThere
set_option maxRecDepth 20000 in
theorem ggX9_isOn_X9_allOf : GoodIn wsX9_isOn wsX9_allOf := goodIn_r _ [17, 1, 18, 19, 20, 5, 21, 22, 23, 24, 25, 26, 27, 28, 29, 30, 31, 32, 33, 34, 35, 36, 37, 38, 39, 40, 41, 42] rfl (by decide +kernel)
set_option maxRecDepth 20000 in
theorem gX9_isOn_X9_allOf : GoodIn wsX9_isOn (wsV RX9 182 RX9 yX9_allOf wsX9_allOf) := goodIn_app (goodIn_of _ (by decide +kernel)) ggX9_isOn_X9_allOf
theorem dX9_isOn_0 : decode cX9_isOn 0 = .ok (.aload_n 0, 1) := by decide +kernel
theorem dX9_isOn_1 : decode cX9_isOn 1 = .ok (.iload_n 2, 1) := by decide +kernel
theorem dX9_isOn_2 : decode cX9_isOn 2 = .ok (.invokevirtual 59, 3) := by decide +kernel
theorem dX9_isOn_5 : decode cX9_isOn 5 = .ok (.ifCond .ne 5, 3) := by decide +kernel
theorem dX9_isOn_8 : decode cX9_isOn 8 = .ok (.iconst 0, 1) := by decide +kernel
theorem dX9_isOn_9 : decode cX9_isOn 9 = .ok (.ireturn, 1) := by decide +kernel
theorem dX9_isOn_10 : decode cX9_isOn 10 = .ok (.iload_n 1, 1) := by decide +kernel
theorem dX9_isOn_11 : decode cX9_isOn 11 = .ok (.ifCond .eq 56, 3) := by decide +kernel
theorem dX9_isOn_14 : decode cX9_isOn 14 = .ok (.iload_n 1, 1) := by decide +kernel
theorem dX9_isOn_15 : decode cX9_isOn 15 = .ok (.iconst 3, 1) := by decide +kernel
theorem dX9_isOn_16 : decode cX9_isOn 16 = .ok (.if_icmp .ne 21, 3) := by decide +kernel
theorem dX9_isOn_19 : decode cX9_isOn 19 = .ok (.aload_n 0, 1) := by decide +kernel
theorem dX9_isOn_20 : decode cX9_isOn 20 = .ok (.getfield 7, 3) := by decide +kernel
theorem dX9_isOn_23 : decode cX9_isOn 23 = .ok (.bipush 8, 2) := by decide +kernel
theorem dX9_isOn_25 : decode cX9_isOn 25 = .ok (.iconst 3, 1) := by decide +kernel
theorem dX9_isOn_26 : decode cX9_isOn 26 = .ok (.iload_n 2, 1) := by decide +kernel
theorem dX9_isOn_27 : decode cX9_isOn 27 = .ok (.imul, 1) := by decide +kernel
theorem dX9_isOn_28 : decode cX9_isOn 28 = .ok (.iadd, 1) := by decide +kernel
theorem dX9_isOn_29 : decode cX9_isOn 29 = .ok (.iconst 1, 1) := by decide +kernel
theorem dX9_isOn_30 : decode cX9_isOn 30 = .ok (.iadd, 1) := by decide +kernel
theorem dX9_isOn_31 : decode cX9_isOn 31 = .ok (.iaload, 1) := by decide +kernel
theorem dX9_isOn_32 : decode cX9_isOn 32 = .ok (.bipush 25, 2) := by decide +kernel
theorem dX9_isOn_34 : decode cX9_isOn 34 = .ok (.if_icmp .le 33, 3) := by decide +kernel
theorem dX9_isOn_37 : decode cX9_isOn 37 = .ok (.iload_n 1, 1) := by decide +kernel
theorem dX9_isOn_38 : decode cX9_isOn 38 = .ok (.iconst 1, 1) := by decide +kernel
theorem dX9_isOn_39 : decode cX9_isOn 39 = .ok (.if_icmp .ne 13, 3) := by decide +kernel
theorem dX9_isOn_42 : decode cX9_isOn 42 = .ok (.aload_n 0, 1) := by decide +kernel
theorem dX9_isOn_43 : decode cX9_isOn 43 = .ok (.iload_n 2, 1) := by decide +kernel
theorem dX9_isOn_44 : decode cX9_isOn 44 = .ok (.bipush 10, 2) := by decide +kernel
theorem dX9_isOn_46 : decode cX9_isOn 46 = .ok (.invokevirtual 182, 3) := by decide +kernel
theorem dX9_isOn_49 : decode cX9_isOn 49 = .ok (.ifCond .gt 18, 3) := by decide +kernel
theorem dX9_isOn_52 : decode cX9_isOn 52 = .ok (.iload_n 1, 1) := by decide +kernel
theorem dX9_isOn_53 : decode cX9_isOn 53 = .ok (.iconst 2, 1) := by decide +kernel
theorem dX9_isOn_54 : decode cX9_isOn 54 = .ok (.if_icmp .ne 17, 3) := by decide +kernel
theorem dX9_isOn_57 : decode cX9_isOn 57 = .ok (.aload_n 0, 1) := by decide +kernel
theorem dX9_isOn_58 : decode cX9_isOn 58 = .ok (.iload_n 2, 1) := by decide +kernel
theorem dX9_isOn_59 : decode cX9_isOn 59 = .ok (.bipush 11, 2) := by decide +kernel
theorem dX9_isOn_61 : decode cX9_isOn 61 = .ok (.invokevirtual 182, 3) := by decide +kernel
theorem dX9_isOn_64 : decode cX9_isOn 64 = .ok (.ifCond .le 7, 3) := by decide +kernel
theorem dX9_isOn_67 : decode cX9_isOn 67 = .ok (.iconst 1, 1) := by decide +kernel
theorem dX9_isOn_68 : decode cX9_isOn 68 = .ok (.goto 4, 3) := by decide +kernel
theorem dX9_isOn_71 : decode cX9_isOn 71 = .ok (.iconst 0, 1) := by decide +kernel
theorem dX9_isOn_72 : decode cX9_isOn 72 = .ok (.ireturn, 1) := by decide +kernel
set_option maxRecDepth 20000 in
theorem ggX9_isBefore_X9_isIn : GoodIn wsX9_isBefore wsX9_isIn := goodIn_r _ [4] rfl (by decide +kernel)
set_option maxRecDepth 20000 in
theorem gX9_isBefore_X9_isIn : GoodIn wsX9_isBefore (va_wsS RX9 43 yX9_isIn wsX9_isIn) := goodIn_app (goodIn_of _ (by decide +kernel)) ggX9_isBefore_X9_isIn
set_option maxRecDepth 20000 in
theorem ggX9_isBefore_X9_allOf : GoodIn wsX9_isBefore wsX9_allOf := goodIn_r _ [8, 9, 10, 11, 12, 3, 13, 14, 15, 16, 36, 37, 38, 39, 40, 41, 42, 43, 44, 45, 46, 47, 48, 49, 50, 51, 52, 53] rfl (by decide +kernel)
set_option maxRecDepth 20000 in
theorem gX9_isBefore_X9_allOf : GoodIn wsX9_isBefore (wsV RX9 182 RX9 yX9_allOf wsX9_allOf) := goodIn_app (goodIn_of _ (by decide +kernel)) ggX9_isBefore_X9_allOf
set_option maxRecDepth 20000 in
theorem ggX9_isBefore_X9_isAhead : GoodIn wsX9_isBefore wsX9_isAhead := goodIn_r _ [20, 21, 22, 23, 3, 24, 9, 10, 11, 12, 13, 25, 26, 27, 28, 14, 15, 16, 29, 30, 31, 32, 33, 34, 35, 36, 37, 38, 39, 40, 41, 42, 43, 44, 45, 46, 47, 48, 49, 50, 51, 52, 53] rfl (by decide +kernel)
set_option maxRecDepth 20000 in
theorem gX9_isBefore_X9_isAhead : GoodIn wsX9_isBefore (wsV RX9 201 RX9 yX9_isAhead wsX9_isAhead) := goodIn_app (goodIn_of _ (by decide +kernel)) ggX9_isBefore_X9_isAhead
theorem dX9_isBefore_0 : decode cX9_isBefore 0 = .ok (.iload_n 1, 1) := by decide +kernel
theorem dX9_isBefore_1 : decode cX9_isBefore 1 = .ok (.iconst 1, 1) := by decide +kernel
theorem dX9_isBefore_2 : decode cX9_isBefore 2 = .ok (.if_icmp .ne 8, 3) := by decide +kernel
theorem dX9_isBefore_5 : decode cX9_isBefore 5 = .ok (.bipush 10, 2) := by decide +kernel
theorem dX9_isBefore_7 : decode cX9_isBefore 7 = .ok (.goto 5, 3) := by decide +kernel
theorem dX9_isBefore_10 : decode cX9_isBefore 10 = .ok (.bipush 11, 2) := by decide +kernel
theorem dX9_isBefore_12 : decode cX9_isBefore 12 = .ok (.istore 4, 2) := by decide +kernel
theorem dX9_isBefore_14 : decode cX9_isBefore 14 = .ok (.iload_n 1, 1) := by decide +kernel
theorem dX9_isBefore_15 : decode cX9_isBefore 15 = .ok (.iconst 1, 1) := by decide +kernel
theorem dX9_isBefore_16 : decode cX9_isBefore 16 = .ok (.iconst 2, 1) := by decide +kernel
theorem dX9_isBefore_17 : decode cX9_isBefore 17 = .ok (.invokestatic 43, 3) := by decide +kernel
theorem dX9_isBefore_20 : decode cX9_isBefore 20 = .ok (.ifCond .eq 43, 3) := by decide +kernel
theorem dX9_isBefore_23 : decode cX9_isBefore 23 = .ok (.aload_n 0, 1) := by decide +kernel
theorem dX9_isBefore_24 : decode cX9_isBefore 24 = .ok (.iload_n 2, 1) := by decide +kernel
theorem dX9_isBefore_25 : decode cX9_isBefore 25 = .ok (.iload 4, 2) := by decide +kernel
theorem dX9_isBefore_27 : decode cX9_isBefore 27 = .ok (.invokevirtual 182, 3) := by decide +kernel
theorem dX9_isBefore_30 : decode cX9_isBefore 30 = .ok (.aload_n 0, 1) := by decide +kernel
theorem dX9_isBefore_31 : decode cX9_isBefore 31 = .ok (.iload_n 3, 1) := by decide +kernel
theorem dX9_isBefore_32 : decode cX9_isBefore 32 = .ok (.iload 4, 2) := by decide +kernel
theorem dX9_isBefore_34 : decode cX9_isBefore 34 = .ok (.invokevirtual 182, 3) := by decide +kernel
theorem dX9_isBefore_37 : decode cX9_isBefore 37 = .ok (.if_icmp .eq 26, 3) := by decide +kernel
theorem dX9_isBefore_40 : decode cX9_isBefore 40 = .ok (.aload_n 0, 1) := by decide +kernel
theorem dX9_isBefore_41 : decode cX9_isBefore 41 = .ok (.iload_n 2, 1) := by decide +kernel
theorem dX9_isBefore_42 : decode cX9_isBefore 42 = .ok (.iload 4, 2) := by decide +kernel
theorem dX9_isBefore_44 : decode cX9_isBefore 44 = .ok (.invokevirtual 182, 3) := by decide +kernel
theorem dX9_isBefore_47 : decode cX9_isBefore 47 = .ok (.aload_n 0, 1) := by decide +kernel
theorem dX9_isBefore_48 : decode cX9_isBefore 48 = .ok (.iload_n 3, 1) := by decide +kernel
theorem dX9_isBefore_49 : decode cX9_isBefore 49 = .ok (.iload 4, 2) := by decide +kernel
theorem dX9_isBefore_51 : decode cX9_isBefore 51 = .ok (.invokevirtual 182, 3) := by decide +kernel
theorem dX9_isBefore_54 : decode cX9_isBefore 54 = .ok (.if_icmp .le 7, 3) := by decide +kernel
theorem dX9_isBefore_57 : decode cX9_isBefore 57 = .ok (.iconst 1, 1) := by decide +kernel
theorem dX9_isBefore_58 : decode cX9_isBefore 58 = .ok (.goto 4, 3) := by decide +kernel
theorem dX9_isBefore_61 : decode cX9_isBefore 61 = .ok (.iconst 0, 1) := by decide +kernel
theorem dX9_isBefore_62 : decode cX9_isBefore 62 = .ok (.ireturn, 1) := by decide +kernel
theorem dX9_isBefore_63 : decode cX9_isBefore 63 = .ok (.aload_n 0, 1) := by decide +kernel
theorem dX9_isBefore_64 : decode cX9_isBefore 64 = .ok (.iload_n 2, 1) := by decide +kernel
theorem dX9_isBefore_65 : decode cX9_isBefore 65 = .ok (.iload_n 3, 1) := by decide +kernel
theorem dX9_isBefore_66 : decode cX9_isBefore 66 = .ok (.iconst 0, 1) := by decide +kernel
theorem dX9_isBefore_67 : decode cX9_isBefore 67 = .ok (.iconst (-1), 1) := by decide +kernel
theorem dX9_isBefore_68 : decode cX9_isBefore 68 = .ok (.invokevirtual 201, 3) := by decide +kernel
theorem dX9_isBefore_71 : decode cX9_isBefore 71 = .ok (.ireturn, 1) := by decide +kernel
set_option maxRecDepth 20000 in
theorem ggX9_ranks_X9_closedMany : GoodIn wsX9_ranks wsX9_closedMany := goodIn_r _ [8, 2, 71, 72, 73, 74, 75, 76, 77, 78, 79, 80, 81, 82, 83, 84, 85, 86, 87, 88] rfl (by decide +kernel)
set_option maxRecDepth 20000 in
theorem gX9_ranks_X9_closedMany : GoodIn wsX9_ranks (wsV RX9 176 RX9 yX9_closedMany wsX9_closedMany) := goodIn_app (goodIn_of _ (by decide +kernel)) ggX9_ranks_X9_closedMany
set_option maxRecDepth 20000 in
theorem ggX9_ranks_X9_ranksTeams : GoodIn wsX9_ranks wsX9_ranksTeams := goodIn_r _ [12, 2, 1, 3, 13, 14, 15, 7, 16, 17, 18, 19, 20, 21, 22, 23, 24, 25, 26, 27, 28, 29, 30, 31, 4, 5, 6, 8, 32, 33, 34, 35, 36, 37, 38, 39, 40, 41, 42, 43, 44, 45, 46, 71, 72, 73, 74, 75, 76, 77, 78, 79, 80, 81, 82, 83, 84, 85, 86, 87, 88] rfl (by decide +kernel)
set_option maxRecDepth 20000 in
theorem gX9_ranks_X9_ranksTeams : GoodIn wsX9_ranks (wsV RX9 208 RX9 yX9_ranksTeams wsX9_ranksTeams) := goodIn_app (goodIn_of _ (by decide +kernel)) ggX9_ranks_X9_ranksTeams
set_option maxRecDepth 20000 in
theorem ggX9_ranks_X9_isOn : GoodIn wsX9_ranks wsX9_isOn := goodIn_r _ [50, 2, 17, 18, 19, 7, 20, 21, 22, 23, 24, 25, 26, 27, 51, 52, 53, 54, 4, 5, 6, 8, 41, 42, 43, 71, 72, 73, 74, 75, 76, 77, 78, 79, 80, 81, 82, 83, 84, 85, 86, 87, 88] rfl (by decide +kernel)
set_option maxRecDepth 20000 in
theorem gX9_ranks_X9_isOn : GoodIn wsX9_ranks (wsV RX9 211 RX9 yX9_isOn wsX9_isOn) := goodIn_app (goodIn_of _ (by decide +kernel)) ggX9_ranks_X9_isOn
set_option maxRecDepth 20000 in
theorem ggX9_ranks_X9_isBefore : GoodIn wsX9_ranks wsX9_isBefore := goodIn_r _ [58, 25, 26, 7, 27, 51, 52, 53, 54, 2, 4, 5, 6, 8, 41, 42, 43, 59, 60, 61, 62, 63, 64, 65, 66, 37, 38, 39, 40, 44, 45, 46, 67, 68, 69, 70, 71, 72, 73, 74, 75, 76, 77, 78, 79, 80, 81, 82, 83, 84, 85, 86, 87, 88] rfl (by decide +kernel)
set_option maxRecDepth 20000 in
theorem gX9_ranks_X9_isBefore : GoodIn wsX9_ranks (wsV RX9 214 RX9 yX9_isBefore wsX9_isBefore) := goodIn_app (goodIn_of _ (by decide +kernel)) ggX9_ranks_X9_isBefore
theorem dX9_ranks_0 : decode cX9_ranks 0 = .ok (.aload_n 0, 1) := by decide +kernel
theorem dX9_ranks_1 : decode cX9_ranks 1 = .ok (.iconst 0, 1) := by decide +kernel
theorem dX9_ranks_2 : decode cX9_ranks 2 = .ok (.putfield 205, 3) := by decide +kernel
theorem dX9_ranks_5 : decode cX9_ranks 5 = .ok (.aload_n 0, 1) := by decide +kernel
theorem dX9_ranks_6 : decode cX9_ranks 6 = .ok (.invokevirtual 176, 3) := by decide +kernel
theorem dX9_ranks_9 : decode cX9_ranks 9 = .ok (.ifCond .ne 4, 3) := by decide +kernel
theorem dX9_ranks_12 : decode cX9_ranks 12 = .ok (.return_, 1) := by decide +kernel
theorem dX9_ranks_13 : decode cX9_ranks 13 = .ok (.iload_n 1, 1) := by decide +kernel
theorem dX9_ranks_14 : decode cX9_ranks 14 = .ok (.iconst 4, 1) := by decide +kernel
theorem dX9_ranks_15 : decode cX9_ranks 15 = .ok (.if_icmp .ne 8, 3) := by decide +kernel
theorem dX9_ranks_18 : decode cX9_ranks 18 = .ok (.aload_n 0, 1) := by decide +kernel
theorem dX9_ranks_19 : decode cX9_ranks 19 = .ok (.invokevirtual 208, 3) := by decide +kernel
theorem dX9_ranks_22 : decode cX9_ranks 22 = .ok (.return_, 1) := by decide +kernel
theorem dX9_ranks_23 : decode cX9_ranks 23 = .ok (.iconst 0, 1) := by decide +kernel
theorem dX9_ranks_24 : decode cX9_ranks 24 = .ok (.istore_n 2, 1) := by decide +kernel
theorem dX9_ranks_25 : decode cX9_ranks 25 = .ok (.iload_n 2, 1) := by decide +kernel
theorem dX9_ranks_26 : decode cX9_ranks 26 = .ok (.aload_n 0, 1) := by decide +kernel
theorem dX9_ranks_27 : decode cX9_ranks 27 = .ok (.getfield 7, 3) := by decide +kernel
theorem dX9_ranks_30 : decode cX9_ranks 30 = .ok (.iconst 1, 1) := by decide +kernel
theorem dX9_ranks_31 : decode cX9_ranks 31 = .ok (.iaload, 1) := by decide +kernel
theorem dX9_ranks_32 : decode cX9_ranks 32 = .ok (.if_icmp .ge 84, 3) := by decide +kernel
theorem dX9_ranks_35 : decode cX9_ranks 35 = .ok (.aload_n 0, 1) := by decide +kernel
theorem dX9_ranks_36 : decode cX9_ranks 36 = .ok (.iload_n 1, 1) := by decide +kernel
theorem dX9_ranks_37 : decode cX9_ranks 37 = .ok (.iload_n 2, 1) := by decide +kernel
theorem dX9_ranks_38 : decode cX9_ranks 38 = .ok (.invokevirtual 211, 3) := by decide +kernel
theorem dX9_ranks_41 : decode cX9_ranks 41 = .ok (.ifCond .ne 6, 3) := by decide +kernel
theorem dX9_ranks_44 : decode cX9_ranks 44 = .ok (.goto 66, 3) := by decide +kernel
theorem dX9_ranks_47 : decode cX9_ranks 47 = .ok (.aload_n 0, 1) := by decide +kernel
theorem dX9_ranks_48 : decode cX9_ranks 48 = .ok (.getfield 205, 3) := by decide +kernel
theorem dX9_ranks_51 : decode cX9_ranks 51 = .ok (.istore_n 3, 1) := by decide +kernel
theorem dX9_ranks_52 : decode cX9_ranks 52 = .ok (.iload_n 3, 1) := by decide +kernel
theorem dX9_ranks_53 : decode cX9_ranks 53 = .ok (.ifCond .le 40, 3) := by decide +kernel
theorem dX9_ranks_56 : decode cX9_ranks 56 = .ok (.aload_n 0, 1) := by decide +kernel
theorem dX9_ranks_57 : decode cX9_ranks 57 = .ok (.iload_n 1, 1) := by decide +kernel
theorem dX9_ranks_58 : decode cX9_ranks 58 = .ok (.iload_n 2, 1) := by decide +kernel
theorem dX9_ranks_59 : decode cX9_ranks 59 = .ok (.aload_n 0, 1) := by decide +kernel
theorem dX9_ranks_60 : decode cX9_ranks 60 = .ok (.getfield 26, 3) := by decide +kernel
theorem dX9_ranks_63 : decode cX9_ranks 63 = .ok (.iload_n 3, 1) := by decide +kernel
theorem dX9_ranks_64 : decode cX9_ranks 64 = .ok (.iconst 1, 1) := by decide +kernel
theorem dX9_ranks_65 : decode cX9_ranks 65 = .ok (.isub, 1) := by decide +kernel
theorem dX9_ranks_66 : decode cX9_ranks 66 = .ok (.iaload, 1) := by decide +kernel
theorem dX9_ranks_67 : decode cX9_ranks 67 = .ok (.invokevirtual 214, 3) := by decide +kernel
theorem dX9_ranks_70 : decode cX9_ranks 70 = .ok (.ifCond .eq 23, 3) := by decide +kernel
theorem dX9_ranks_73 : decode cX9_ranks 73 = .ok (.aload_n 0, 1) := by decide +kernel
theorem dX9_ranks_74 : decode cX9_ranks 74 = .ok (.getfield 26, 3) := by decide +kernel
theorem dX9_ranks_77 : decode cX9_ranks 77 = .ok (.iload_n 3, 1) := by decide +kernel
theorem dX9_ranks_78 : decode cX9_ranks 78 = .ok (.aload_n 0, 1) := by decide +kernel
theorem dX9_ranks_79 : decode cX9_ranks 79 = .ok (.getfield 26, 3) := by decide +kernel
theorem dX9_ranks_82 : decode cX9_ranks 82 = .ok (.iload_n 3, 1) := by decide +kernel
theorem dX9_ranks_83 : decode cX9_ranks 83 = .ok (.iconst 1, 1) := by decide +kernel
theorem dX9_ranks_84 : decode cX9_ranks 84 = .ok (.isub, 1) := by decide +kernel
theorem dX9_ranks_85 : decode cX9_ranks 85 = .ok (.iaload, 1) := by decide +kernel
theorem dX9_ranks_86 : decode cX9_ranks 86 = .ok (.iastore, 1) := by decide +kernel
theorem dX9_ranks_87 : decode cX9_ranks 87 = .ok (.iinc 3 (-1), 3) := by decide +kernel
theorem dX9_ranks_90 : decode cX9_ranks 90 = .ok (.goto (-38), 3) := by decide +kernel
theorem dX9_ranks_93 : decode cX9_ranks 93 = .ok (.aload_n 0, 1) := by decide +kernel
theorem dX9_ranks_94 : decode cX9_ranks 94 = .ok (.getfield 26, 3) := by decide +kernel
theorem dX9_ranks_97 : decode cX9_ranks 97 = .ok (.iload_n 3, 1) := by decide +kernel
theorem dX9_ranks_98 : decode cX9_ranks 98 = .ok (.iload_n 2, 1) := by decide +kernel
theorem dX9_ranks_99 : decode cX9_ranks 99 = .ok (.iastore, 1) := by decide +kernel
theorem dX9_ranks_100 : decode cX9_ranks 100 = .ok (.aload_n 0, 1) := by decide +kernel
theorem dX9_ranks_101 : decode cX9_ranks 101 = .ok (.dup, 1) := by decide +kernel
theorem dX9_ranks_102 : decode cX9_ranks 102 = .ok (.getfield 205, 3) := by decide +kernel
theorem dX9_ranks_105 : decode cX9_ranks 105 = .ok (.iconst 1, 1) := by decide +kernel
theorem dX9_ranks_106 : decode cX9_ranks 106 = .ok (.iadd, 1) := by decide +kernel
theorem dX9_ranks_107 : decode cX9_ranks 107 = .ok (.putfield 205, 3) := by decide +kernel
theorem dX9_ranks_110 : decode cX9_ranks 110 = .ok (.iinc 2 1, 3) := by decide +kernel
theorem dX9_ranks_113 : decode cX9_ranks 113 = .ok (.goto (-88), 3) := by decide +kernel
theorem dX9_ranks_116 : decode cX9_ranks 116 = .ok (.return_, 1) := by decide +kernel
set_option maxRecDepth 20000 in
theorem ggX9_isTeamOn_X9_isThere : GoodIn wsX9_isTeamOn wsX9_isThere := goodIn_r _ [6, 1, 7, 8, 9, 5, 10, 11, 12, 13, 14, 15, 16, 17, 18, 19, 20, 21, 22, 23, 24, 25, 26, 27, 28, 29, 30, 31] rfl (by decide +kernel)
set_option maxRecDepth 20000 in
theorem gX9_isTeamOn_X9_isThere : GoodIn wsX9_isTeamOn (wsV RX9 59 RX9 yX9_isThere wsX9_isThere) := goodIn_app (goodIn_of _ (by decide +kernel)) ggX9_isTeamOn_X9_isThere
theorem dX9_isTeamOn_0 : decode cX9_isTeamOn 0 = .ok (.iconst 0, 1) := by decide +kernel
theorem dX9_isTeamOn_1 : decode cX9_isTeamOn 1 = .ok (.istore_n 2, 1) := by decide +kernel
theorem dX9_isTeamOn_2 : decode cX9_isTeamOn 2 = .ok (.iconst 0, 1) := by decide +kernel
theorem dX9_isTeamOn_3 : decode cX9_isTeamOn 3 = .ok (.istore_n 3, 1) := by decide +kernel
theorem dX9_isTeamOn_4 : decode cX9_isTeamOn 4 = .ok (.iload_n 3, 1) := by decide +kernel
theorem dX9_isTeamOn_5 : decode cX9_isTeamOn 5 = .ok (.aload_n 0, 1) := by decide +kernel
theorem dX9_isTeamOn_6 : decode cX9_isTeamOn 6 = .ok (.getfield 7, 3) := by decide +kernel
theorem dX9_isTeamOn_9 : decode cX9_isTeamOn 9 = .ok (.iconst 1, 1) := by decide +kernel
theorem dX9_isTeamOn_10 : decode cX9_isTeamOn 10 = .ok (.iaload, 1) := by decide +kernel
theorem dX9_isTeamOn_11 : decode cX9_isTeamOn 11 = .ok (.if_icmp .ge 40, 3) := by decide +kernel
theorem dX9_isTeamOn_14 : decode cX9_isTeamOn 14 = .ok (.iload_n 2, 1) := by decide +kernel
theorem dX9_isTeamOn_15 : decode cX9_isTeamOn 15 = .ok (.aload_n 0, 1) := by decide +kernel
theorem dX9_isTeamOn_16 : decode cX9_isTeamOn 16 = .ok (.iload_n 3, 1) := by decide +kernel
theorem dX9_isTeamOn_17 : decode cX9_isTeamOn 17 = .ok (.invokevirtual 59, 3) := by decide +kernel
theorem dX9_isTeamOn_20 : decode cX9_isTeamOn 20 = .ok (.ifCond .eq 22, 3) := by decide +kernel
theorem dX9_isTeamOn_23 : decode cX9_isTeamOn 23 = .ok (.aload_n 0, 1) := by decide +kernel
theorem dX9_isTeamOn_24 : decode cX9_isTeamOn 24 = .ok (.getfield 7, 3) := by decide +kernel
theorem dX9_isTeamOn_27 : decode cX9_isTeamOn 27 = .ok (.bipush 8, 2) := by decide +kernel
theorem dX9_isTeamOn_29 : decode cX9_isTeamOn 29 = .ok (.iconst 3, 1) := by decide +kernel
theorem dX9_isTeamOn_30 : decode cX9_isTeamOn 30 = .ok (.iload_n 3, 1) := by decide +kernel
theorem dX9_isTeamOn_31 : decode cX9_isTeamOn 31 = .ok (.imul, 1) := by decide +kernel
theorem dX9_isTeamOn_32 : decode cX9_isTeamOn 32 = .ok (.iadd, 1) := by decide +kernel
theorem dX9_isTeamOn_33 : decode cX9_isTeamOn 33 = .ok (.iaload, 1) := by decide +kernel
theorem dX9_isTeamOn_34 : decode cX9_isTeamOn 34 = .ok (.iload_n 1, 1) := by decide +kernel
theorem dX9_isTeamOn_35 : decode cX9_isTeamOn 35 = .ok (.if_icmp .ne 7, 3) := by decide +kernel
theorem dX9_isTeamOn_38 : decode cX9_isTeamOn 38 = .ok (.iconst 1, 1) := by decide +kernel
theorem dX9_isTeamOn_39 : decode cX9_isTeamOn 39 = .ok (.goto 4, 3) := by decide +kernel
theorem dX9_isTeamOn_42 : decode cX9_isTeamOn 42 = .ok (.iconst 0, 1) := by decide +kernel
theorem dX9_isTeamOn_43 : decode cX9_isTeamOn 43 = .ok (.iadd, 1) := by decide +kernel
theorem dX9_isTeamOn_44 : decode cX9_isTeamOn 44 = .ok (.istore_n 2, 1) := by decide +kernel
theorem dX9_isTeamOn_45 : decode cX9_isTeamOn 45 = .ok (.iinc 3 1, 3) := by decide +kernel
theorem dX9_isTeamOn_48 : decode cX9_isTeamOn 48 = .ok (.goto (-44), 3) := by decide +kernel
theorem dX9_isTeamOn_51 : decode cX9_isTeamOn 51 = .ok (.iload_n 2, 1) := by decide +kernel
theorem dX9_isTeamOn_52 : decode cX9_isTeamOn 52 = .ok (.iconst 2, 1) := by decide +kernel
theorem dX9_isTeamOn_53 : decode cX9_isTeamOn 53 = .ok (.if_icmp .le 7, 3) := by decide +kernel
theorem dX9_isTeamOn_56 : decode cX9_isTeamOn 56 = .ok (.iconst 1, 1) := by decide +kernel
theorem dX9_isTeamOn_57 : decode cX9_isTeamOn 57 = .ok (.goto 4, 3) := by decide +kernel
theorem dX9_isTeamOn_60 : decode cX9_isTeamOn 60 = .ok (.iconst 0, 1) := by decide +kernel
theorem dX9_isTeamOn_61 : decode cX9_isTeamOn 61 = .ok (.ireturn, 1) := by decide +kernel
set_option maxRecDepth 20000 in
theorem ggX9_threeOf_X9_hasFinish : GoodIn wsX9_threeOf wsX9_hasFinish := goodIn_r _ [7, 1, 8, 9, 6, 10, 14, 15, 16, 17, 18, 19, 20, 21, 22, 23, 24, 25, 26, 27, 28, 29, 30, 31] rfl (by decide +kernel)
set_option maxRecDepth 20000 in
theorem gX9_threeOf_X9_hasFinish : GoodIn wsX9_threeOf (wsV RX9 55 RX9 yX9_hasFinish wsX9_hasFinish) := goodIn_app (goodIn_of _ (by decide +kernel)) ggX9_threeOf_X9_hasFinish
set_option maxRecDepth 20000 in
theorem ggX9_threeOf_X9_at_ : GoodIn wsX9_threeOf wsX9_at_ := goodIn_r _ [10] rfl (by decide +kernel)
set_option maxRecDepth 20000 in
theorem gX9_threeOf_X9_at_ : GoodIn wsX9_threeOf (va_wsS RX9 51 yX9_at_ wsX9_at_) := goodIn_app (goodIn_of _ (by decide +kernel)) ggX9_threeOf_X9_at_
set_option maxRecDepth 20000 in
theorem ggX9_threeOf_X9_at : GoodIn wsX9_threeOf wsX9_at := goodIn_r _ [13] rfl (by decide +kernel)
set_option maxRecDepth 20000 in
theorem gX9_threeOf_X9_at : GoodIn wsX9_threeOf (va_wsS RX9 87 yX9_at wsX9_at) := goodIn_app (goodIn_of _ (by decide +kernel)) ggX9_threeOf_X9_at
theorem dX9_threeOf_0 : decode cX9_threeOf 0 = .ok (.iconst 0, 1) := by decide +kernel
theorem dX9_threeOf_1 : decode cX9_threeOf 1 = .ok (.istore_n 3, 1) := by decide +kernel
theorem dX9_threeOf_2 : decode cX9_threeOf 2 = .ok (.iconst 0, 1) := by decide +kernel
theorem dX9_threeOf_3 : decode cX9_threeOf 3 = .ok (.istore 4, 2) := by decide +kernel
theorem dX9_threeOf_5 : decode cX9_threeOf 5 = .ok (.iload 4, 2) := by decide +kernel
theorem dX9_threeOf_7 : decode cX9_threeOf 7 = .ok (.aload_n 0, 1) := by decide +kernel
theorem dX9_threeOf_8 : decode cX9_threeOf 8 = .ok (.getfield 7, 3) := by decide +kernel
theorem dX9_threeOf_11 : decode cX9_threeOf 11 = .ok (.iconst 1, 1) := by decide +kernel
theorem dX9_threeOf_12 : decode cX9_threeOf 12 = .ok (.iaload, 1) := by decide +kernel
theorem dX9_threeOf_13 : decode cX9_threeOf 13 = .ok (.if_icmp .ge 137, 3) := by decide +kernel
theorem dX9_threeOf_16 : decode cX9_threeOf 16 = .ok (.aload_n 0, 1) := by decide +kernel
theorem dX9_threeOf_17 : decode cX9_threeOf 17 = .ok (.getfield 7, 3) := by decide +kernel
theorem dX9_threeOf_20 : decode cX9_threeOf 20 = .ok (.bipush 8, 2) := by decide +kernel
theorem dX9_threeOf_22 : decode cX9_threeOf 22 = .ok (.iconst 3, 1) := by decide +kernel
theorem dX9_threeOf_23 : decode cX9_threeOf 23 = .ok (.iload 4, 2) := by decide +kernel
theorem dX9_threeOf_25 : decode cX9_threeOf 25 = .ok (.imul, 1) := by decide +kernel
theorem dX9_threeOf_26 : decode cX9_threeOf 26 = .ok (.iadd, 1) := by decide +kernel
theorem dX9_threeOf_27 : decode cX9_threeOf 27 = .ok (.iaload, 1) := by decide +kernel
theorem dX9_threeOf_28 : decode cX9_threeOf 28 = .ok (.iload_n 2, 1) := by decide +kernel
theorem dX9_threeOf_29 : decode cX9_threeOf 29 = .ok (.if_icmp .ne 115, 3) := by decide +kernel
theorem dX9_threeOf_32 : decode cX9_threeOf 32 = .ok (.aload_n 0, 1) := by decide +kernel
theorem dX9_threeOf_33 : decode cX9_threeOf 33 = .ok (.iload_n 1, 1) := by decide +kernel
theorem dX9_threeOf_34 : decode cX9_threeOf 34 = .ok (.iload 4, 2) := by decide +kernel
theorem dX9_threeOf_36 : decode cX9_threeOf 36 = .ok (.invokevirtual 55, 3) := by decide +kernel
theorem dX9_threeOf_39 : decode cX9_threeOf 39 = .ok (.ifCond .ne 6, 3) := by decide +kernel
theorem dX9_threeOf_42 : decode cX9_threeOf 42 = .ok (.goto 102, 3) := by decide +kernel
theorem dX9_threeOf_45 : decode cX9_threeOf 45 = .ok (.aload_n 0, 1) := by decide +kernel
theorem dX9_threeOf_46 : decode cX9_threeOf 46 = .ok (.getfield 7, 3) := by decide +kernel
theorem dX9_threeOf_49 : decode cX9_threeOf 49 = .ok (.iload_n 1, 1) := by decide +kernel
theorem dX9_threeOf_50 : decode cX9_threeOf 50 = .ok (.iload 4, 2) := by decide +kernel
theorem dX9_threeOf_52 : decode cX9_threeOf 52 = .ok (.bipush 6, 2) := by decide +kernel
theorem dX9_threeOf_54 : decode cX9_threeOf 54 = .ok (.invokestatic 51, 3) := by decide +kernel
theorem dX9_threeOf_57 : decode cX9_threeOf 57 = .ok (.iaload, 1) := by decide +kernel
theorem dX9_threeOf_58 : decode cX9_threeOf 58 = .ok (.istore 5, 2) := by decide +kernel
theorem dX9_threeOf_60 : decode cX9_threeOf 60 = .ok (.iload_n 3, 1) := by decide +kernel
theorem dX9_threeOf_61 : decode cX9_threeOf 61 = .ok (.iconst 3, 1) := by decide +kernel
theorem dX9_threeOf_62 : decode cX9_threeOf 62 = .ok (.if_icmp .ge 7, 3) := by decide +kernel
theorem dX9_threeOf_65 : decode cX9_threeOf 65 = .ok (.iload_n 3, 1) := by decide +kernel
theorem dX9_threeOf_66 : decode cX9_threeOf 66 = .ok (.goto 4, 3) := by decide +kernel
theorem dX9_threeOf_69 : decode cX9_threeOf 69 = .ok (.iconst 2, 1) := by decide +kernel
theorem dX9_threeOf_70 : decode cX9_threeOf 70 = .ok (.istore 6, 2) := by decide +kernel
theorem dX9_threeOf_72 : decode cX9_threeOf 72 = .ok (.iload_n 3, 1) := by decide +kernel
theorem dX9_threeOf_73 : decode cX9_threeOf 73 = .ok (.iconst 3, 1) := by decide +kernel
theorem dX9_threeOf_74 : decode cX9_threeOf 74 = .ok (.if_icmp .lt 17, 3) := by decide +kernel
theorem dX9_threeOf_77 : decode cX9_threeOf 77 = .ok (.aload_n 0, 1) := by decide +kernel
theorem dX9_threeOf_78 : decode cX9_threeOf 78 = .ok (.getfield 29, 3) := by decide +kernel
theorem dX9_threeOf_81 : decode cX9_threeOf 81 = .ok (.iconst 2, 1) := by decide +kernel
theorem dX9_threeOf_82 : decode cX9_threeOf 82 = .ok (.iaload, 1) := by decide +kernel
theorem dX9_threeOf_83 : decode cX9_threeOf 83 = .ok (.iload 5, 2) := by decide +kernel
theorem dX9_threeOf_85 : decode cX9_threeOf 85 = .ok (.if_icmp .gt 6, 3) := by decide +kernel
theorem dX9_threeOf_88 : decode cX9_threeOf 88 = .ok (.goto 56, 3) := by decide +kernel
theorem dX9_threeOf_91 : decode cX9_threeOf 91 = .ok (.iload 6, 2) := by decide +kernel
theorem dX9_threeOf_93 : decode cX9_threeOf 93 = .ok (.ifCond .le 39, 3) := by decide +kernel
theorem dX9_threeOf_96 : decode cX9_threeOf 96 = .ok (.aload_n 0, 1) := by decide +kernel
theorem dX9_threeOf_97 : decode cX9_threeOf 97 = .ok (.getfield 29, 3) := by decide +kernel
theorem dX9_threeOf_100 : decode cX9_threeOf 100 = .ok (.iload 6, 2) := by decide +kernel
theorem dX9_threeOf_102 : decode cX9_threeOf 102 = .ok (.iconst 1, 1) := by decide +kernel
theorem dX9_threeOf_103 : decode cX9_threeOf 103 = .ok (.isub, 1) := by decide +kernel
theorem dX9_threeOf_104 : decode cX9_threeOf 104 = .ok (.iaload, 1) := by decide +kernel
theorem dX9_threeOf_105 : decode cX9_threeOf 105 = .ok (.iload 5, 2) := by decide +kernel
theorem dX9_threeOf_107 : decode cX9_threeOf 107 = .ok (.if_icmp .le 25, 3) := by decide +kernel
theorem dX9_threeOf_110 : decode cX9_threeOf 110 = .ok (.aload_n 0, 1) := by decide +kernel
theorem dX9_threeOf_111 : decode cX9_threeOf 111 = .ok (.getfield 29, 3) := by decide +kernel
theorem dX9_threeOf_114 : decode cX9_threeOf 114 = .ok (.iload 6, 2) := by decide +kernel
theorem dX9_threeOf_116 : decode cX9_threeOf 116 = .ok (.aload_n 0, 1) := by decide +kernel
theorem dX9_threeOf_117 : decode cX9_threeOf 117 = .ok (.getfield 29, 3) := by decide +kernel
theorem dX9_threeOf_120 : decode cX9_threeOf 120 = .ok (.iload 6, 2) := by decide +kernel
theorem dX9_threeOf_122 : decode cX9_threeOf 122 = .ok (.iconst 1, 1) := by decide +kernel
theorem dX9_threeOf_123 : decode cX9_threeOf 123 = .ok (.isub, 1) := by decide +kernel
theorem dX9_threeOf_124 : decode cX9_threeOf 124 = .ok (.iaload, 1) := by decide +kernel
theorem dX9_threeOf_125 : decode cX9_threeOf 125 = .ok (.iastore, 1) := by decide +kernel
theorem dX9_threeOf_126 : decode cX9_threeOf 126 = .ok (.iinc 6 (-1), 3) := by decide +kernel
theorem dX9_threeOf_129 : decode cX9_threeOf 129 = .ok (.goto (-38), 3) := by decide +kernel
theorem dX9_threeOf_132 : decode cX9_threeOf 132 = .ok (.aload_n 0, 1) := by decide +kernel
theorem dX9_threeOf_133 : decode cX9_threeOf 133 = .ok (.getfield 29, 3) := by decide +kernel
theorem dX9_threeOf_136 : decode cX9_threeOf 136 = .ok (.iload 6, 2) := by decide +kernel
theorem dX9_threeOf_138 : decode cX9_threeOf 138 = .ok (.iload 5, 2) := by decide +kernel
theorem dX9_threeOf_140 : decode cX9_threeOf 140 = .ok (.iastore, 1) := by decide +kernel
theorem dX9_threeOf_141 : decode cX9_threeOf 141 = .ok (.iinc 3 1, 3) := by decide +kernel
theorem dX9_threeOf_144 : decode cX9_threeOf 144 = .ok (.iinc 4 1, 3) := by decide +kernel
theorem dX9_threeOf_147 : decode cX9_threeOf 147 = .ok (.goto (-142), 3) := by decide +kernel
theorem dX9_threeOf_150 : decode cX9_threeOf 150 = .ok (.iload_n 3, 1) := by decide +kernel
theorem dX9_threeOf_151 : decode cX9_threeOf 151 = .ok (.iconst 3, 1) := by decide +kernel
theorem dX9_threeOf_152 : decode cX9_threeOf 152 = .ok (.if_icmp .ge 19, 3) := by decide +kernel
theorem dX9_threeOf_155 : decode cX9_threeOf 155 = .ok (.iconst 3, 1) := by decide +kernel
theorem dX9_threeOf_156 : decode cX9_threeOf 156 = .ok (.aload_n 0, 1) := by decide +kernel
theorem dX9_threeOf_157 : decode cX9_threeOf 157 = .ok (.getfield 7, 3) := by decide +kernel
theorem dX9_threeOf_160 : decode cX9_threeOf 160 = .ok (.iload_n 1, 1) := by decide +kernel
theorem dX9_threeOf_161 : decode cX9_threeOf 161 = .ok (.bipush 9, 2) := by decide +kernel
theorem dX9_threeOf_163 : decode cX9_threeOf 163 = .ok (.invokestatic 87, 3) := by decide +kernel
theorem dX9_threeOf_166 : decode cX9_threeOf 166 = .ok (.iaload, 1) := by decide +kernel
theorem dX9_threeOf_167 : decode cX9_threeOf 167 = .ok (.imul, 1) := by decide +kernel
theorem dX9_threeOf_168 : decode cX9_threeOf 168 = .ok (.goto 23, 3) := by decide +kernel
theorem dX9_threeOf_171 : decode cX9_threeOf 171 = .ok (.aload_n 0, 1) := by decide +kernel
theorem dX9_threeOf_172 : decode cX9_threeOf 172 = .ok (.getfield 29, 3) := by decide +kernel
theorem dX9_threeOf_175 : decode cX9_threeOf 175 = .ok (.iconst 0, 1) := by decide +kernel
theorem dX9_threeOf_176 : decode cX9_threeOf 176 = .ok (.iaload, 1) := by decide +kernel
theorem dX9_threeOf_177 : decode cX9_threeOf 177 = .ok (.aload_n 0, 1) := by decide +kernel
theorem dX9_threeOf_178 : decode cX9_threeOf 178 = .ok (.getfield 29, 3) := by decide +kernel
theorem dX9_threeOf_181 : decode cX9_threeOf 181 = .ok (.iconst 1, 1) := by decide +kernel
theorem dX9_threeOf_182 : decode cX9_threeOf 182 = .ok (.iaload, 1) := by decide +kernel
theorem dX9_threeOf_183 : decode cX9_threeOf 183 = .ok (.iadd, 1) := by decide +kernel
theorem dX9_threeOf_184 : decode cX9_threeOf 184 = .ok (.aload_n 0, 1) := by decide +kernel
theorem dX9_threeOf_185 : decode cX9_threeOf 185 = .ok (.getfield 29, 3) := by decide +kernel
theorem dX9_threeOf_188 : decode cX9_threeOf 188 = .ok (.iconst 2, 1) := by decide +kernel
theorem dX9_threeOf_189 : decode cX9_threeOf 189 = .ok (.iaload, 1) := by decide +kernel
theorem dX9_threeOf_190 : decode cX9_threeOf 190 = .ok (.iadd, 1) := by decide +kernel
theorem dX9_threeOf_191 : decode cX9_threeOf 191 = .ok (.ireturn, 1) := by decide +kernel
set_option maxRecDepth 20000 in
theorem ggX9_teamTotal_X9_closedMany : GoodIn wsX9_teamTotal wsX9_closedMany := goodIn_r _ [5, 6, 22, 23, 24, 25, 26, 27, 28, 29, 30, 31, 32, 33, 34, 35, 36, 37, 38, 39] rfl (by decide +kernel)
set_option maxRecDepth 20000 in
theorem gX9_teamTotal_X9_closedMany : GoodIn wsX9_teamTotal (wsV RX9 176 RX9 yX9_closedMany wsX9_closedMany) := goodIn_app (goodIn_of _ (by decide +kernel)) ggX9_teamTotal_X9_closedMany
set_option maxRecDepth 20000 in
theorem ggX9_teamTotal_X9_threeOf : GoodIn wsX9_teamTotal wsX9_threeOf := goodIn_r _ [10, 6, 11, 12, 13, 14, 4, 15, 16, 17, 18, 19, 20, 21, 22, 23, 24, 25, 26, 27, 28, 29, 30, 31, 32, 33, 34, 35, 36, 37, 38, 39] rfl (by decide +kernel)
set_option maxRecDepth 20000 in
theorem gX9_teamTotal_X9_threeOf : GoodIn wsX9_teamTotal (wsV RX9 217 RX9 yX9_threeOf wsX9_threeOf) := goodIn_app (goodIn_of _ (by decide +kernel)) ggX9_teamTotal_X9_threeOf
theorem dX9_teamTotal_0 : decode cX9_teamTotal 0 = .ok (.iconst 0, 1) := by decide +kernel
theorem dX9_teamTotal_1 : decode cX9_teamTotal 1 = .ok (.istore_n 2, 1) := by decide +kernel
theorem dX9_teamTotal_2 : decode cX9_teamTotal 2 = .ok (.iconst 0, 1) := by decide +kernel
theorem dX9_teamTotal_3 : decode cX9_teamTotal 3 = .ok (.istore_n 3, 1) := by decide +kernel
theorem dX9_teamTotal_4 : decode cX9_teamTotal 4 = .ok (.iload_n 3, 1) := by decide +kernel
theorem dX9_teamTotal_5 : decode cX9_teamTotal 5 = .ok (.aload_n 0, 1) := by decide +kernel
theorem dX9_teamTotal_6 : decode cX9_teamTotal 6 = .ok (.invokevirtual 176, 3) := by decide +kernel
theorem dX9_teamTotal_9 : decode cX9_teamTotal 9 = .ok (.if_icmp .ge 18, 3) := by decide +kernel
theorem dX9_teamTotal_12 : decode cX9_teamTotal 12 = .ok (.iload_n 2, 1) := by decide +kernel
theorem dX9_teamTotal_13 : decode cX9_teamTotal 13 = .ok (.aload_n 0, 1) := by decide +kernel
theorem dX9_teamTotal_14 : decode cX9_teamTotal 14 = .ok (.iload_n 3, 1) := by decide +kernel
theorem dX9_teamTotal_15 : decode cX9_teamTotal 15 = .ok (.iload_n 1, 1) := by decide +kernel
theorem dX9_teamTotal_16 : decode cX9_teamTotal 16 = .ok (.invokevirtual 217, 3) := by decide +kernel
theorem dX9_teamTotal_19 : decode cX9_teamTotal 19 = .ok (.iadd, 1) := by decide +kernel
theorem dX9_teamTotal_20 : decode cX9_teamTotal 20 = .ok (.istore_n 2, 1) := by decide +kernel
theorem dX9_teamTotal_21 : decode cX9_teamTotal 21 = .ok (.iinc 3 1, 3) := by decide +kernel
theorem dX9_teamTotal_24 : decode cX9_teamTotal 24 = .ok (.goto (-20), 3) := by decide +kernel
theorem dX9_teamTotal_27 : decode cX9_teamTotal 27 = .ok (.iload_n 2, 1) := by decide +kernel
theorem dX9_teamTotal_28 : decode cX9_teamTotal 28 = .ok (.ireturn, 1) := by decide +kernel
set_option maxRecDepth 20000 in
theorem ggX9_ranksTeams_X9_isTeamOn : GoodIn wsX9_ranksTeams wsX9_isTeamOn := goodIn_r _ [8, 1, 9, 10, 11, 7, 12, 13, 14, 15, 16, 17, 18, 19, 43, 44, 45, 46, 47, 48, 49, 50, 51, 52, 53, 54, 55, 56, 57, 58, 59, 60] rfl (by decide +kernel)
set_option maxRecDepth 20000 in
theorem gX9_ranksTeams_X9_isTeamOn : GoodIn wsX9_ranksTeams (wsV RX9 220 RX9 yX9_isTeamOn wsX9_isTeamOn) := goodIn_app (goodIn_of _ (by decide +kernel)) ggX9_ranksTeams_X9_isTeamOn
set_option maxRecDepth 20000 in
theorem ggX9_ranksTeams_X9_teamTotal : GoodIn wsX9_ranksTeams wsX9_teamTotal := goodIn_r _ [23, 24, 25, 26, 7, 27, 1, 28, 29, 30, 31, 32, 33, 34, 35, 36, 37, 38, 39, 40, 41, 42, 43, 44, 45, 46, 47, 48, 49, 50, 51, 52, 53, 54, 55, 56, 57, 58, 59, 60] rfl (by decide +kernel)
set_option maxRecDepth 20000 in
theorem gX9_ranksTeams_X9_teamTotal : GoodIn wsX9_ranksTeams (wsV RX9 223 RX9 yX9_teamTotal wsX9_teamTotal) := goodIn_app (goodIn_of _ (by decide +kernel)) ggX9_ranksTeams_X9_teamTotal
theorem dX9_ranksTeams_0 : decode cX9_ranksTeams 0 = .ok (.iconst 0, 1) := by decide +kernel
theorem dX9_ranksTeams_1 : decode cX9_ranksTeams 1 = .ok (.istore_n 1, 1) := by decide +kernel
theorem dX9_ranksTeams_2 : decode cX9_ranksTeams 2 = .ok (.iload_n 1, 1) := by decide +kernel
theorem dX9_ranksTeams_3 : decode cX9_ranksTeams 3 = .ok (.aload_n 0, 1) := by decide +kernel
theorem dX9_ranksTeams_4 : decode cX9_ranksTeams 4 = .ok (.getfield 7, 3) := by decide +kernel
theorem dX9_ranksTeams_7 : decode cX9_ranksTeams 7 = .ok (.iconst 0, 1) := by decide +kernel
theorem dX9_ranksTeams_8 : decode cX9_ranksTeams 8 = .ok (.iaload, 1) := by decide +kernel
theorem dX9_ranksTeams_9 : decode cX9_ranksTeams 9 = .ok (.if_icmp .ge 86, 3) := by decide +kernel
theorem dX9_ranksTeams_12 : decode cX9_ranksTeams 12 = .ok (.aload_n 0, 1) := by decide +kernel
theorem dX9_ranksTeams_13 : decode cX9_ranksTeams 13 = .ok (.iload_n 1, 1) := by decide +kernel
theorem dX9_ranksTeams_14 : decode cX9_ranksTeams 14 = .ok (.invokevirtual 220, 3) := by decide +kernel
theorem dX9_ranksTeams_17 : decode cX9_ranksTeams 17 = .ok (.ifCond .ne 6, 3) := by decide +kernel
theorem dX9_ranksTeams_20 : decode cX9_ranksTeams 20 = .ok (.goto 69, 3) := by decide +kernel
theorem dX9_ranksTeams_23 : decode cX9_ranksTeams 23 = .ok (.aload_n 0, 1) := by decide +kernel
theorem dX9_ranksTeams_24 : decode cX9_ranksTeams 24 = .ok (.getfield 205, 3) := by decide +kernel
theorem dX9_ranksTeams_27 : decode cX9_ranksTeams 27 = .ok (.istore_n 2, 1) := by decide +kernel
theorem dX9_ranksTeams_28 : decode cX9_ranksTeams 28 = .ok (.iload_n 2, 1) := by decide +kernel
theorem dX9_ranksTeams_29 : decode cX9_ranksTeams 29 = .ok (.ifCond .le 43, 3) := by decide +kernel
theorem dX9_ranksTeams_32 : decode cX9_ranksTeams 32 = .ok (.aload_n 0, 1) := by decide +kernel
theorem dX9_ranksTeams_33 : decode cX9_ranksTeams 33 = .ok (.iload_n 1, 1) := by decide +kernel
theorem dX9_ranksTeams_34 : decode cX9_ranksTeams 34 = .ok (.invokevirtual 223, 3) := by decide +kernel
theorem dX9_ranksTeams_37 : decode cX9_ranksTeams 37 = .ok (.aload_n 0, 1) := by decide +kernel
theorem dX9_ranksTeams_38 : decode cX9_ranksTeams 38 = .ok (.aload_n 0, 1) := by decide +kernel
theorem dX9_ranksTeams_39 : decode cX9_ranksTeams 39 = .ok (.getfield 26, 3) := by decide +kernel
theorem dX9_ranksTeams_42 : decode cX9_ranksTeams 42 = .ok (.iload_n 2, 1) := by decide +kernel
theorem dX9_ranksTeams_43 : decode cX9_ranksTeams 43 = .ok (.iconst 1, 1) := by decide +kernel
theorem dX9_ranksTeams_44 : decode cX9_ranksTeams 44 = .ok (.isub, 1) := by decide +kernel
theorem dX9_ranksTeams_45 : decode cX9_ranksTeams 45 = .ok (.iaload, 1) := by decide +kernel
theorem dX9_ranksTeams_46 : decode cX9_ranksTeams 46 = .ok (.invokevirtual 223, 3) := by decide +kernel
theorem dX9_ranksTeams_49 : decode cX9_ranksTeams 49 = .ok (.if_icmp .ge 23, 3) := by decide +kernel
theorem dX9_ranksTeams_52 : decode cX9_ranksTeams 52 = .ok (.aload_n 0, 1) := by decide +kernel
theorem dX9_ranksTeams_53 : decode cX9_ranksTeams 53 = .ok (.getfield 26, 3) := by decide +kernel
theorem dX9_ranksTeams_56 : decode cX9_ranksTeams 56 = .ok (.iload_n 2, 1) := by decide +kernel
theorem dX9_ranksTeams_57 : decode cX9_ranksTeams 57 = .ok (.aload_n 0, 1) := by decide +kernel
theorem dX9_ranksTeams_58 : decode cX9_ranksTeams 58 = .ok (.getfield 26, 3) := by decide +kernel
theorem dX9_ranksTeams_61 : decode cX9_ranksTeams 61 = .ok (.iload_n 2, 1) := by decide +kernel
theorem dX9_ranksTeams_62 : decode cX9_ranksTeams 62 = .ok (.iconst 1, 1) := by decide +kernel
theorem dX9_ranksTeams_63 : decode cX9_ranksTeams 63 = .ok (.isub, 1) := by decide +kernel
theorem dX9_ranksTeams_64 : decode cX9_ranksTeams 64 = .ok (.iaload, 1) := by decide +kernel
theorem dX9_ranksTeams_65 : decode cX9_ranksTeams 65 = .ok (.iastore, 1) := by decide +kernel
theorem dX9_ranksTeams_66 : decode cX9_ranksTeams 66 = .ok (.iinc 2 (-1), 3) := by decide +kernel
theorem dX9_ranksTeams_69 : decode cX9_ranksTeams 69 = .ok (.goto (-41), 3) := by decide +kernel
theorem dX9_ranksTeams_72 : decode cX9_ranksTeams 72 = .ok (.aload_n 0, 1) := by decide +kernel
theorem dX9_ranksTeams_73 : decode cX9_ranksTeams 73 = .ok (.getfield 26, 3) := by decide +kernel
theorem dX9_ranksTeams_76 : decode cX9_ranksTeams 76 = .ok (.iload_n 2, 1) := by decide +kernel
theorem dX9_ranksTeams_77 : decode cX9_ranksTeams 77 = .ok (.iload_n 1, 1) := by decide +kernel
theorem dX9_ranksTeams_78 : decode cX9_ranksTeams 78 = .ok (.iastore, 1) := by decide +kernel
theorem dX9_ranksTeams_79 : decode cX9_ranksTeams 79 = .ok (.aload_n 0, 1) := by decide +kernel
theorem dX9_ranksTeams_80 : decode cX9_ranksTeams 80 = .ok (.dup, 1) := by decide +kernel
theorem dX9_ranksTeams_81 : decode cX9_ranksTeams 81 = .ok (.getfield 205, 3) := by decide +kernel
theorem dX9_ranksTeams_84 : decode cX9_ranksTeams 84 = .ok (.iconst 1, 1) := by decide +kernel
theorem dX9_ranksTeams_85 : decode cX9_ranksTeams 85 = .ok (.iadd, 1) := by decide +kernel
theorem dX9_ranksTeams_86 : decode cX9_ranksTeams 86 = .ok (.putfield 205, 3) := by decide +kernel
theorem dX9_ranksTeams_89 : decode cX9_ranksTeams 89 = .ok (.iinc 1 1, 3) := by decide +kernel
theorem dX9_ranksTeams_92 : decode cX9_ranksTeams 92 = .ok (.goto (-90), 3) := by decide +kernel
theorem dX9_ranksTeams_95 : decode cX9_ranksTeams 95 = .ok (.return_, 1) := by decide +kernel
set_option maxRecDepth 20000 in
theorem ggX9_list_X9_isIn : GoodIn wsX9_list wsX9_isIn := goodIn_r _ [7] rfl (by decide +kernel)
set_option maxRecDepth 20000 in
theorem gX9_list_X9_isIn : GoodIn wsX9_list (va_wsS RX9 43 yX9_isIn wsX9_isIn) := goodIn_app (goodIn_of _ (by decide +kernel)) ggX9_list_X9_isIn
set_option maxRecDepth 20000 in
theorem ggX9_list_X9_ranks : GoodIn wsX9_list wsX9_ranks := goodIn_r _ [11, 2, 12, 3, 13, 14, 15, 6, 16, 17, 18, 19, 20, 21, 22, 23, 24, 25, 26, 27, 28, 29, 30, 31, 32, 4, 5, 7, 33, 34, 35, 36, 37, 38, 39, 40, 41, 42, 43, 44, 45, 46, 47, 48, 49, 50, 51, 52, 53, 54, 55, 56, 57, 58, 59, 60, 61, 62, 63, 64, 65, 66, 67, 68, 69, 70, 71, 72, 73, 74, 75, 76, 77, 78, 79, 80, 81, 82, 83, 84, 85, 86, 87, 88, 89, 90, 91, 92, 93] rfl (by decide +kernel)
set_option maxRecDepth 20000 in
theorem gX9_list_X9_ranks : GoodIn wsX9_list (wsV RX9 226 RX9 yX9_ranks wsX9_ranks) := goodIn_app (goodIn_of _ (by decide +kernel)) ggX9_list_X9_ranks
theorem dX9_list_0 : decode cX9_list 0 = .ok (.aload_n 0, 1) := by decide +kernel
theorem dX9_list_1 : decode cX9_list 1 = .ok (.iconst 0, 1) := by decide +kernel
theorem dX9_list_2 : decode cX9_list 2 = .ok (.putfield 39, 3) := by decide +kernel
theorem dX9_list_5 : decode cX9_list 5 = .ok (.iload_n 1, 1) := by decide +kernel
theorem dX9_list_6 : decode cX9_list 6 = .ok (.iconst 0, 1) := by decide +kernel
theorem dX9_list_7 : decode cX9_list 7 = .ok (.iconst 4, 1) := by decide +kernel
theorem dX9_list_8 : decode cX9_list 8 = .ok (.invokestatic 43, 3) := by decide +kernel
theorem dX9_list_11 : decode cX9_list 11 = .ok (.ifCond .ne 5, 3) := by decide +kernel
theorem dX9_list_14 : decode cX9_list 14 = .ok (.iconst (-1), 1) := by decide +kernel
theorem dX9_list_15 : decode cX9_list 15 = .ok (.ireturn, 1) := by decide +kernel
theorem dX9_list_16 : decode cX9_list 16 = .ok (.aload_n 0, 1) := by decide +kernel
theorem dX9_list_17 : decode cX9_list 17 = .ok (.iload_n 1, 1) := by decide +kernel
theorem dX9_list_18 : decode cX9_list 18 = .ok (.invokevirtual 226, 3) := by decide +kernel
theorem dX9_list_21 : decode cX9_list 21 = .ok (.iload_n 2, 1) := by decide +kernel
theorem dX9_list_22 : decode cX9_list 22 = .ok (.iconst 0, 1) := by decide +kernel
theorem dX9_list_23 : decode cX9_list 23 = .ok (.aload_n 0, 1) := by decide +kernel
theorem dX9_list_24 : decode cX9_list 24 = .ok (.getfield 205, 3) := by decide +kernel
theorem dX9_list_27 : decode cX9_list 27 = .ok (.iconst 1, 1) := by decide +kernel
theorem dX9_list_28 : decode cX9_list 28 = .ok (.isub, 1) := by decide +kernel
theorem dX9_list_29 : decode cX9_list 29 = .ok (.invokestatic 43, 3) := by decide +kernel
theorem dX9_list_32 : decode cX9_list 32 = .ok (.ifCond .eq 12, 3) := by decide +kernel
theorem dX9_list_35 : decode cX9_list 35 = .ok (.aload_n 0, 1) := by decide +kernel
theorem dX9_list_36 : decode cX9_list 36 = .ok (.getfield 26, 3) := by decide +kernel
theorem dX9_list_39 : decode cX9_list 39 = .ok (.iload_n 2, 1) := by decide +kernel
theorem dX9_list_40 : decode cX9_list 40 = .ok (.iaload, 1) := by decide +kernel
theorem dX9_list_41 : decode cX9_list 41 = .ok (.goto 4, 3) := by decide +kernel
theorem dX9_list_44 : decode cX9_list 44 = .ok (.iconst (-1), 1) := by decide +kernel
theorem dX9_list_45 : decode cX9_list 45 = .ok (.ireturn, 1) := by decide +kernel
set_option maxRecDepth 20000 in
theorem ggX9_total_X9_closedMany : GoodIn wsX9_total wsX9_closedMany := goodIn_r _ [8, 2, 47, 48, 49, 50, 51, 52, 53, 54, 55, 56, 57, 58, 59, 60, 61, 62, 63, 64] rfl (by decide +kernel)
set_option maxRecDepth 20000 in
theorem gX9_total_X9_closedMany : GoodIn wsX9_total (wsV RX9 176 RX9 yX9_closedMany wsX9_closedMany) := goodIn_app (goodIn_of _ (by decide +kernel)) ggX9_total_X9_closedMany
set_option maxRecDepth 20000 in
theorem ggX9_total_X9_isIn : GoodIn wsX9_total wsX9_isIn := goodIn_r _ [11] rfl (by decide +kernel)
set_option maxRecDepth 20000 in
theorem gX9_total_X9_isIn : GoodIn wsX9_total (va_wsS RX9 43 yX9_isIn wsX9_isIn) := goodIn_app (goodIn_of _ (by decide +kernel)) ggX9_total_X9_isIn
set_option maxRecDepth 20000 in
theorem ggX9_total_X9_isTeamOn : GoodIn wsX9_total wsX9_isTeamOn := goodIn_r _ [15, 2, 16, 17, 18, 7, 19, 20, 21, 22, 23, 9, 10, 11, 47, 48, 49, 50, 51, 52, 53, 54, 55, 56, 57, 58, 59, 60, 61, 62, 63, 64] rfl (by decide +kernel)
set_option maxRecDepth 20000 in
theorem gX9_total_X9_isTeamOn : GoodIn wsX9_total (wsV RX9 220 RX9 yX9_isTeamOn wsX9_isTeamOn) := goodIn_app (goodIn_of _ (by decide +kernel)) ggX9_total_X9_isTeamOn
set_option maxRecDepth 20000 in
theorem ggX9_total_X9_teamTotal : GoodIn wsX9_total wsX9_teamTotal := goodIn_r _ [27, 4, 5, 6, 7, 8, 2, 28, 29, 30, 31, 32, 33, 34, 35, 36, 37, 38, 39, 40, 41, 42, 47, 48, 49, 50, 51, 52, 53, 54, 55, 56, 57, 58, 59, 60, 61, 62, 63, 64] rfl (by decide +kernel)
set_option maxRecDepth 20000 in
theorem gX9_total_X9_teamTotal : GoodIn wsX9_total (wsV RX9 223 RX9 yX9_teamTotal wsX9_teamTotal) := goodIn_app (goodIn_of _ (by decide +kernel)) ggX9_total_X9_teamTotal
set_option maxRecDepth 20000 in
theorem ggX9_total_X9_isThere : GoodIn wsX9_total wsX9_isThere := goodIn_r _ [19, 2, 20, 21, 22, 7, 23, 9, 10, 11, 47, 48, 49, 50, 51, 52, 53, 54, 55, 56, 57, 58, 59, 60, 61, 62, 63, 64] rfl (by decide +kernel)
set_option maxRecDepth 20000 in
theorem gX9_total_X9_isThere : GoodIn wsX9_total (wsV RX9 59 RX9 yX9_isThere wsX9_isThere) := goodIn_app (goodIn_of _ (by decide +kernel)) ggX9_total_X9_isThere
set_option maxRecDepth 20000 in
theorem ggX9_total_X9_totalBut : GoodIn wsX9_total wsX9_totalBut := goodIn_r _ [46, 2, 4, 5, 6, 7, 8, 33, 34, 35, 36, 37, 38, 39, 40, 41, 42, 47, 48, 49, 50, 51, 52, 53, 54, 55, 56, 57, 58, 59, 60, 61, 62, 63, 64] rfl (by decide +kernel)
set_option maxRecDepth 20000 in
theorem gX9_total_X9_totalBut : GoodIn wsX9_total (wsV RX9 195 RX9 yX9_totalBut wsX9_totalBut) := goodIn_app (goodIn_of _ (by decide +kernel)) ggX9_total_X9_totalBut
theorem dX9_total_0 : decode cX9_total 0 = .ok (.aload_n 0, 1) := by decide +kernel
theorem dX9_total_1 : decode cX9_total 1 = .ok (.iconst 0, 1) := by decide +kernel
theorem dX9_total_2 : decode cX9_total 2 = .ok (.putfield 39, 3) := by decide +kernel
theorem dX9_total_5 : decode cX9_total 5 = .ok (.iload_n 2, 1) := by decide +kernel
theorem dX9_total_6 : decode cX9_total 6 = .ok (.ifCond .eq 45, 3) := by decide +kernel
theorem dX9_total_9 : decode cX9_total 9 = .ok (.aload_n 0, 1) := by decide +kernel
theorem dX9_total_10 : decode cX9_total 10 = .ok (.invokevirtual 176, 3) := by decide +kernel
theorem dX9_total_13 : decode cX9_total 13 = .ok (.ifCond .le 35, 3) := by decide +kernel
theorem dX9_total_16 : decode cX9_total 16 = .ok (.iload_n 1, 1) := by decide +kernel
theorem dX9_total_17 : decode cX9_total 17 = .ok (.iconst 0, 1) := by decide +kernel
theorem dX9_total_18 : decode cX9_total 18 = .ok (.aload_n 0, 1) := by decide +kernel
theorem dX9_total_19 : decode cX9_total 19 = .ok (.getfield 7, 3) := by decide +kernel
theorem dX9_total_22 : decode cX9_total 22 = .ok (.iconst 0, 1) := by decide +kernel
theorem dX9_total_23 : decode cX9_total 23 = .ok (.iaload, 1) := by decide +kernel
theorem dX9_total_24 : decode cX9_total 24 = .ok (.iconst 1, 1) := by decide +kernel
theorem dX9_total_25 : decode cX9_total 25 = .ok (.isub, 1) := by decide +kernel
theorem dX9_total_26 : decode cX9_total 26 = .ok (.invokestatic 43, 3) := by decide +kernel
theorem dX9_total_29 : decode cX9_total 29 = .ok (.ifCond .eq 19, 3) := by decide +kernel
theorem dX9_total_32 : decode cX9_total 32 = .ok (.aload_n 0, 1) := by decide +kernel
theorem dX9_total_33 : decode cX9_total 33 = .ok (.iload_n 1, 1) := by decide +kernel
theorem dX9_total_34 : decode cX9_total 34 = .ok (.invokevirtual 220, 3) := by decide +kernel
theorem dX9_total_37 : decode cX9_total 37 = .ok (.ifCond .eq 11, 3) := by decide +kernel
theorem dX9_total_40 : decode cX9_total 40 = .ok (.aload_n 0, 1) := by decide +kernel
theorem dX9_total_41 : decode cX9_total 41 = .ok (.iload_n 1, 1) := by decide +kernel
theorem dX9_total_42 : decode cX9_total 42 = .ok (.invokevirtual 223, 3) := by decide +kernel
theorem dX9_total_45 : decode cX9_total 45 = .ok (.goto 5, 3) := by decide +kernel
theorem dX9_total_48 : decode cX9_total 48 = .ok (.ldc 229, 2) := by decide +kernel
theorem dX9_total_50 : decode cX9_total 50 = .ok (.ireturn, 1) := by decide +kernel
theorem dX9_total_51 : decode cX9_total 51 = .ok (.aload_n 0, 1) := by decide +kernel
theorem dX9_total_52 : decode cX9_total 52 = .ok (.iload_n 1, 1) := by decide +kernel
theorem dX9_total_53 : decode cX9_total 53 = .ok (.invokevirtual 59, 3) := by decide +kernel
theorem dX9_total_56 : decode cX9_total 56 = .ok (.ifCond .eq 12, 3) := by decide +kernel
theorem dX9_total_59 : decode cX9_total 59 = .ok (.aload_n 0, 1) := by decide +kernel
theorem dX9_total_60 : decode cX9_total 60 = .ok (.iload_n 1, 1) := by decide +kernel
theorem dX9_total_61 : decode cX9_total 61 = .ok (.iconst (-1), 1) := by decide +kernel
theorem dX9_total_62 : decode cX9_total 62 = .ok (.invokevirtual 195, 3) := by decide +kernel
theorem dX9_total_65 : decode cX9_total 65 = .ok (.goto 5, 3) := by decide +kernel
theorem dX9_total_68 : decode cX9_total 68 = .ok (.ldc 229, 2) := by decide +kernel
theorem dX9_total_70 : decode cX9_total 70 = .ok (.ireturn, 1) := by decide +kernel
set_option maxRecDepth 20000 in
theorem ggX9_firstFree_X9_ranks : GoodIn wsX9_firstFree wsX9_ranks := goodIn_r _ [7, 1, 8, 2, 9, 10, 11, 6, 12, 13, 14, 15, 16, 17, 18, 19, 20, 21, 22, 23, 24, 25, 26, 27, 28, 29, 30, 31, 32, 33, 34, 35, 36, 37, 38, 39, 40, 41, 42, 43, 44, 45, 46, 47, 48, 49, 50, 51, 52, 53, 54, 55, 56, 57, 58, 59, 60, 61, 62, 63, 64, 65, 66, 67, 68, 69, 70, 71, 72, 73, 74, 75, 76, 77, 78, 79, 80, 81, 82, 83, 84, 85, 86, 87, 88, 89, 90, 91, 92] rfl (by decide +kernel)
set_option maxRecDepth 20000 in
theorem gX9_firstFree_X9_ranks : GoodIn wsX9_firstFree (wsV RX9 226 RX9 yX9_ranks wsX9_ranks) := goodIn_app (goodIn_of _ (by decide +kernel)) ggX9_firstFree_X9_ranks
theorem dX9_firstFree_0 : decode cX9_firstFree 0 = .ok (.aload_n 0, 1) := by decide +kernel
theorem dX9_firstFree_1 : decode cX9_firstFree 1 = .ok (.iload_n 1, 1) := by decide +kernel
theorem dX9_firstFree_2 : decode cX9_firstFree 2 = .ok (.invokevirtual 226, 3) := by decide +kernel
theorem dX9_firstFree_5 : decode cX9_firstFree 5 = .ok (.iconst 0, 1) := by decide +kernel
theorem dX9_firstFree_6 : decode cX9_firstFree 6 = .ok (.istore_n 3, 1) := by decide +kernel
theorem dX9_firstFree_7 : decode cX9_firstFree 7 = .ok (.iload_n 3, 1) := by decide +kernel
theorem dX9_firstFree_8 : decode cX9_firstFree 8 = .ok (.aload_n 0, 1) := by decide +kernel
theorem dX9_firstFree_9 : decode cX9_firstFree 9 = .ok (.getfield 205, 3) := by decide +kernel
theorem dX9_firstFree_12 : decode cX9_firstFree 12 = .ok (.if_icmp .ge 29, 3) := by decide +kernel
theorem dX9_firstFree_15 : decode cX9_firstFree 15 = .ok (.iload_n 2, 1) := by decide +kernel
theorem dX9_firstFree_16 : decode cX9_firstFree 16 = .ok (.aload_n 0, 1) := by decide +kernel
theorem dX9_firstFree_17 : decode cX9_firstFree 17 = .ok (.getfield 26, 3) := by decide +kernel
theorem dX9_firstFree_20 : decode cX9_firstFree 20 = .ok (.iload_n 3, 1) := by decide +kernel
theorem dX9_firstFree_21 : decode cX9_firstFree 21 = .ok (.iaload, 1) := by decide +kernel
theorem dX9_firstFree_22 : decode cX9_firstFree 22 = .ok (.ishr, 1) := by decide +kernel
theorem dX9_firstFree_23 : decode cX9_firstFree 23 = .ok (.iconst 1, 1) := by decide +kernel
theorem dX9_firstFree_24 : decode cX9_firstFree 24 = .ok (.iand, 1) := by decide +kernel
theorem dX9_firstFree_25 : decode cX9_firstFree 25 = .ok (.ifCond .ne 10, 3) := by decide +kernel
theorem dX9_firstFree_28 : decode cX9_firstFree 28 = .ok (.aload_n 0, 1) := by decide +kernel
theorem dX9_firstFree_29 : decode cX9_firstFree 29 = .ok (.getfield 26, 3) := by decide +kernel
theorem dX9_firstFree_32 : decode cX9_firstFree 32 = .ok (.iload_n 3, 1) := by decide +kernel
theorem dX9_firstFree_33 : decode cX9_firstFree 33 = .ok (.iaload, 1) := by decide +kernel
theorem dX9_firstFree_34 : decode cX9_firstFree 34 = .ok (.ireturn, 1) := by decide +kernel
theorem dX9_firstFree_35 : decode cX9_firstFree 35 = .ok (.iinc 3 1, 3) := by decide +kernel
theorem dX9_firstFree_38 : decode cX9_firstFree 38 = .ok (.goto (-31), 3) := by decide +kernel
theorem dX9_firstFree_41 : decode cX9_firstFree 41 = .ok (.iconst (-1), 1) := by decide +kernel
theorem dX9_firstFree_42 : decode cX9_firstFree 42 = .ok (.ireturn, 1) := by decide +kernel
set_option maxRecDepth 20000 in
theorem ggX9_jersey_X9_isIn : GoodIn wsX9_jersey wsX9_isIn := goodIn_r _ [5] rfl (by decide +kernel)
set_option maxRecDepth 20000 in
theorem gX9_jersey_X9_isIn : GoodIn wsX9_jersey (va_wsS RX9 43 yX9_isIn wsX9_isIn) := goodIn_app (goodIn_of _ (by decide +kernel)) ggX9_jersey_X9_isIn
set_option maxRecDepth 20000 in
theorem ggX9_jersey_X9_firstFree : GoodIn wsX9_jersey wsX9_firstFree := goodIn_r _ [9, 10, 11, 12, 13, 14, 4, 15, 16, 17, 18, 19, 20, 21, 22, 23, 24, 25, 26, 27, 28, 29, 30, 31, 32, 33, 34, 35, 36, 2, 3, 5, 37, 38, 39, 40, 41, 42, 43, 44, 45, 46, 47, 48, 49, 50, 51, 52, 53, 54, 55, 56, 57, 58, 59, 60, 61, 62, 63, 64, 65, 66, 67, 68, 69, 70, 71, 72, 73, 74, 75, 76, 77, 78, 79, 80, 81, 82, 83, 84, 85, 86, 87, 88, 89, 90, 91, 92, 93, 94, 95, 96, 97] rfl (by decide +kernel)
set_option maxRecDepth 20000 in
theorem gX9_jersey_X9_firstFree : GoodIn wsX9_jersey (wsV RX9 230 RX9 yX9_firstFree wsX9_firstFree) := goodIn_app (goodIn_of _ (by decide +kernel)) ggX9_jersey_X9_firstFree
theorem dX9_jersey_0 : decode cX9_jersey 0 = .ok (.aload_n 0, 1) := by decide +kernel
theorem dX9_jersey_1 : decode cX9_jersey 1 = .ok (.iconst 0, 1) := by decide +kernel
theorem dX9_jersey_2 : decode cX9_jersey 2 = .ok (.putfield 39, 3) := by decide +kernel
theorem dX9_jersey_5 : decode cX9_jersey 5 = .ok (.iload_n 1, 1) := by decide +kernel
theorem dX9_jersey_6 : decode cX9_jersey 6 = .ok (.iconst 0, 1) := by decide +kernel
theorem dX9_jersey_7 : decode cX9_jersey 7 = .ok (.iconst 3, 1) := by decide +kernel
theorem dX9_jersey_8 : decode cX9_jersey 8 = .ok (.invokestatic 43, 3) := by decide +kernel
theorem dX9_jersey_11 : decode cX9_jersey 11 = .ok (.ifCond .ne 5, 3) := by decide +kernel
theorem dX9_jersey_14 : decode cX9_jersey 14 = .ok (.iconst (-1), 1) := by decide +kernel
theorem dX9_jersey_15 : decode cX9_jersey 15 = .ok (.ireturn, 1) := by decide +kernel
theorem dX9_jersey_16 : decode cX9_jersey 16 = .ok (.iload_n 2, 1) := by decide +kernel
theorem dX9_jersey_17 : decode cX9_jersey 17 = .ok (.ifCond .eq 10, 3) := by decide +kernel
theorem dX9_jersey_20 : decode cX9_jersey 20 = .ok (.aload_n 0, 1) := by decide +kernel
theorem dX9_jersey_21 : decode cX9_jersey 21 = .ok (.iload_n 1, 1) := by decide +kernel
theorem dX9_jersey_22 : decode cX9_jersey 22 = .ok (.iconst 0, 1) := by decide +kernel
theorem dX9_jersey_23 : decode cX9_jersey 23 = .ok (.invokevirtual 230, 3) := by decide +kernel
theorem dX9_jersey_26 : decode cX9_jersey 26 = .ok (.ireturn, 1) := by decide +kernel
theorem dX9_jersey_27 : decode cX9_jersey 27 = .ok (.iconst 0, 1) := by decide +kernel
theorem dX9_jersey_28 : decode cX9_jersey 28 = .ok (.istore_n 3, 1) := by decide +kernel
theorem dX9_jersey_29 : decode cX9_jersey 29 = .ok (.iconst (-1), 1) := by decide +kernel
theorem dX9_jersey_30 : decode cX9_jersey 30 = .ok (.istore 4, 2) := by decide +kernel
theorem dX9_jersey_32 : decode cX9_jersey 32 = .ok (.iconst 0, 1) := by decide +kernel
theorem dX9_jersey_33 : decode cX9_jersey 33 = .ok (.istore 5, 2) := by decide +kernel
theorem dX9_jersey_35 : decode cX9_jersey 35 = .ok (.iload 5, 2) := by decide +kernel
theorem dX9_jersey_37 : decode cX9_jersey 37 = .ok (.iload_n 1, 1) := by decide +kernel
theorem dX9_jersey_38 : decode cX9_jersey 38 = .ok (.if_icmp .gt 35, 3) := by decide +kernel
theorem dX9_jersey_41 : decode cX9_jersey 41 = .ok (.aload_n 0, 1) := by decide +kernel
theorem dX9_jersey_42 : decode cX9_jersey 42 = .ok (.iload 5, 2) := by decide +kernel
theorem dX9_jersey_44 : decode cX9_jersey 44 = .ok (.iload_n 3, 1) := by decide +kernel
theorem dX9_jersey_45 : decode cX9_jersey 45 = .ok (.invokevirtual 230, 3) := by decide +kernel
theorem dX9_jersey_48 : decode cX9_jersey 48 = .ok (.istore 4, 2) := by decide +kernel
theorem dX9_jersey_50 : decode cX9_jersey 50 = .ok (.iload_n 3, 1) := by decide +kernel
theorem dX9_jersey_51 : decode cX9_jersey 51 = .ok (.iload 4, 2) := by decide +kernel
theorem dX9_jersey_53 : decode cX9_jersey 53 = .ok (.iconst (-1), 1) := by decide +kernel
theorem dX9_jersey_54 : decode cX9_jersey 54 = .ok (.if_icmp .ne 7, 3) := by decide +kernel
theorem dX9_jersey_57 : decode cX9_jersey 57 = .ok (.iconst 0, 1) := by decide +kernel
theorem dX9_jersey_58 : decode cX9_jersey 58 = .ok (.goto 7, 3) := by decide +kernel
theorem dX9_jersey_61 : decode cX9_jersey 61 = .ok (.iconst 1, 1) := by decide +kernel
theorem dX9_jersey_62 : decode cX9_jersey 62 = .ok (.iload 4, 2) := by decide +kernel
theorem dX9_jersey_64 : decode cX9_jersey 64 = .ok (.ishl, 1) := by decide +kernel
theorem dX9_jersey_65 : decode cX9_jersey 65 = .ok (.ior, 1) := by decide +kernel
theorem dX9_jersey_66 : decode cX9_jersey 66 = .ok (.istore_n 3, 1) := by decide +kernel
theorem dX9_jersey_67 : decode cX9_jersey 67 = .ok (.iinc 5 1, 3) := by decide +kernel
theorem dX9_jersey_70 : decode cX9_jersey 70 = .ok (.goto (-35), 3) := by decide +kernel
theorem dX9_jersey_73 : decode cX9_jersey 73 = .ok (.iload 4, 2) := by decide +kernel
theorem dX9_jersey_75 : decode cX9_jersey 75 = .ok (.ireturn, 1) := by decide +kernel
set_option maxRecDepth 20000 in
theorem ggX9_needs_X9_isThere : GoodIn wsX9_needs wsX9_isThere := goodIn_r _ [7, 2, 8, 9, 10, 6, 11, 12, 13, 14, 41, 42, 43, 44, 45, 46, 47, 48, 49, 50, 51, 52, 53, 54, 55, 56, 57, 58] rfl (by decide +kernel)
set_option maxRecDepth 20000 in
theorem gX9_needs_X9_isThere : GoodIn wsX9_needs (wsV RX9 59 RX9 yX9_isThere wsX9_isThere) := goodIn_app (goodIn_of _ (by decide +kernel)) ggX9_needs_X9_isThere
set_option maxRecDepth 20000 in
theorem ggX9_needs_X9_closedMany : GoodIn wsX9_needs wsX9_closedMany := goodIn_r _ [18, 2, 41, 42, 43, 44, 45, 46, 47, 48, 49, 50, 51, 52, 53, 54, 55, 56, 57, 58] rfl (by decide +kernel)
set_option maxRecDepth 20000 in
theorem gX9_needs_X9_closedMany : GoodIn wsX9_needs (wsV RX9 176 RX9 yX9_closedMany wsX9_closedMany) := goodIn_app (goodIn_of _ (by decide +kernel)) ggX9_needs_X9_closedMany
set_option maxRecDepth 20000 in
theorem ggX9_needs_X9_totalBut : GoodIn wsX9_needs wsX9_totalBut := goodIn_r _ [22, 2, 15, 16, 17, 6, 18, 23, 24, 25, 26, 27, 28, 29, 30, 31, 32, 41, 42, 43, 44, 45, 46, 47, 48, 49, 50, 51, 52, 53, 54, 55, 56, 57, 58] rfl (by decide +kernel)
set_option maxRecDepth 20000 in
theorem gX9_needs_X9_totalBut : GoodIn wsX9_needs (wsV RX9 195 RX9 yX9_totalBut wsX9_totalBut) := goodIn_app (goodIn_of _ (by decide +kernel)) ggX9_needs_X9_totalBut
set_option maxRecDepth 20000 in
theorem ggX9_needs_X9_isAhead : GoodIn wsX9_needs wsX9_isAhead := goodIn_r _ [36, 19, 20, 21, 6, 22, 2, 15, 16, 17, 18, 23, 24, 25, 26, 27, 28, 29, 30, 31, 32, 37, 38, 39, 40, 41, 42, 43, 44, 45, 46, 47, 48, 49, 50, 51, 52, 53, 54, 55, 56, 57, 58] rfl (by decide +kernel)
set_option maxRecDepth 20000 in
theorem gX9_needs_X9_isAhead : GoodIn wsX9_needs (wsV RX9 201 RX9 yX9_isAhead wsX9_isAhead) := goodIn_app (goodIn_of _ (by decide +kernel)) ggX9_needs_X9_isAhead
theorem dX9_needs_0 : decode cX9_needs 0 = .ok (.aload_n 0, 1) := by decide +kernel
theorem dX9_needs_1 : decode cX9_needs 1 = .ok (.iconst 0, 1) := by decide +kernel
theorem dX9_needs_2 : decode cX9_needs 2 = .ok (.putfield 39, 3) := by decide +kernel
theorem dX9_needs_5 : decode cX9_needs 5 = .ok (.aload_n 0, 1) := by decide +kernel
theorem dX9_needs_6 : decode cX9_needs 6 = .ok (.iload_n 1, 1) := by decide +kernel
theorem dX9_needs_7 : decode cX9_needs 7 = .ok (.invokevirtual 59, 3) := by decide +kernel
theorem dX9_needs_10 : decode cX9_needs 10 = .ok (.ifCond .eq 10, 3) := by decide +kernel
theorem dX9_needs_13 : decode cX9_needs 13 = .ok (.aload_n 0, 1) := by decide +kernel
theorem dX9_needs_14 : decode cX9_needs 14 = .ok (.invokevirtual 176, 3) := by decide +kernel
theorem dX9_needs_17 : decode cX9_needs 17 = .ok (.ifCond .ne 5, 3) := by decide +kernel
theorem dX9_needs_20 : decode cX9_needs 20 = .ok (.iconst (-1), 1) := by decide +kernel
theorem dX9_needs_21 : decode cX9_needs 21 = .ok (.ireturn, 1) := by decide +kernel
theorem dX9_needs_22 : decode cX9_needs 22 = .ok (.iconst 0, 1) := by decide +kernel
theorem dX9_needs_23 : decode cX9_needs 23 = .ok (.istore_n 2, 1) := by decide +kernel
theorem dX9_needs_24 : decode cX9_needs 24 = .ok (.iconst 0, 1) := by decide +kernel
theorem dX9_needs_25 : decode cX9_needs 25 = .ok (.istore_n 3, 1) := by decide +kernel
theorem dX9_needs_26 : decode cX9_needs 26 = .ok (.iload_n 3, 1) := by decide +kernel
theorem dX9_needs_27 : decode cX9_needs 27 = .ok (.aload_n 0, 1) := by decide +kernel
theorem dX9_needs_28 : decode cX9_needs 28 = .ok (.getfield 7, 3) := by decide +kernel
theorem dX9_needs_31 : decode cX9_needs 31 = .ok (.iconst 1, 1) := by decide +kernel
theorem dX9_needs_32 : decode cX9_needs 32 = .ok (.iaload, 1) := by decide +kernel
theorem dX9_needs_33 : decode cX9_needs 33 = .ok (.if_icmp .ge 97, 3) := by decide +kernel
theorem dX9_needs_36 : decode cX9_needs 36 = .ok (.iload_n 3, 1) := by decide +kernel
theorem dX9_needs_37 : decode cX9_needs 37 = .ok (.iload_n 1, 1) := by decide +kernel
theorem dX9_needs_38 : decode cX9_needs 38 = .ok (.if_icmp .eq 86, 3) := by decide +kernel
theorem dX9_needs_41 : decode cX9_needs 41 = .ok (.aload_n 0, 1) := by decide +kernel
theorem dX9_needs_42 : decode cX9_needs 42 = .ok (.iload_n 3, 1) := by decide +kernel
theorem dX9_needs_43 : decode cX9_needs 43 = .ok (.invokevirtual 59, 3) := by decide +kernel
theorem dX9_needs_46 : decode cX9_needs 46 = .ok (.ifCond .ne 6, 3) := by decide +kernel
theorem dX9_needs_49 : decode cX9_needs 49 = .ok (.goto 75, 3) := by decide +kernel
theorem dX9_needs_52 : decode cX9_needs 52 = .ok (.aload_n 0, 1) := by decide +kernel
theorem dX9_needs_53 : decode cX9_needs 53 = .ok (.iload_n 1, 1) := by decide +kernel
theorem dX9_needs_54 : decode cX9_needs 54 = .ok (.iconst (-1), 1) := by decide +kernel
theorem dX9_needs_55 : decode cX9_needs 55 = .ok (.invokevirtual 195, 3) := by decide +kernel
theorem dX9_needs_58 : decode cX9_needs 58 = .ok (.aload_n 0, 1) := by decide +kernel
theorem dX9_needs_59 : decode cX9_needs 59 = .ok (.iload_n 3, 1) := by decide +kernel
theorem dX9_needs_60 : decode cX9_needs 60 = .ok (.iconst (-1), 1) := by decide +kernel
theorem dX9_needs_61 : decode cX9_needs 61 = .ok (.invokevirtual 195, 3) := by decide +kernel
theorem dX9_needs_64 : decode cX9_needs 64 = .ok (.isub, 1) := by decide +kernel
theorem dX9_needs_65 : decode cX9_needs 65 = .ok (.istore 4, 2) := by decide +kernel
theorem dX9_needs_67 : decode cX9_needs 67 = .ok (.iload 4, 2) := by decide +kernel
theorem dX9_needs_69 : decode cX9_needs 69 = .ok (.ifCond .le 15, 3) := by decide +kernel
theorem dX9_needs_72 : decode cX9_needs 72 = .ok (.aload_n 0, 1) := by decide +kernel
theorem dX9_needs_73 : decode cX9_needs 73 = .ok (.iload_n 1, 1) := by decide +kernel
theorem dX9_needs_74 : decode cX9_needs 74 = .ok (.iload_n 3, 1) := by decide +kernel
theorem dX9_needs_75 : decode cX9_needs 75 = .ok (.iload 4, 2) := by decide +kernel
theorem dX9_needs_77 : decode cX9_needs 77 = .ok (.iconst (-1), 1) := by decide +kernel
theorem dX9_needs_78 : decode cX9_needs 78 = .ok (.invokevirtual 201, 3) := by decide +kernel
theorem dX9_needs_81 : decode cX9_needs 81 = .ok (.ifCond .eq 19, 3) := by decide +kernel
theorem dX9_needs_84 : decode cX9_needs 84 = .ok (.iload 4, 2) := by decide +kernel
theorem dX9_needs_86 : decode cX9_needs 86 = .ok (.ifCond .ne 21, 3) := by decide +kernel
theorem dX9_needs_89 : decode cX9_needs 89 = .ok (.aload_n 0, 1) := by decide +kernel
theorem dX9_needs_90 : decode cX9_needs 90 = .ok (.iload_n 1, 1) := by decide +kernel
theorem dX9_needs_91 : decode cX9_needs 91 = .ok (.iload_n 3, 1) := by decide +kernel
theorem dX9_needs_92 : decode cX9_needs 92 = .ok (.iconst 0, 1) := by decide +kernel
theorem dX9_needs_93 : decode cX9_needs 93 = .ok (.iconst (-1), 1) := by decide +kernel
theorem dX9_needs_94 : decode cX9_needs 94 = .ok (.invokevirtual 201, 3) := by decide +kernel
theorem dX9_needs_97 : decode cX9_needs 97 = .ok (.ifCond .ne 10, 3) := by decide +kernel
theorem dX9_needs_100 : decode cX9_needs 100 = .ok (.iload 4, 2) := by decide +kernel
theorem dX9_needs_102 : decode cX9_needs 102 = .ok (.iconst 1, 1) := by decide +kernel
