set_option maxRecDepth 20000 in
theorem ggX4_divide_X4_is : GoodIn wsX4_divide wsX4_is := goodIn_r _ [12] (by decide +kernel) (by decide +kernel)
set_option maxRecDepth 20000 in
theorem gX4_divide_X4_is : GoodIn wsX4_divide (va_wsS RX4 52 yX4_is wsX4_is) := goodIn_app (goodIn_of _ (by decide +kernel)) ggX4_divide_X4_is
set_option maxRecDepth 20000 in
theorem ggX4_divide_X3_isZero : GoodIn wsX4_divide wsX3_isZero := goodIn_r _ [17, 18, 19, 66, 67, 68, 69] (by decide +kernel) (by decide +kernel)
set_option maxRecDepth 20000 in
theorem gX4_divide_X3_isZero : GoodIn wsX4_divide (wsV RX4 84 RX3 yX3_isZero wsX3_isZero) := goodIn_app (goodIn_of _ (by decide +kernel)) ggX4_divide_X3_isZero
set_option maxRecDepth 20000 in
theorem ggX4_divide_X4_isScale : GoodIn wsX4_divide wsX4_isScale := goodIn_r _ [22, 23, 24] (by decide +kernel) (by decide +kernel)
set_option maxRecDepth 20000 in
theorem gX4_divide_X4_isScale : GoodIn wsX4_divide (va_wsS RX4 44 yX4_isScale wsX4_isScale) := goodIn_app (goodIn_of _ (by decide +kernel)) ggX4_divide_X4_isScale
set_option maxRecDepth 20000 in
theorem ggX4_divide_X3_take : GoodIn wsX4_divide wsX3_take := goodIn_r _ [28, 18, 29, 30, 19, 66, 67, 68, 69] (by decide +kernel) (by decide +kernel)
set_option maxRecDepth 20000 in
theorem gX4_divide_X3_take : GoodIn wsX4_divide (wsV RX4 48 RX3 yX3_take wsX3_take) := goodIn_app (goodIn_of _ (by decide +kernel)) ggX4_divide_X3_take
set_option maxRecDepth 20000 in
theorem ggX4_divide_X3_up : GoodIn wsX4_divide wsX3_up := goodIn_r _ [34, 18, 19, 35, 14, 15, 16, 17, 66, 67, 68, 69] (by decide +kernel) (by decide +kernel)
set_option maxRecDepth 20000 in
theorem gX4_divide_X3_up : GoodIn wsX4_divide (wsV RX4 72 RX3 yX3_up wsX3_up) := goodIn_app (goodIn_of _ (by decide +kernel)) ggX4_divide_X3_up
set_option maxRecDepth 20000 in
theorem ggX4_divide_X4_over : GoodIn wsX4_divide wsX4_over := goodIn_r _ [39, 8, 2, 6, 40, 7, 3, 41, 42, 11, 43, 59, 60, 61, 62, 63, 64, 65, 66, 67, 68, 69] (by decide +kernel) (by decide +kernel)
set_option maxRecDepth 20000 in
theorem gX4_divide_X4_over : GoodIn wsX4_divide (wsV RX4 100 RX4 yX4_over wsX4_over) := goodIn_app (goodIn_of _ (by decide +kernel)) ggX4_divide_X4_over
set_option maxRecDepth 20000 in
theorem ggX4_divide_X4_sizes : GoodIn wsX4_divide wsX4_sizes := goodIn_r _ [43, 6, 7, 66, 67, 68, 69] (by decide +kernel) (by decide +kernel)
set_option maxRecDepth 20000 in
theorem gX4_divide_X4_sizes : GoodIn wsX4_divide (va_wsS RX4 80 yX4_sizes wsX4_sizes) := goodIn_app (goodIn_of _ (by decide +kernel)) ggX4_divide_X4_sizes
set_option maxRecDepth 20000 in
theorem ggX4_divide_X4_turns : GoodIn wsX4_divide wsX4_turns := goodIn_r _ [46] (by decide +kernel) (by decide +kernel)
set_option maxRecDepth 20000 in
theorem gX4_divide_X4_turns : GoodIn wsX4_divide (va_wsS RX4 103 yX4_turns wsX4_turns) := goodIn_app (goodIn_of _ (by decide +kernel)) ggX4_divide_X4_turns
set_option maxRecDepth 20000 in
theorem ggX4_divide_X3_more : GoodIn wsX4_divide wsX3_more := goodIn_r _ [50, 18, 19, 66, 67, 68, 69] (by decide +kernel) (by decide +kernel)
set_option maxRecDepth 20000 in
theorem gX4_divide_X3_more : GoodIn wsX4_divide (wsV RX4 107 RX3 yX3_more wsX3_more) := goodIn_app (goodIn_of _ (by decide +kernel)) ggX4_divide_X3_more
set_option maxRecDepth 20000 in
theorem ggX4_divide_X3_trim : GoodIn wsX4_divide wsX3_trim := goodIn_r _ [54, 18, 19, 29, 35, 14, 15, 16, 17, 66, 67, 68, 69] (by decide +kernel) (by decide +kernel)
set_option maxRecDepth 20000 in
theorem gX4_divide_X3_trim : GoodIn wsX4_divide (wsV RX4 65 RX3 yX3_trim wsX3_trim) := goodIn_app (goodIn_of _ (by decide +kernel)) ggX4_divide_X3_trim
set_option maxRecDepth 20000 in
theorem ggX4_divide_X4_keep : GoodIn wsX4_divide wsX4_keep := goodIn_r _ [58, 6, 5, 1, 20, 21, 11, 22, 23, 24, 25, 26, 27, 16, 28, 18, 29, 30, 19, 66, 67, 68, 69, 59, 60, 61, 62, 63, 64, 65] (by decide +kernel) (by decide +kernel)
set_option maxRecDepth 20000 in
theorem gX4_divide_X4_keep : GoodIn wsX4_divide (wsV RX4 68 RX4 yX4_keep wsX4_keep) := goodIn_app (goodIn_of _ (by decide +kernel)) ggX4_divide_X4_keep
theorem dX4_divide_0 : decode cX4_divide 0 = .ok (.iload_n 1, 1) := by decide +kernel
theorem dX4_divide_1 : decode cX4_divide 1 = .ok (.invokestatic 52, 3) := by decide +kernel
theorem dX4_divide_4 : decode cX4_divide 4 = .ok (.ifCond .eq 29, 3) := by decide +kernel
theorem dX4_divide_7 : decode cX4_divide 7 = .ok (.iload_n 2, 1) := by decide +kernel
theorem dX4_divide_8 : decode cX4_divide 8 = .ok (.invokestatic 52, 3) := by decide +kernel
theorem dX4_divide_11 : decode cX4_divide 11 = .ok (.ifCond .eq 22, 3) := by decide +kernel
theorem dX4_divide_14 : decode cX4_divide 14 = .ok (.iload_n 3, 1) := by decide +kernel
theorem dX4_divide_15 : decode cX4_divide 15 = .ok (.invokestatic 52, 3) := by decide +kernel
theorem dX4_divide_18 : decode cX4_divide 18 = .ok (.ifCond .eq 15, 3) := by decide +kernel
theorem dX4_divide_21 : decode cX4_divide 21 = .ok (.iload 5, 2) := by decide +kernel
theorem dX4_divide_23 : decode cX4_divide 23 = .ok (.ifCond .lt 10, 3) := by decide +kernel
theorem dX4_divide_26 : decode cX4_divide 26 = .ok (.iload 5, 2) := by decide +kernel
theorem dX4_divide_28 : decode cX4_divide 28 = .ok (.bipush 7, 2) := by decide +kernel
theorem dX4_divide_30 : decode cX4_divide 30 = .ok (.if_icmp .le 5, 3) := by decide +kernel
theorem dX4_divide_33 : decode cX4_divide 33 = .ok (.iconst (-1), 1) := by decide +kernel
theorem dX4_divide_34 : decode cX4_divide 34 = .ok (.ireturn, 1) := by decide +kernel
theorem dX4_divide_35 : decode cX4_divide 35 = .ok (.aload_n 0, 1) := by decide +kernel
theorem dX4_divide_36 : decode cX4_divide 36 = .ok (.getfield 9, 3) := by decide +kernel
theorem dX4_divide_39 : decode cX4_divide 39 = .ok (.iload_n 3, 1) := by decide +kernel
theorem dX4_divide_40 : decode cX4_divide 40 = .ok (.aaload, 1) := by decide +kernel
theorem dX4_divide_41 : decode cX4_divide 41 = .ok (.invokevirtual 84, 3) := by decide +kernel
theorem dX4_divide_44 : decode cX4_divide 44 = .ok (.ifCond .eq 6, 3) := by decide +kernel
theorem dX4_divide_47 : decode cX4_divide 47 = .ok (.bipush (-2), 2) := by decide +kernel
theorem dX4_divide_49 : decode cX4_divide 49 = .ok (.ireturn, 1) := by decide +kernel
theorem dX4_divide_50 : decode cX4_divide 50 = .ok (.iload 4, 2) := by decide +kernel
theorem dX4_divide_52 : decode cX4_divide 52 = .ok (.i2l, 1) := by decide +kernel
theorem dX4_divide_53 : decode cX4_divide 53 = .ok (.invokestatic 44, 3) := by decide +kernel
theorem dX4_divide_56 : decode cX4_divide 56 = .ok (.ifCond .ne 6, 3) := by decide +kernel
theorem dX4_divide_59 : decode cX4_divide 59 = .ok (.bipush (-3), 2) := by decide +kernel
theorem dX4_divide_61 : decode cX4_divide 61 = .ok (.ireturn, 1) := by decide +kernel
theorem dX4_divide_62 : decode cX4_divide 62 = .ok (.aload_n 0, 1) := by decide +kernel
theorem dX4_divide_63 : decode cX4_divide 63 = .ok (.getfield 16, 3) := by decide +kernel
theorem dX4_divide_66 : decode cX4_divide 66 = .ok (.aload_n 0, 1) := by decide +kernel
theorem dX4_divide_67 : decode cX4_divide 67 = .ok (.getfield 9, 3) := by decide +kernel
theorem dX4_divide_70 : decode cX4_divide 70 = .ok (.iload_n 2, 1) := by decide +kernel
theorem dX4_divide_71 : decode cX4_divide 71 = .ok (.aaload, 1) := by decide +kernel
theorem dX4_divide_72 : decode cX4_divide 72 = .ok (.invokevirtual 48, 3) := by decide +kernel
theorem dX4_divide_75 : decode cX4_divide 75 = .ok (.aload_n 0, 1) := by decide +kernel
theorem dX4_divide_76 : decode cX4_divide 76 = .ok (.getfield 20, 3) := by decide +kernel
theorem dX4_divide_79 : decode cX4_divide 79 = .ok (.aload_n 0, 1) := by decide +kernel
theorem dX4_divide_80 : decode cX4_divide 80 = .ok (.getfield 9, 3) := by decide +kernel
theorem dX4_divide_83 : decode cX4_divide 83 = .ok (.iload_n 3, 1) := by decide +kernel
theorem dX4_divide_84 : decode cX4_divide 84 = .ok (.aaload, 1) := by decide +kernel
theorem dX4_divide_85 : decode cX4_divide 85 = .ok (.invokevirtual 48, 3) := by decide +kernel
theorem dX4_divide_88 : decode cX4_divide 88 = .ok (.aload_n 0, 1) := by decide +kernel
theorem dX4_divide_89 : decode cX4_divide 89 = .ok (.getfield 16, 3) := by decide +kernel
theorem dX4_divide_92 : decode cX4_divide 92 = .ok (.getfield 61, 3) := by decide +kernel
theorem dX4_divide_95 : decode cX4_divide 95 = .ok (.aload_n 0, 1) := by decide +kernel
theorem dX4_divide_96 : decode cX4_divide 96 = .ok (.getfield 20, 3) := by decide +kernel
theorem dX4_divide_99 : decode cX4_divide 99 = .ok (.getfield 61, 3) := by decide +kernel
theorem dX4_divide_102 : decode cX4_divide 102 = .ok (.if_icmp .eq 7, 3) := by decide +kernel
theorem dX4_divide_105 : decode cX4_divide 105 = .ok (.iconst 1, 1) := by decide +kernel
theorem dX4_divide_106 : decode cX4_divide 106 = .ok (.goto 4, 3) := by decide +kernel
theorem dX4_divide_109 : decode cX4_divide 109 = .ok (.iconst 0, 1) := by decide +kernel
theorem dX4_divide_110 : decode cX4_divide 110 = .ok (.istore 6, 2) := by decide +kernel
theorem dX4_divide_112 : decode cX4_divide 112 = .ok (.iload 4, 2) := by decide +kernel
theorem dX4_divide_114 : decode cX4_divide 114 = .ok (.aload_n 0, 1) := by decide +kernel
theorem dX4_divide_115 : decode cX4_divide 115 = .ok (.getfield 16, 3) := by decide +kernel
theorem dX4_divide_118 : decode cX4_divide 118 = .ok (.getfield 41, 3) := by decide +kernel
theorem dX4_divide_121 : decode cX4_divide 121 = .ok (.isub, 1) := by decide +kernel
theorem dX4_divide_122 : decode cX4_divide 122 = .ok (.aload_n 0, 1) := by decide +kernel
theorem dX4_divide_123 : decode cX4_divide 123 = .ok (.getfield 20, 3) := by decide +kernel
theorem dX4_divide_126 : decode cX4_divide 126 = .ok (.getfield 41, 3) := by decide +kernel
theorem dX4_divide_129 : decode cX4_divide 129 = .ok (.iadd, 1) := by decide +kernel
theorem dX4_divide_130 : decode cX4_divide 130 = .ok (.istore 7, 2) := by decide +kernel
theorem dX4_divide_132 : decode cX4_divide 132 = .ok (.iload 7, 2) := by decide +kernel
theorem dX4_divide_134 : decode cX4_divide 134 = .ok (.ifCond .le 15, 3) := by decide +kernel
theorem dX4_divide_137 : decode cX4_divide 137 = .ok (.aload_n 0, 1) := by decide +kernel
theorem dX4_divide_138 : decode cX4_divide 138 = .ok (.getfield 16, 3) := by decide +kernel
theorem dX4_divide_141 : decode cX4_divide 141 = .ok (.iload 7, 2) := by decide +kernel
theorem dX4_divide_143 : decode cX4_divide 143 = .ok (.invokevirtual 72, 3) := by decide +kernel
theorem dX4_divide_146 : decode cX4_divide 146 = .ok (.goto 13, 3) := by decide +kernel
theorem dX4_divide_149 : decode cX4_divide 149 = .ok (.aload_n 0, 1) := by decide +kernel
theorem dX4_divide_150 : decode cX4_divide 150 = .ok (.getfield 20, 3) := by decide +kernel
theorem dX4_divide_153 : decode cX4_divide 153 = .ok (.iload 7, 2) := by decide +kernel
theorem dX4_divide_155 : decode cX4_divide 155 = .ok (.ineg, 1) := by decide +kernel
theorem dX4_divide_156 : decode cX4_divide 156 = .ok (.invokevirtual 72, 3) := by decide +kernel
theorem dX4_divide_159 : decode cX4_divide 159 = .ok (.aload_n 0, 1) := by decide +kernel
theorem dX4_divide_160 : decode cX4_divide 160 = .ok (.invokevirtual 100, 3) := by decide +kernel
theorem dX4_divide_163 : decode cX4_divide 163 = .ok (.aload_n 0, 1) := by decide +kernel
theorem dX4_divide_164 : decode cX4_divide 164 = .ok (.getfield 16, 3) := by decide +kernel
theorem dX4_divide_167 : decode cX4_divide 167 = .ok (.getfield 37, 3) := by decide +kernel
theorem dX4_divide_170 : decode cX4_divide 170 = .ok (.iconst 1, 1) := by decide +kernel
theorem dX4_divide_171 : decode cX4_divide 171 = .ok (.if_icmp .ne 15, 3) := by decide +kernel
theorem dX4_divide_174 : decode cX4_divide 174 = .ok (.aload_n 0, 1) := by decide +kernel
theorem dX4_divide_175 : decode cX4_divide 175 = .ok (.getfield 16, 3) := by decide +kernel
theorem dX4_divide_178 : decode cX4_divide 178 = .ok (.getfield 58, 3) := by decide +kernel
theorem dX4_divide_181 : decode cX4_divide 181 = .ok (.iconst 0, 1) := by decide +kernel
theorem dX4_divide_182 : decode cX4_divide 182 = .ok (.iaload, 1) := by decide +kernel
theorem dX4_divide_183 : decode cX4_divide 183 = .ok (.ifCond .eq 159, 3) := by decide +kernel
theorem dX4_divide_186 : decode cX4_divide 186 = .ok (.iload 5, 2) := by decide +kernel
theorem dX4_divide_188 : decode cX4_divide 188 = .ok (.bipush 7, 2) := by decide +kernel
theorem dX4_divide_190 : decode cX4_divide 190 = .ok (.if_icmp .ne 6, 3) := by decide +kernel
theorem dX4_divide_193 : decode cX4_divide 193 = .ok (.bipush (-4), 2) := by decide +kernel
theorem dX4_divide_195 : decode cX4_divide 195 = .ok (.ireturn, 1) := by decide +kernel
theorem dX4_divide_196 : decode cX4_divide 196 = .ok (.iconst 0, 1) := by decide +kernel
theorem dX4_divide_197 : decode cX4_divide 197 = .ok (.istore 8, 2) := by decide +kernel
theorem dX4_divide_199 : decode cX4_divide 199 = .ok (.iconst 0, 1) := by decide +kernel
theorem dX4_divide_200 : decode cX4_divide 200 = .ok (.istore 9, 2) := by decide +kernel
theorem dX4_divide_202 : decode cX4_divide 202 = .ok (.iload 9, 2) := by decide +kernel
theorem dX4_divide_204 : decode cX4_divide 204 = .ok (.aload_n 0, 1) := by decide +kernel
theorem dX4_divide_205 : decode cX4_divide 205 = .ok (.getfield 16, 3) := by decide +kernel
theorem dX4_divide_208 : decode cX4_divide 208 = .ok (.getfield 37, 3) := by decide +kernel
theorem dX4_divide_211 : decode cX4_divide 211 = .ok (.if_icmp .ge 48, 3) := by decide +kernel
theorem dX4_divide_214 : decode cX4_divide 214 = .ok (.iconst 2, 1) := by decide +kernel
theorem dX4_divide_215 : decode cX4_divide 215 = .ok (.aload_n 0, 1) := by decide +kernel
theorem dX4_divide_216 : decode cX4_divide 216 = .ok (.getfield 16, 3) := by decide +kernel
theorem dX4_divide_219 : decode cX4_divide 219 = .ok (.getfield 58, 3) := by decide +kernel
theorem dX4_divide_222 : decode cX4_divide 222 = .ok (.iload 9, 2) := by decide +kernel
theorem dX4_divide_224 : decode cX4_divide 224 = .ok (.iaload, 1) := by decide +kernel
theorem dX4_divide_225 : decode cX4_divide 225 = .ok (.imul, 1) := by decide +kernel
theorem dX4_divide_226 : decode cX4_divide 226 = .ok (.iload 8, 2) := by decide +kernel
theorem dX4_divide_228 : decode cX4_divide 228 = .ok (.iadd, 1) := by decide +kernel
theorem dX4_divide_229 : decode cX4_divide 229 = .ok (.istore 10, 2) := by decide +kernel
theorem dX4_divide_231 : decode cX4_divide 231 = .ok (.aload_n 0, 1) := by decide +kernel
theorem dX4_divide_232 : decode cX4_divide 232 = .ok (.getfield 16, 3) := by decide +kernel
theorem dX4_divide_235 : decode cX4_divide 235 = .ok (.getfield 58, 3) := by decide +kernel
theorem dX4_divide_238 : decode cX4_divide 238 = .ok (.iload 9, 2) := by decide +kernel
theorem dX4_divide_240 : decode cX4_divide 240 = .ok (.iload 10, 2) := by decide +kernel
theorem dX4_divide_242 : decode cX4_divide 242 = .ok (.bipush 10, 2) := by decide +kernel
theorem dX4_divide_244 : decode cX4_divide 244 = .ok (.irem, 1) := by decide +kernel
theorem dX4_divide_245 : decode cX4_divide 245 = .ok (.iastore, 1) := by decide +kernel
theorem dX4_divide_246 : decode cX4_divide 246 = .ok (.iload 10, 2) := by decide +kernel
theorem dX4_divide_248 : decode cX4_divide 248 = .ok (.bipush 10, 2) := by decide +kernel
theorem dX4_divide_250 : decode cX4_divide 250 = .ok (.idiv, 1) := by decide +kernel
theorem dX4_divide_251 : decode cX4_divide 251 = .ok (.istore 8, 2) := by decide +kernel
theorem dX4_divide_253 : decode cX4_divide 253 = .ok (.iinc 9 1, 3) := by decide +kernel
theorem dX4_divide_256 : decode cX4_divide 256 = .ok (.goto (-54), 3) := by decide +kernel
theorem dX4_divide_259 : decode cX4_divide 259 = .ok (.iload 8, 2) := by decide +kernel
theorem dX4_divide_261 : decode cX4_divide 261 = .ok (.ifCond .le 33, 3) := by decide +kernel
theorem dX4_divide_264 : decode cX4_divide 264 = .ok (.aload_n 0, 1) := by decide +kernel
theorem dX4_divide_265 : decode cX4_divide 265 = .ok (.getfield 16, 3) := by decide +kernel
theorem dX4_divide_268 : decode cX4_divide 268 = .ok (.getfield 58, 3) := by decide +kernel
theorem dX4_divide_271 : decode cX4_divide 271 = .ok (.aload_n 0, 1) := by decide +kernel
theorem dX4_divide_272 : decode cX4_divide 272 = .ok (.getfield 16, 3) := by decide +kernel
theorem dX4_divide_275 : decode cX4_divide 275 = .ok (.getfield 37, 3) := by decide +kernel
theorem dX4_divide_278 : decode cX4_divide 278 = .ok (.iload 8, 2) := by decide +kernel
theorem dX4_divide_280 : decode cX4_divide 280 = .ok (.iastore, 1) := by decide +kernel
theorem dX4_divide_281 : decode cX4_divide 281 = .ok (.aload_n 0, 1) := by decide +kernel
theorem dX4_divide_282 : decode cX4_divide 282 = .ok (.getfield 16, 3) := by decide +kernel
theorem dX4_divide_285 : decode cX4_divide 285 = .ok (.dup, 1) := by decide +kernel
theorem dX4_divide_286 : decode cX4_divide 286 = .ok (.getfield 37, 3) := by decide +kernel
theorem dX4_divide_289 : decode cX4_divide 289 = .ok (.iconst 1, 1) := by decide +kernel
theorem dX4_divide_290 : decode cX4_divide 290 = .ok (.iadd, 1) := by decide +kernel
theorem dX4_divide_291 : decode cX4_divide 291 = .ok (.putfield 37, 3) := by decide +kernel
theorem dX4_divide_294 : decode cX4_divide 294 = .ok (.iload 5, 2) := by decide +kernel
theorem dX4_divide_296 : decode cX4_divide 296 = .ok (.iload 6, 2) := by decide +kernel
theorem dX4_divide_298 : decode cX4_divide 298 = .ok (.aload_n 0, 1) := by decide +kernel
theorem dX4_divide_299 : decode cX4_divide 299 = .ok (.getfield 16, 3) := by decide +kernel
theorem dX4_divide_302 : decode cX4_divide 302 = .ok (.aload_n 0, 1) := by decide +kernel
theorem dX4_divide_303 : decode cX4_divide 303 = .ok (.getfield 20, 3) := by decide +kernel
theorem dX4_divide_306 : decode cX4_divide 306 = .ok (.invokestatic 80, 3) := by decide +kernel
theorem dX4_divide_309 : decode cX4_divide 309 = .ok (.aload_n 0, 1) := by decide +kernel
theorem dX4_divide_310 : decode cX4_divide 310 = .ok (.getfield 23, 3) := by decide +kernel
theorem dX4_divide_313 : decode cX4_divide 313 = .ok (.getfield 58, 3) := by decide +kernel
theorem dX4_divide_316 : decode cX4_divide 316 = .ok (.iconst 0, 1) := by decide +kernel
theorem dX4_divide_317 : decode cX4_divide 317 = .ok (.iaload, 1) := by decide +kernel
theorem dX4_divide_318 : decode cX4_divide 318 = .ok (.iconst 2, 1) := by decide +kernel
theorem dX4_divide_319 : decode cX4_divide 319 = .ok (.irem, 1) := by decide +kernel
theorem dX4_divide_320 : decode cX4_divide 320 = .ok (.iconst 1, 1) := by decide +kernel
theorem dX4_divide_321 : decode cX4_divide 321 = .ok (.if_icmp .ne 7, 3) := by decide +kernel
theorem dX4_divide_324 : decode cX4_divide 324 = .ok (.iconst 1, 1) := by decide +kernel
theorem dX4_divide_325 : decode cX4_divide 325 = .ok (.goto 4, 3) := by decide +kernel
theorem dX4_divide_328 : decode cX4_divide 328 = .ok (.iconst 0, 1) := by decide +kernel
theorem dX4_divide_329 : decode cX4_divide 329 = .ok (.invokestatic 103, 3) := by decide +kernel
theorem dX4_divide_332 : decode cX4_divide 332 = .ok (.ifCond .eq 10, 3) := by decide +kernel
theorem dX4_divide_335 : decode cX4_divide 335 = .ok (.aload_n 0, 1) := by decide +kernel
theorem dX4_divide_336 : decode cX4_divide 336 = .ok (.getfield 23, 3) := by decide +kernel
theorem dX4_divide_339 : decode cX4_divide 339 = .ok (.invokevirtual 107, 3) := by decide +kernel
theorem dX4_divide_342 : decode cX4_divide 342 = .ok (.aload_n 0, 1) := by decide +kernel
theorem dX4_divide_343 : decode cX4_divide 343 = .ok (.getfield 23, 3) := by decide +kernel
theorem dX4_divide_346 : decode cX4_divide 346 = .ok (.iload 6, 2) := by decide +kernel
theorem dX4_divide_348 : decode cX4_divide 348 = .ok (.putfield 61, 3) := by decide +kernel
theorem dX4_divide_351 : decode cX4_divide 351 = .ok (.aload_n 0, 1) := by decide +kernel
theorem dX4_divide_352 : decode cX4_divide 352 = .ok (.getfield 23, 3) := by decide +kernel
theorem dX4_divide_355 : decode cX4_divide 355 = .ok (.iload 4, 2) := by decide +kernel
theorem dX4_divide_357 : decode cX4_divide 357 = .ok (.putfield 41, 3) := by decide +kernel
theorem dX4_divide_360 : decode cX4_divide 360 = .ok (.aload_n 0, 1) := by decide +kernel
theorem dX4_divide_361 : decode cX4_divide 361 = .ok (.getfield 23, 3) := by decide +kernel
theorem dX4_divide_364 : decode cX4_divide 364 = .ok (.invokevirtual 65, 3) := by decide +kernel
theorem dX4_divide_367 : decode cX4_divide 367 = .ok (.aload_n 0, 1) := by decide +kernel
theorem dX4_divide_368 : decode cX4_divide 368 = .ok (.iload_n 1, 1) := by decide +kernel
theorem dX4_divide_369 : decode cX4_divide 369 = .ok (.aload_n 0, 1) := by decide +kernel
theorem dX4_divide_370 : decode cX4_divide 370 = .ok (.getfield 23, 3) := by decide +kernel
theorem dX4_divide_373 : decode cX4_divide 373 = .ok (.invokevirtual 68, 3) := by decide +kernel
theorem dX4_divide_376 : decode cX4_divide 376 = .ok (.ireturn, 1) := by decide +kernel
set_option maxRecDepth 20000 in
theorem ggX4_part_X4_is : GoodIn wsX4_part wsX4_is := goodIn_r _ [11] (by decide +kernel) (by decide +kernel)
set_option maxRecDepth 20000 in
theorem gX4_part_X4_is : GoodIn wsX4_part (va_wsS RX4 52 yX4_is wsX4_is) := goodIn_app (goodIn_of _ (by decide +kernel)) ggX4_part_X4_is
set_option maxRecDepth 20000 in
theorem ggX4_part_X3_isZero : GoodIn wsX4_part wsX3_isZero := goodIn_r _ [16, 17, 18, 54, 55, 56, 57] (by decide +kernel) (by decide +kernel)
set_option maxRecDepth 20000 in
theorem gX4_part_X3_isZero : GoodIn wsX4_part (wsV RX4 84 RX3 yX3_isZero wsX3_isZero) := goodIn_app (goodIn_of _ (by decide +kernel)) ggX4_part_X3_isZero
set_option maxRecDepth 20000 in
theorem ggX4_part_X4_align : GoodIn wsX4_part wsX4_align := goodIn_r _ [22, 2, 1, 5, 6, 23, 24, 25, 15, 26, 17, 27, 28, 18, 29, 30, 31, 32, 33, 13, 14, 16, 47, 48, 49, 50, 51, 52, 53, 54, 55, 56, 57] (by decide +kernel) (by decide +kernel)
set_option maxRecDepth 20000 in
theorem gX4_part_X4_align : GoodIn wsX4_part (wsV RX4 76 RX4 yX4_align wsX4_align) := goodIn_app (goodIn_of _ (by decide +kernel)) ggX4_part_X4_align
set_option maxRecDepth 20000 in
theorem ggX4_part_X4_over : GoodIn wsX4_part wsX4_over := goodIn_r _ [37, 4, 2, 7, 38, 39, 5, 40, 41, 10, 42, 47, 48, 49, 50, 51, 52, 53, 54, 55, 56, 57] (by decide +kernel) (by decide +kernel)
set_option maxRecDepth 20000 in
theorem gX4_part_X4_over : GoodIn wsX4_part (wsV RX4 100 RX4 yX4_over wsX4_over) := goodIn_app (goodIn_of _ (by decide +kernel)) ggX4_part_X4_over
set_option maxRecDepth 20000 in
theorem ggX4_part_X3_trim : GoodIn wsX4_part wsX3_trim := goodIn_r _ [46, 17, 18, 27, 33, 13, 14, 15, 16, 54, 55, 56, 57] (by decide +kernel) (by decide +kernel)
set_option maxRecDepth 20000 in
theorem gX4_part_X3_trim : GoodIn wsX4_part (wsV RX4 65 RX3 yX3_trim wsX3_trim) := goodIn_app (goodIn_of _ (by decide +kernel)) ggX4_part_X3_trim
set_option maxRecDepth 20000 in
theorem ggX4_part_X3_take : GoodIn wsX4_part wsX3_take := goodIn_r _ [26, 17, 27, 28, 18, 54, 55, 56, 57] (by decide +kernel) (by decide +kernel)
set_option maxRecDepth 20000 in
theorem gX4_part_X3_take : GoodIn wsX4_part (wsV RX4 48 RX3 yX3_take wsX3_take) := goodIn_app (goodIn_of _ (by decide +kernel)) ggX4_part_X3_take
theorem dX4_part_0 : decode cX4_part 0 = .ok (.iload_n 1, 1) := by decide +kernel
theorem dX4_part_1 : decode cX4_part 1 = .ok (.invokestatic 52, 3) := by decide +kernel
theorem dX4_part_4 : decode cX4_part 4 = .ok (.ifCond .eq 30, 3) := by decide +kernel
theorem dX4_part_7 : decode cX4_part 7 = .ok (.iload_n 2, 1) := by decide +kernel
theorem dX4_part_8 : decode cX4_part 8 = .ok (.invokestatic 52, 3) := by decide +kernel
theorem dX4_part_11 : decode cX4_part 11 = .ok (.ifCond .eq 23, 3) := by decide +kernel
theorem dX4_part_14 : decode cX4_part 14 = .ok (.iload_n 3, 1) := by decide +kernel
theorem dX4_part_15 : decode cX4_part 15 = .ok (.invokestatic 52, 3) := by decide +kernel
theorem dX4_part_18 : decode cX4_part 18 = .ok (.ifCond .eq 16, 3) := by decide +kernel
theorem dX4_part_21 : decode cX4_part 21 = .ok (.iload 4, 2) := by decide +kernel
theorem dX4_part_23 : decode cX4_part 23 = .ok (.invokestatic 52, 3) := by decide +kernel
theorem dX4_part_26 : decode cX4_part 26 = .ok (.ifCond .eq 8, 3) := by decide +kernel
theorem dX4_part_29 : decode cX4_part 29 = .ok (.iload_n 1, 1) := by decide +kernel
theorem dX4_part_30 : decode cX4_part 30 = .ok (.iload_n 2, 1) := by decide +kernel
theorem dX4_part_31 : decode cX4_part 31 = .ok (.if_icmp .ne 5, 3) := by decide +kernel
theorem dX4_part_34 : decode cX4_part 34 = .ok (.iconst (-1), 1) := by decide +kernel
theorem dX4_part_35 : decode cX4_part 35 = .ok (.ireturn, 1) := by decide +kernel
theorem dX4_part_36 : decode cX4_part 36 = .ok (.aload_n 0, 1) := by decide +kernel
theorem dX4_part_37 : decode cX4_part 37 = .ok (.getfield 9, 3) := by decide +kernel
theorem dX4_part_40 : decode cX4_part 40 = .ok (.iload 4, 2) := by decide +kernel
theorem dX4_part_42 : decode cX4_part 42 = .ok (.aaload, 1) := by decide +kernel
theorem dX4_part_43 : decode cX4_part 43 = .ok (.invokevirtual 84, 3) := by decide +kernel
theorem dX4_part_46 : decode cX4_part 46 = .ok (.ifCond .eq 6, 3) := by decide +kernel
theorem dX4_part_49 : decode cX4_part 49 = .ok (.bipush (-2), 2) := by decide +kernel
theorem dX4_part_51 : decode cX4_part 51 = .ok (.ireturn, 1) := by decide +kernel
theorem dX4_part_52 : decode cX4_part 52 = .ok (.aload_n 0, 1) := by decide +kernel
theorem dX4_part_53 : decode cX4_part 53 = .ok (.iload_n 3, 1) := by decide +kernel
theorem dX4_part_54 : decode cX4_part 54 = .ok (.iload 4, 2) := by decide +kernel
theorem dX4_part_56 : decode cX4_part 56 = .ok (.invokevirtual 76, 3) := by decide +kernel
theorem dX4_part_59 : decode cX4_part 59 = .ok (.aload_n 0, 1) := by decide +kernel
theorem dX4_part_60 : decode cX4_part 60 = .ok (.getfield 16, 3) := by decide +kernel
theorem dX4_part_63 : decode cX4_part 63 = .ok (.getfield 61, 3) := by decide +kernel
theorem dX4_part_66 : decode cX4_part 66 = .ok (.istore 5, 2) := by decide +kernel
theorem dX4_part_68 : decode cX4_part 68 = .ok (.aload_n 0, 1) := by decide +kernel
theorem dX4_part_69 : decode cX4_part 69 = .ok (.getfield 23, 3) := by decide +kernel
theorem dX4_part_72 : decode cX4_part 72 = .ok (.aload_n 0, 1) := by decide +kernel
theorem dX4_part_73 : decode cX4_part 73 = .ok (.getfield 16, 3) := by decide +kernel
theorem dX4_part_76 : decode cX4_part 76 = .ok (.getfield 61, 3) := by decide +kernel
theorem dX4_part_79 : decode cX4_part 79 = .ok (.aload_n 0, 1) := by decide +kernel
theorem dX4_part_80 : decode cX4_part 80 = .ok (.getfield 20, 3) := by decide +kernel
theorem dX4_part_83 : decode cX4_part 83 = .ok (.getfield 61, 3) := by decide +kernel
theorem dX4_part_86 : decode cX4_part 86 = .ok (.if_icmp .eq 7, 3) := by decide +kernel
theorem dX4_part_89 : decode cX4_part 89 = .ok (.iconst 1, 1) := by decide +kernel
theorem dX4_part_90 : decode cX4_part 90 = .ok (.goto 4, 3) := by decide +kernel
theorem dX4_part_93 : decode cX4_part 93 = .ok (.iconst 0, 1) := by decide +kernel
theorem dX4_part_94 : decode cX4_part 94 = .ok (.putfield 61, 3) := by decide +kernel
theorem dX4_part_97 : decode cX4_part 97 = .ok (.aload_n 0, 1) := by decide +kernel
theorem dX4_part_98 : decode cX4_part 98 = .ok (.getfield 16, 3) := by decide +kernel
theorem dX4_part_101 : decode cX4_part 101 = .ok (.getfield 41, 3) := by decide +kernel
theorem dX4_part_104 : decode cX4_part 104 = .ok (.istore 6, 2) := by decide +kernel
theorem dX4_part_106 : decode cX4_part 106 = .ok (.aload_n 0, 1) := by decide +kernel
theorem dX4_part_107 : decode cX4_part 107 = .ok (.invokevirtual 100, 3) := by decide +kernel
theorem dX4_part_110 : decode cX4_part 110 = .ok (.aload_n 0, 1) := by decide +kernel
theorem dX4_part_111 : decode cX4_part 111 = .ok (.getfield 16, 3) := by decide +kernel
theorem dX4_part_114 : decode cX4_part 114 = .ok (.iload 5, 2) := by decide +kernel
theorem dX4_part_116 : decode cX4_part 116 = .ok (.putfield 61, 3) := by decide +kernel
theorem dX4_part_119 : decode cX4_part 119 = .ok (.aload_n 0, 1) := by decide +kernel
theorem dX4_part_120 : decode cX4_part 120 = .ok (.getfield 16, 3) := by decide +kernel
theorem dX4_part_123 : decode cX4_part 123 = .ok (.iload 6, 2) := by decide +kernel
theorem dX4_part_125 : decode cX4_part 125 = .ok (.putfield 41, 3) := by decide +kernel
theorem dX4_part_128 : decode cX4_part 128 = .ok (.aload_n 0, 1) := by decide +kernel
theorem dX4_part_129 : decode cX4_part 129 = .ok (.getfield 16, 3) := by decide +kernel
theorem dX4_part_132 : decode cX4_part 132 = .ok (.invokevirtual 65, 3) := by decide +kernel
theorem dX4_part_135 : decode cX4_part 135 = .ok (.aload_n 0, 1) := by decide +kernel
theorem dX4_part_136 : decode cX4_part 136 = .ok (.getfield 23, 3) := by decide +kernel
theorem dX4_part_139 : decode cX4_part 139 = .ok (.iconst 0, 1) := by decide +kernel
theorem dX4_part_140 : decode cX4_part 140 = .ok (.putfield 41, 3) := by decide +kernel
theorem dX4_part_143 : decode cX4_part 143 = .ok (.aload_n 0, 1) := by decide +kernel
theorem dX4_part_144 : decode cX4_part 144 = .ok (.getfield 23, 3) := by decide +kernel
theorem dX4_part_147 : decode cX4_part 147 = .ok (.invokevirtual 65, 3) := by decide +kernel
theorem dX4_part_150 : decode cX4_part 150 = .ok (.aload_n 0, 1) := by decide +kernel
theorem dX4_part_151 : decode cX4_part 151 = .ok (.getfield 23, 3) := by decide +kernel
theorem dX4_part_154 : decode cX4_part 154 = .ok (.getfield 37, 3) := by decide +kernel
theorem dX4_part_157 : decode cX4_part 157 = .ok (.sipush 190, 3) := by decide +kernel
theorem dX4_part_160 : decode cX4_part 160 = .ok (.if_icmp .gt 16, 3) := by decide +kernel
theorem dX4_part_163 : decode cX4_part 163 = .ok (.aload_n 0, 1) := by decide +kernel
theorem dX4_part_164 : decode cX4_part 164 = .ok (.getfield 16, 3) := by decide +kernel
theorem dX4_part_167 : decode cX4_part 167 = .ok (.getfield 37, 3) := by decide +kernel
theorem dX4_part_170 : decode cX4_part 170 = .ok (.sipush 190, 3) := by decide +kernel
theorem dX4_part_173 : decode cX4_part 173 = .ok (.if_icmp .le 6, 3) := by decide +kernel
theorem dX4_part_176 : decode cX4_part 176 = .ok (.bipush (-3), 2) := by decide +kernel
theorem dX4_part_178 : decode cX4_part 178 = .ok (.ireturn, 1) := by decide +kernel
theorem dX4_part_179 : decode cX4_part 179 = .ok (.aload_n 0, 1) := by decide +kernel
theorem dX4_part_180 : decode cX4_part 180 = .ok (.getfield 9, 3) := by decide +kernel
theorem dX4_part_183 : decode cX4_part 183 = .ok (.iload_n 1, 1) := by decide +kernel
theorem dX4_part_184 : decode cX4_part 184 = .ok (.aaload, 1) := by decide +kernel
theorem dX4_part_185 : decode cX4_part 185 = .ok (.aload_n 0, 1) := by decide +kernel
theorem dX4_part_186 : decode cX4_part 186 = .ok (.getfield 23, 3) := by decide +kernel
theorem dX4_part_189 : decode cX4_part 189 = .ok (.invokevirtual 48, 3) := by decide +kernel
theorem dX4_part_192 : decode cX4_part 192 = .ok (.aload_n 0, 1) := by decide +kernel
theorem dX4_part_193 : decode cX4_part 193 = .ok (.getfield 9, 3) := by decide +kernel
theorem dX4_part_196 : decode cX4_part 196 = .ok (.iload_n 2, 1) := by decide +kernel
theorem dX4_part_197 : decode cX4_part 197 = .ok (.aaload, 1) := by decide +kernel
theorem dX4_part_198 : decode cX4_part 198 = .ok (.aload_n 0, 1) := by decide +kernel
theorem dX4_part_199 : decode cX4_part 199 = .ok (.getfield 16, 3) := by decide +kernel
theorem dX4_part_202 : decode cX4_part 202 = .ok (.invokevirtual 48, 3) := by decide +kernel
theorem dX4_part_205 : decode cX4_part 205 = .ok (.aload_n 0, 1) := by decide +kernel
theorem dX4_part_206 : decode cX4_part 206 = .ok (.getfield 23, 3) := by decide +kernel
theorem dX4_part_209 : decode cX4_part 209 = .ok (.getfield 37, 3) := by decide +kernel
theorem dX4_part_212 : decode cX4_part 212 = .ok (.ireturn, 1) := by decide +kernel
set_option maxRecDepth 20000 in
theorem ggX4_cut_X3_ends : GoodIn wsX4_cut wsX3_ends := goodIn_r _ [9, 10, 11, 27, 28, 29, 30] (by decide +kernel) (by decide +kernel)
set_option maxRecDepth 20000 in
theorem gX4_cut_X3_ends : GoodIn wsX4_cut (wsV RX4 110 RX3 yX3_ends wsX3_ends) := goodIn_app (goodIn_of _ (by decide +kernel)) ggX4_cut_X3_ends
set_option maxRecDepth 20000 in
theorem ggX4_cut_X4_turns : GoodIn wsX4_cut wsX4_turns := goodIn_r _ [15] (by decide +kernel) (by decide +kernel)
set_option maxRecDepth 20000 in
theorem gX4_cut_X4_turns : GoodIn wsX4_cut (va_wsS RX4 103 yX4_turns wsX4_turns) := goodIn_app (goodIn_of _ (by decide +kernel)) ggX4_cut_X4_turns
set_option maxRecDepth 20000 in
theorem ggX4_cut_X3_more : GoodIn wsX4_cut wsX3_more := goodIn_r _ [19, 10, 11, 27, 28, 29, 30] (by decide +kernel) (by decide +kernel)
set_option maxRecDepth 20000 in
theorem gX4_cut_X3_more : GoodIn wsX4_cut (wsV RX4 107 RX3 yX3_more wsX3_more) := goodIn_app (goodIn_of _ (by decide +kernel)) ggX4_cut_X3_more
theorem dX4_cut_0 : decode cX4_cut 0 = .ok (.iload_n 1, 1) := by decide +kernel
theorem dX4_cut_1 : decode cX4_cut 1 = .ok (.ifCond .gt 5, 3) := by decide +kernel
theorem dX4_cut_4 : decode cX4_cut 4 = .ok (.iconst 1, 1) := by decide +kernel
theorem dX4_cut_5 : decode cX4_cut 5 = .ok (.ireturn, 1) := by decide +kernel
theorem dX4_cut_6 : decode cX4_cut 6 = .ok (.aload_n 0, 1) := by decide +kernel
theorem dX4_cut_7 : decode cX4_cut 7 = .ok (.getfield 16, 3) := by decide +kernel
theorem dX4_cut_10 : decode cX4_cut 10 = .ok (.iload_n 1, 1) := by decide +kernel
theorem dX4_cut_11 : decode cX4_cut 11 = .ok (.invokevirtual 110, 3) := by decide +kernel
theorem dX4_cut_14 : decode cX4_cut 14 = .ok (.istore_n 3, 1) := by decide +kernel
theorem dX4_cut_15 : decode cX4_cut 15 = .ok (.iload_n 1, 1) := by decide +kernel
theorem dX4_cut_16 : decode cX4_cut 16 = .ok (.iconst 1, 1) := by decide +kernel
theorem dX4_cut_17 : decode cX4_cut 17 = .ok (.isub, 1) := by decide +kernel
theorem dX4_cut_18 : decode cX4_cut 18 = .ok (.aload_n 0, 1) := by decide +kernel
theorem dX4_cut_19 : decode cX4_cut 19 = .ok (.getfield 16, 3) := by decide +kernel
theorem dX4_cut_22 : decode cX4_cut 22 = .ok (.getfield 37, 3) := by decide +kernel
theorem dX4_cut_25 : decode cX4_cut 25 = .ok (.if_icmp .ge 17, 3) := by decide +kernel
theorem dX4_cut_28 : decode cX4_cut 28 = .ok (.aload_n 0, 1) := by decide +kernel
theorem dX4_cut_29 : decode cX4_cut 29 = .ok (.getfield 16, 3) := by decide +kernel
theorem dX4_cut_32 : decode cX4_cut 32 = .ok (.getfield 58, 3) := by decide +kernel
theorem dX4_cut_35 : decode cX4_cut 35 = .ok (.iload_n 1, 1) := by decide +kernel
theorem dX4_cut_36 : decode cX4_cut 36 = .ok (.iconst 1, 1) := by decide +kernel
theorem dX4_cut_37 : decode cX4_cut 37 = .ok (.isub, 1) := by decide +kernel
theorem dX4_cut_38 : decode cX4_cut 38 = .ok (.iaload, 1) := by decide +kernel
theorem dX4_cut_39 : decode cX4_cut 39 = .ok (.goto 4, 3) := by decide +kernel
theorem dX4_cut_42 : decode cX4_cut 42 = .ok (.iconst 0, 1) := by decide +kernel
theorem dX4_cut_43 : decode cX4_cut 43 = .ok (.istore 4, 2) := by decide +kernel
theorem dX4_cut_45 : decode cX4_cut 45 = .ok (.iload 4, 2) := by decide +kernel
theorem dX4_cut_47 : decode cX4_cut 47 = .ok (.iconst 5, 1) := by decide +kernel
theorem dX4_cut_48 : decode cX4_cut 48 = .ok (.if_icmp .gt 22, 3) := by decide +kernel
theorem dX4_cut_51 : decode cX4_cut 51 = .ok (.iload 4, 2) := by decide +kernel
theorem dX4_cut_53 : decode cX4_cut 53 = .ok (.iconst 5, 1) := by decide +kernel
theorem dX4_cut_54 : decode cX4_cut 54 = .ok (.if_icmp .ne 20, 3) := by decide +kernel
theorem dX4_cut_57 : decode cX4_cut 57 = .ok (.aload_n 0, 1) := by decide +kernel
theorem dX4_cut_58 : decode cX4_cut 58 = .ok (.getfield 16, 3) := by decide +kernel
theorem dX4_cut_61 : decode cX4_cut 61 = .ok (.iload_n 1, 1) := by decide +kernel
theorem dX4_cut_62 : decode cX4_cut 62 = .ok (.iconst 1, 1) := by decide +kernel
theorem dX4_cut_63 : decode cX4_cut 63 = .ok (.isub, 1) := by decide +kernel
theorem dX4_cut_64 : decode cX4_cut 64 = .ok (.invokevirtual 110, 3) := by decide +kernel
theorem dX4_cut_67 : decode cX4_cut 67 = .ok (.ifCond .ne 7, 3) := by decide +kernel
theorem dX4_cut_70 : decode cX4_cut 70 = .ok (.iconst 1, 1) := by decide +kernel
theorem dX4_cut_71 : decode cX4_cut 71 = .ok (.goto 14, 3) := by decide +kernel
theorem dX4_cut_74 : decode cX4_cut 74 = .ok (.iload 4, 2) := by decide +kernel
theorem dX4_cut_76 : decode cX4_cut 76 = .ok (.iconst 5, 1) := by decide +kernel
theorem dX4_cut_77 : decode cX4_cut 77 = .ok (.if_icmp .ne 7, 3) := by decide +kernel
theorem dX4_cut_80 : decode cX4_cut 80 = .ok (.iconst 0, 1) := by decide +kernel
theorem dX4_cut_81 : decode cX4_cut 81 = .ok (.goto 4, 3) := by decide +kernel
theorem dX4_cut_84 : decode cX4_cut 84 = .ok (.iconst (-1), 1) := by decide +kernel
theorem dX4_cut_85 : decode cX4_cut 85 = .ok (.istore 5, 2) := by decide +kernel
theorem dX4_cut_87 : decode cX4_cut 87 = .ok (.aload_n 0, 1) := by decide +kernel
theorem dX4_cut_88 : decode cX4_cut 88 = .ok (.getfield 16, 3) := by decide +kernel
theorem dX4_cut_91 : decode cX4_cut 91 = .ok (.getfield 37, 3) := by decide +kernel
theorem dX4_cut_94 : decode cX4_cut 94 = .ok (.iload_n 1, 1) := by decide +kernel
theorem dX4_cut_95 : decode cX4_cut 95 = .ok (.isub, 1) := by decide +kernel
theorem dX4_cut_96 : decode cX4_cut 96 = .ok (.istore 6, 2) := by decide +kernel
theorem dX4_cut_98 : decode cX4_cut 98 = .ok (.iconst 0, 1) := by decide +kernel
theorem dX4_cut_99 : decode cX4_cut 99 = .ok (.istore 7, 2) := by decide +kernel
theorem dX4_cut_101 : decode cX4_cut 101 = .ok (.iload 7, 2) := by decide +kernel
theorem dX4_cut_103 : decode cX4_cut 103 = .ok (.iload 6, 2) := by decide +kernel
theorem dX4_cut_105 : decode cX4_cut 105 = .ok (.if_icmp .ge 31, 3) := by decide +kernel
theorem dX4_cut_108 : decode cX4_cut 108 = .ok (.aload_n 0, 1) := by decide +kernel
theorem dX4_cut_109 : decode cX4_cut 109 = .ok (.getfield 16, 3) := by decide +kernel
theorem dX4_cut_112 : decode cX4_cut 112 = .ok (.getfield 58, 3) := by decide +kernel
theorem dX4_cut_115 : decode cX4_cut 115 = .ok (.iload 7, 2) := by decide +kernel
theorem dX4_cut_117 : decode cX4_cut 117 = .ok (.aload_n 0, 1) := by decide +kernel
theorem dX4_cut_118 : decode cX4_cut 118 = .ok (.getfield 16, 3) := by decide +kernel
theorem dX4_cut_121 : decode cX4_cut 121 = .ok (.getfield 58, 3) := by decide +kernel
theorem dX4_cut_124 : decode cX4_cut 124 = .ok (.iload 7, 2) := by decide +kernel
theorem dX4_cut_126 : decode cX4_cut 126 = .ok (.iload_n 1, 1) := by decide +kernel
theorem dX4_cut_127 : decode cX4_cut 127 = .ok (.iadd, 1) := by decide +kernel
theorem dX4_cut_128 : decode cX4_cut 128 = .ok (.iaload, 1) := by decide +kernel
theorem dX4_cut_129 : decode cX4_cut 129 = .ok (.iastore, 1) := by decide +kernel
theorem dX4_cut_130 : decode cX4_cut 130 = .ok (.iinc 7 1, 3) := by decide +kernel
theorem dX4_cut_133 : decode cX4_cut 133 = .ok (.goto (-32), 3) := by decide +kernel
theorem dX4_cut_136 : decode cX4_cut 136 = .ok (.iload 6, 2) := by decide +kernel
theorem dX4_cut_138 : decode cX4_cut 138 = .ok (.iconst 1, 1) := by decide +kernel
theorem dX4_cut_139 : decode cX4_cut 139 = .ok (.if_icmp .ge 13, 3) := by decide +kernel
theorem dX4_cut_142 : decode cX4_cut 142 = .ok (.aload_n 0, 1) := by decide +kernel
theorem dX4_cut_143 : decode cX4_cut 143 = .ok (.getfield 16, 3) := by decide +kernel
theorem dX4_cut_146 : decode cX4_cut 146 = .ok (.getfield 58, 3) := by decide +kernel
theorem dX4_cut_149 : decode cX4_cut 149 = .ok (.iconst 0, 1) := by decide +kernel
theorem dX4_cut_150 : decode cX4_cut 150 = .ok (.iconst 0, 1) := by decide +kernel
theorem dX4_cut_151 : decode cX4_cut 151 = .ok (.iastore, 1) := by decide +kernel
theorem dX4_cut_152 : decode cX4_cut 152 = .ok (.aload_n 0, 1) := by decide +kernel
theorem dX4_cut_153 : decode cX4_cut 153 = .ok (.getfield 16, 3) := by decide +kernel
theorem dX4_cut_156 : decode cX4_cut 156 = .ok (.iload 6, 2) := by decide +kernel
theorem dX4_cut_158 : decode cX4_cut 158 = .ok (.iconst 1, 1) := by decide +kernel
theorem dX4_cut_159 : decode cX4_cut 159 = .ok (.if_icmp .ge 7, 3) := by decide +kernel
theorem dX4_cut_162 : decode cX4_cut 162 = .ok (.iconst 1, 1) := by decide +kernel
theorem dX4_cut_163 : decode cX4_cut 163 = .ok (.goto 5, 3) := by decide +kernel
theorem dX4_cut_166 : decode cX4_cut 166 = .ok (.iload 6, 2) := by decide +kernel
theorem dX4_cut_168 : decode cX4_cut 168 = .ok (.putfield 37, 3) := by decide +kernel
theorem dX4_cut_171 : decode cX4_cut 171 = .ok (.iload_n 3, 1) := by decide +kernel
theorem dX4_cut_172 : decode cX4_cut 172 = .ok (.ifCond .eq 5, 3) := by decide +kernel
theorem dX4_cut_175 : decode cX4_cut 175 = .ok (.iconst 1, 1) := by decide +kernel
theorem dX4_cut_176 : decode cX4_cut 176 = .ok (.ireturn, 1) := by decide +kernel
theorem dX4_cut_177 : decode cX4_cut 177 = .ok (.iload_n 2, 1) := by decide +kernel
theorem dX4_cut_178 : decode cX4_cut 178 = .ok (.bipush 7, 2) := by decide +kernel
theorem dX4_cut_180 : decode cX4_cut 180 = .ok (.if_icmp .ne 5, 3) := by decide +kernel
theorem dX4_cut_183 : decode cX4_cut 183 = .ok (.iconst 0, 1) := by decide +kernel
theorem dX4_cut_184 : decode cX4_cut 184 = .ok (.ireturn, 1) := by decide +kernel
theorem dX4_cut_185 : decode cX4_cut 185 = .ok (.iload_n 2, 1) := by decide +kernel
theorem dX4_cut_186 : decode cX4_cut 186 = .ok (.aload_n 0, 1) := by decide +kernel
theorem dX4_cut_187 : decode cX4_cut 187 = .ok (.getfield 16, 3) := by decide +kernel
theorem dX4_cut_190 : decode cX4_cut 190 = .ok (.getfield 61, 3) := by decide +kernel
theorem dX4_cut_193 : decode cX4_cut 193 = .ok (.iload 5, 2) := by decide +kernel
theorem dX4_cut_195 : decode cX4_cut 195 = .ok (.aload_n 0, 1) := by decide +kernel
theorem dX4_cut_196 : decode cX4_cut 196 = .ok (.getfield 16, 3) := by decide +kernel
theorem dX4_cut_199 : decode cX4_cut 199 = .ok (.getfield 58, 3) := by decide +kernel
theorem dX4_cut_202 : decode cX4_cut 202 = .ok (.iconst 0, 1) := by decide +kernel
theorem dX4_cut_203 : decode cX4_cut 203 = .ok (.iaload, 1) := by decide +kernel
theorem dX4_cut_204 : decode cX4_cut 204 = .ok (.iconst 2, 1) := by decide +kernel
theorem dX4_cut_205 : decode cX4_cut 205 = .ok (.irem, 1) := by decide +kernel
theorem dX4_cut_206 : decode cX4_cut 206 = .ok (.iconst 1, 1) := by decide +kernel
theorem dX4_cut_207 : decode cX4_cut 207 = .ok (.if_icmp .ne 7, 3) := by decide +kernel
theorem dX4_cut_210 : decode cX4_cut 210 = .ok (.iconst 1, 1) := by decide +kernel
theorem dX4_cut_211 : decode cX4_cut 211 = .ok (.goto 4, 3) := by decide +kernel
theorem dX4_cut_214 : decode cX4_cut 214 = .ok (.iconst 0, 1) := by decide +kernel
theorem dX4_cut_215 : decode cX4_cut 215 = .ok (.invokestatic 103, 3) := by decide +kernel
theorem dX4_cut_218 : decode cX4_cut 218 = .ok (.ifCond .eq 10, 3) := by decide +kernel
theorem dX4_cut_221 : decode cX4_cut 221 = .ok (.aload_n 0, 1) := by decide +kernel
theorem dX4_cut_222 : decode cX4_cut 222 = .ok (.getfield 16, 3) := by decide +kernel
theorem dX4_cut_225 : decode cX4_cut 225 = .ok (.invokevirtual 107, 3) := by decide +kernel
theorem dX4_cut_228 : decode cX4_cut 228 = .ok (.iconst 1, 1) := by decide +kernel
theorem dX4_cut_229 : decode cX4_cut 229 = .ok (.ireturn, 1) := by decide +kernel
set_option maxRecDepth 20000 in
theorem ggX4_scale_X4_is : GoodIn wsX4_scale wsX4_is := goodIn_r _ [7] (by decide +kernel) (by decide +kernel)
set_option maxRecDepth 20000 in
theorem gX4_scale_X4_is : GoodIn wsX4_scale (va_wsS RX4 52 yX4_is wsX4_is) := goodIn_app (goodIn_of _ (by decide +kernel)) ggX4_scale_X4_is
set_option maxRecDepth 20000 in
theorem ggX4_scale_X4_isScale : GoodIn wsX4_scale wsX4_isScale := goodIn_r _ [10, 11, 12] (by decide +kernel) (by decide +kernel)
set_option maxRecDepth 20000 in
theorem gX4_scale_X4_isScale : GoodIn wsX4_scale (va_wsS RX4 44 yX4_isScale wsX4_isScale) := goodIn_app (goodIn_of _ (by decide +kernel)) ggX4_scale_X4_isScale
set_option maxRecDepth 20000 in
theorem ggX4_scale_X3_take : GoodIn wsX4_scale wsX3_take := goodIn_r _ [17, 18, 19, 20, 21, 63, 64, 65, 66] (by decide +kernel) (by decide +kernel)
set_option maxRecDepth 20000 in
theorem gX4_scale_X3_take : GoodIn wsX4_scale (wsV RX4 48 RX3 yX3_take wsX3_take) := goodIn_app (goodIn_of _ (by decide +kernel)) ggX4_scale_X3_take
set_option maxRecDepth 20000 in
theorem ggX4_scale_X3_up : GoodIn wsX4_scale wsX3_up := goodIn_r _ [25, 18, 21, 26, 27, 28, 16, 29, 63, 64, 65, 66] (by decide +kernel) (by decide +kernel)
set_option maxRecDepth 20000 in
theorem gX4_scale_X3_up : GoodIn wsX4_scale (wsV RX4 72 RX3 yX3_up wsX3_up) := goodIn_app (goodIn_of _ (by decide +kernel)) ggX4_scale_X3_up
set_option maxRecDepth 20000 in
theorem ggX4_scale_X4_cut : GoodIn wsX4_scale wsX4_cut := goodIn_r _ [33, 1, 34, 35, 36, 37, 38, 39, 16, 40, 18, 21, 41, 42, 6, 43, 44, 45, 46, 47, 56, 57, 58, 59, 60, 61, 62, 63, 64, 65, 66] (by decide +kernel) (by decide +kernel)
set_option maxRecDepth 20000 in
theorem gX4_scale_X4_cut : GoodIn wsX4_scale (wsV RX4 113 RX4 yX4_cut wsX4_cut) := goodIn_app (goodIn_of _ (by decide +kernel)) ggX4_scale_X4_cut
set_option maxRecDepth 20000 in
theorem ggX4_scale_X3_trim : GoodIn wsX4_scale wsX3_trim := goodIn_r _ [51, 18, 21, 19, 26, 27, 28, 16, 29, 63, 64, 65, 66] (by decide +kernel) (by decide +kernel)
set_option maxRecDepth 20000 in
theorem gX4_scale_X3_trim : GoodIn wsX4_scale (wsV RX4 65 RX3 yX3_trim wsX3_trim) := goodIn_app (goodIn_of _ (by decide +kernel)) ggX4_scale_X3_trim
set_option maxRecDepth 20000 in
theorem ggX4_scale_X4_keep : GoodIn wsX4_scale wsX4_keep := goodIn_r _ [55, 34, 3, 2, 8, 9, 6, 10, 11, 12, 13, 14, 15, 16, 17, 18, 19, 20, 21, 63, 64, 65, 66, 56, 57, 58, 59, 60, 61, 62] (by decide +kernel) (by decide +kernel)
set_option maxRecDepth 20000 in
theorem gX4_scale_X4_keep : GoodIn wsX4_scale (wsV RX4 68 RX4 yX4_keep wsX4_keep) := goodIn_app (goodIn_of _ (by decide +kernel)) ggX4_scale_X4_keep
theorem dX4_scale_0 : decode cX4_scale 0 = .ok (.iload_n 1, 1) := by decide +kernel
theorem dX4_scale_1 : decode cX4_scale 1 = .ok (.invokestatic 52, 3) := by decide +kernel
theorem dX4_scale_4 : decode cX4_scale 4 = .ok (.ifCond .eq 22, 3) := by decide +kernel
theorem dX4_scale_7 : decode cX4_scale 7 = .ok (.iload_n 2, 1) := by decide +kernel
theorem dX4_scale_8 : decode cX4_scale 8 = .ok (.invokestatic 52, 3) := by decide +kernel
theorem dX4_scale_11 : decode cX4_scale 11 = .ok (.ifCond .eq 15, 3) := by decide +kernel
theorem dX4_scale_14 : decode cX4_scale 14 = .ok (.iload 4, 2) := by decide +kernel
theorem dX4_scale_16 : decode cX4_scale 16 = .ok (.ifCond .lt 10, 3) := by decide +kernel
theorem dX4_scale_19 : decode cX4_scale 19 = .ok (.iload 4, 2) := by decide +kernel
theorem dX4_scale_21 : decode cX4_scale 21 = .ok (.bipush 7, 2) := by decide +kernel
theorem dX4_scale_23 : decode cX4_scale 23 = .ok (.if_icmp .le 5, 3) := by decide +kernel
theorem dX4_scale_26 : decode cX4_scale 26 = .ok (.iconst (-1), 1) := by decide +kernel
theorem dX4_scale_27 : decode cX4_scale 27 = .ok (.ireturn, 1) := by decide +kernel
theorem dX4_scale_28 : decode cX4_scale 28 = .ok (.iload_n 3, 1) := by decide +kernel
theorem dX4_scale_29 : decode cX4_scale 29 = .ok (.i2l, 1) := by decide +kernel
theorem dX4_scale_30 : decode cX4_scale 30 = .ok (.invokestatic 44, 3) := by decide +kernel
theorem dX4_scale_33 : decode cX4_scale 33 = .ok (.ifCond .ne 6, 3) := by decide +kernel
theorem dX4_scale_36 : decode cX4_scale 36 = .ok (.bipush (-3), 2) := by decide +kernel
theorem dX4_scale_38 : decode cX4_scale 38 = .ok (.ireturn, 1) := by decide +kernel
theorem dX4_scale_39 : decode cX4_scale 39 = .ok (.aload_n 0, 1) := by decide +kernel
theorem dX4_scale_40 : decode cX4_scale 40 = .ok (.getfield 16, 3) := by decide +kernel
theorem dX4_scale_43 : decode cX4_scale 43 = .ok (.aload_n 0, 1) := by decide +kernel
theorem dX4_scale_44 : decode cX4_scale 44 = .ok (.getfield 9, 3) := by decide +kernel
theorem dX4_scale_47 : decode cX4_scale 47 = .ok (.iload_n 2, 1) := by decide +kernel
theorem dX4_scale_48 : decode cX4_scale 48 = .ok (.aaload, 1) := by decide +kernel
theorem dX4_scale_49 : decode cX4_scale 49 = .ok (.invokevirtual 48, 3) := by decide +kernel
theorem dX4_scale_52 : decode cX4_scale 52 = .ok (.iload_n 3, 1) := by decide +kernel
theorem dX4_scale_53 : decode cX4_scale 53 = .ok (.aload_n 0, 1) := by decide +kernel
theorem dX4_scale_54 : decode cX4_scale 54 = .ok (.getfield 16, 3) := by decide +kernel
theorem dX4_scale_57 : decode cX4_scale 57 = .ok (.getfield 41, 3) := by decide +kernel
theorem dX4_scale_60 : decode cX4_scale 60 = .ok (.if_icmp .lt 22, 3) := by decide +kernel
theorem dX4_scale_63 : decode cX4_scale 63 = .ok (.aload_n 0, 1) := by decide +kernel
theorem dX4_scale_64 : decode cX4_scale 64 = .ok (.getfield 16, 3) := by decide +kernel
theorem dX4_scale_67 : decode cX4_scale 67 = .ok (.iload_n 3, 1) := by decide +kernel
theorem dX4_scale_68 : decode cX4_scale 68 = .ok (.aload_n 0, 1) := by decide +kernel
theorem dX4_scale_69 : decode cX4_scale 69 = .ok (.getfield 16, 3) := by decide +kernel
theorem dX4_scale_72 : decode cX4_scale 72 = .ok (.getfield 41, 3) := by decide +kernel
theorem dX4_scale_75 : decode cX4_scale 75 = .ok (.isub, 1) := by decide +kernel
theorem dX4_scale_76 : decode cX4_scale 76 = .ok (.invokevirtual 72, 3) := by decide +kernel
theorem dX4_scale_79 : decode cX4_scale 79 = .ok (.goto 24, 3) := by decide +kernel
theorem dX4_scale_82 : decode cX4_scale 82 = .ok (.aload_n 0, 1) := by decide +kernel
theorem dX4_scale_83 : decode cX4_scale 83 = .ok (.aload_n 0, 1) := by decide +kernel
theorem dX4_scale_84 : decode cX4_scale 84 = .ok (.getfield 16, 3) := by decide +kernel
theorem dX4_scale_87 : decode cX4_scale 87 = .ok (.getfield 41, 3) := by decide +kernel
theorem dX4_scale_90 : decode cX4_scale 90 = .ok (.iload_n 3, 1) := by decide +kernel
theorem dX4_scale_91 : decode cX4_scale 91 = .ok (.isub, 1) := by decide +kernel
theorem dX4_scale_92 : decode cX4_scale 92 = .ok (.iload 4, 2) := by decide +kernel
theorem dX4_scale_94 : decode cX4_scale 94 = .ok (.invokevirtual 113, 3) := by decide +kernel
theorem dX4_scale_97 : decode cX4_scale 97 = .ok (.ifCond .ne 6, 3) := by decide +kernel
theorem dX4_scale_100 : decode cX4_scale 100 = .ok (.bipush (-4), 2) := by decide +kernel
theorem dX4_scale_102 : decode cX4_scale 102 = .ok (.ireturn, 1) := by decide +kernel
theorem dX4_scale_103 : decode cX4_scale 103 = .ok (.aload_n 0, 1) := by decide +kernel
theorem dX4_scale_104 : decode cX4_scale 104 = .ok (.getfield 16, 3) := by decide +kernel
theorem dX4_scale_107 : decode cX4_scale 107 = .ok (.iload_n 3, 1) := by decide +kernel
theorem dX4_scale_108 : decode cX4_scale 108 = .ok (.putfield 41, 3) := by decide +kernel
theorem dX4_scale_111 : decode cX4_scale 111 = .ok (.aload_n 0, 1) := by decide +kernel
theorem dX4_scale_112 : decode cX4_scale 112 = .ok (.getfield 16, 3) := by decide +kernel
theorem dX4_scale_115 : decode cX4_scale 115 = .ok (.invokevirtual 65, 3) := by decide +kernel
theorem dX4_scale_118 : decode cX4_scale 118 = .ok (.aload_n 0, 1) := by decide +kernel
theorem dX4_scale_119 : decode cX4_scale 119 = .ok (.iload_n 1, 1) := by decide +kernel
theorem dX4_scale_120 : decode cX4_scale 120 = .ok (.aload_n 0, 1) := by decide +kernel
theorem dX4_scale_121 : decode cX4_scale 121 = .ok (.getfield 16, 3) := by decide +kernel
theorem dX4_scale_124 : decode cX4_scale 124 = .ok (.invokevirtual 68, 3) := by decide +kernel
theorem dX4_scale_127 : decode cX4_scale 127 = .ok (.ireturn, 1) := by decide +kernel
set_option maxRecDepth 20000 in
theorem ggX4_round_X4_is : GoodIn wsX4_round wsX4_is := goodIn_r _ [8] (by decide +kernel) (by decide +kernel)
set_option maxRecDepth 20000 in
theorem gX4_round_X4_is : GoodIn wsX4_round (va_wsS RX4 52 yX4_is wsX4_is) := goodIn_app (goodIn_of _ (by decide +kernel)) ggX4_round_X4_is
set_option maxRecDepth 20000 in
theorem ggX4_round_X3_take : GoodIn wsX4_round wsX3_take := goodIn_r _ [13, 14, 15, 16, 17, 51, 52, 53, 54] (by decide +kernel) (by decide +kernel)
set_option maxRecDepth 20000 in
theorem gX4_round_X3_take : GoodIn wsX4_round (wsV RX4 48 RX3 yX3_take wsX3_take) := goodIn_app (goodIn_of _ (by decide +kernel)) ggX4_round_X3_take
set_option maxRecDepth 20000 in
theorem ggX4_round_X4_cut : GoodIn wsX4_round wsX4_cut := goodIn_r _ [21, 3, 2, 22, 23, 24, 25, 26, 12, 27, 14, 17, 28, 29, 7, 30, 31, 32, 33, 34, 44, 45, 46, 47, 48, 49, 50, 51, 52, 53, 54] (by decide +kernel) (by decide +kernel)
set_option maxRecDepth 20000 in
theorem gX4_round_X4_cut : GoodIn wsX4_round (wsV RX4 113 RX4 yX4_cut wsX4_cut) := goodIn_app (goodIn_of _ (by decide +kernel)) ggX4_round_X4_cut
set_option maxRecDepth 20000 in
theorem ggX4_round_X4_keep : GoodIn wsX4_round wsX4_keep := goodIn_r _ [38, 2, 4, 1, 39, 40, 7, 41, 42, 43, 9, 10, 11, 12, 13, 14, 15, 16, 17, 51, 52, 53, 54, 44, 45, 46, 47, 48, 49, 50] (by decide +kernel) (by decide +kernel)
set_option maxRecDepth 20000 in
theorem gX4_round_X4_keep : GoodIn wsX4_round (wsV RX4 68 RX4 yX4_keep wsX4_keep) := goodIn_app (goodIn_of _ (by decide +kernel)) ggX4_round_X4_keep
theorem dX4_round_0 : decode cX4_round 0 = .ok (.iload_n 1, 1) := by decide +kernel
theorem dX4_round_1 : decode cX4_round 1 = .ok (.invokestatic 52, 3) := by decide +kernel
theorem dX4_round_4 : decode cX4_round 4 = .ok (.ifCond .eq 43, 3) := by decide +kernel
theorem dX4_round_7 : decode cX4_round 7 = .ok (.iload_n 2, 1) := by decide +kernel
theorem dX4_round_8 : decode cX4_round 8 = .ok (.invokestatic 52, 3) := by decide +kernel
theorem dX4_round_11 : decode cX4_round 11 = .ok (.ifCond .eq 36, 3) := by decide +kernel
theorem dX4_round_14 : decode cX4_round 14 = .ok (.iload 4, 2) := by decide +kernel
theorem dX4_round_16 : decode cX4_round 16 = .ok (.ifCond .lt 31, 3) := by decide +kernel
theorem dX4_round_19 : decode cX4_round 19 = .ok (.iload 4, 2) := by decide +kernel
theorem dX4_round_21 : decode cX4_round 21 = .ok (.bipush 7, 2) := by decide +kernel
theorem dX4_round_23 : decode cX4_round 23 = .ok (.if_icmp .gt 24, 3) := by decide +kernel
theorem dX4_round_26 : decode cX4_round 26 = .ok (.iload_n 3, 1) := by decide +kernel
theorem dX4_round_27 : decode cX4_round 27 = .ok (.iconst 1, 1) := by decide +kernel
theorem dX4_round_28 : decode cX4_round 28 = .ok (.if_icmp .lt 19, 3) := by decide +kernel
theorem dX4_round_31 : decode cX4_round 31 = .ok (.aload_n 0, 1) := by decide +kernel
theorem dX4_round_32 : decode cX4_round 32 = .ok (.getfield 9, 3) := by decide +kernel
theorem dX4_round_35 : decode cX4_round 35 = .ok (.iload_n 2, 1) := by decide +kernel
theorem dX4_round_36 : decode cX4_round 36 = .ok (.aaload, 1) := by decide +kernel
theorem dX4_round_37 : decode cX4_round 37 = .ok (.getfield 37, 3) := by decide +kernel
theorem dX4_round_40 : decode cX4_round 40 = .ok (.iload_n 3, 1) := by decide +kernel
theorem dX4_round_41 : decode cX4_round 41 = .ok (.isub, 1) := by decide +kernel
theorem dX4_round_42 : decode cX4_round 42 = .ok (.bipush 18, 2) := by decide +kernel
theorem dX4_round_44 : decode cX4_round 44 = .ok (.if_icmp .le 5, 3) := by decide +kernel
theorem dX4_round_47 : decode cX4_round 47 = .ok (.iconst (-1), 1) := by decide +kernel
theorem dX4_round_48 : decode cX4_round 48 = .ok (.ireturn, 1) := by decide +kernel
theorem dX4_round_49 : decode cX4_round 49 = .ok (.aload_n 0, 1) := by decide +kernel
theorem dX4_round_50 : decode cX4_round 50 = .ok (.getfield 16, 3) := by decide +kernel
theorem dX4_round_53 : decode cX4_round 53 = .ok (.aload_n 0, 1) := by decide +kernel
theorem dX4_round_54 : decode cX4_round 54 = .ok (.getfield 9, 3) := by decide +kernel
theorem dX4_round_57 : decode cX4_round 57 = .ok (.iload_n 2, 1) := by decide +kernel
theorem dX4_round_58 : decode cX4_round 58 = .ok (.aaload, 1) := by decide +kernel
theorem dX4_round_59 : decode cX4_round 59 = .ok (.invokevirtual 48, 3) := by decide +kernel
theorem dX4_round_62 : decode cX4_round 62 = .ok (.aload_n 0, 1) := by decide +kernel
theorem dX4_round_63 : decode cX4_round 63 = .ok (.getfield 16, 3) := by decide +kernel
theorem dX4_round_66 : decode cX4_round 66 = .ok (.getfield 37, 3) := by decide +kernel
theorem dX4_round_69 : decode cX4_round 69 = .ok (.iload_n 3, 1) := by decide +kernel
theorem dX4_round_70 : decode cX4_round 70 = .ok (.if_icmp .le 45, 3) := by decide +kernel
theorem dX4_round_73 : decode cX4_round 73 = .ok (.aload_n 0, 1) := by decide +kernel
theorem dX4_round_74 : decode cX4_round 74 = .ok (.getfield 16, 3) := by decide +kernel
theorem dX4_round_77 : decode cX4_round 77 = .ok (.getfield 37, 3) := by decide +kernel
theorem dX4_round_80 : decode cX4_round 80 = .ok (.iload_n 3, 1) := by decide +kernel
theorem dX4_round_81 : decode cX4_round 81 = .ok (.isub, 1) := by decide +kernel
theorem dX4_round_82 : decode cX4_round 82 = .ok (.istore 5, 2) := by decide +kernel
theorem dX4_round_84 : decode cX4_round 84 = .ok (.aload_n 0, 1) := by decide +kernel
theorem dX4_round_85 : decode cX4_round 85 = .ok (.iload 5, 2) := by decide +kernel
theorem dX4_round_87 : decode cX4_round 87 = .ok (.iload 4, 2) := by decide +kernel
theorem dX4_round_89 : decode cX4_round 89 = .ok (.invokevirtual 113, 3) := by decide +kernel
theorem dX4_round_92 : decode cX4_round 92 = .ok (.ifCond .ne 6, 3) := by decide +kernel
theorem dX4_round_95 : decode cX4_round 95 = .ok (.bipush (-4), 2) := by decide +kernel
theorem dX4_round_97 : decode cX4_round 97 = .ok (.ireturn, 1) := by decide +kernel
theorem dX4_round_98 : decode cX4_round 98 = .ok (.aload_n 0, 1) := by decide +kernel
theorem dX4_round_99 : decode cX4_round 99 = .ok (.getfield 16, 3) := by decide +kernel
theorem dX4_round_102 : decode cX4_round 102 = .ok (.dup, 1) := by decide +kernel
theorem dX4_round_103 : decode cX4_round 103 = .ok (.getfield 41, 3) := by decide +kernel
theorem dX4_round_106 : decode cX4_round 106 = .ok (.iload 5, 2) := by decide +kernel
theorem dX4_round_108 : decode cX4_round 108 = .ok (.isub, 1) := by decide +kernel
theorem dX4_round_109 : decode cX4_round 109 = .ok (.putfield 41, 3) := by decide +kernel
theorem dX4_round_112 : decode cX4_round 112 = .ok (.goto (-50), 3) := by decide +kernel
theorem dX4_round_115 : decode cX4_round 115 = .ok (.aload_n 0, 1) := by decide +kernel
theorem dX4_round_116 : decode cX4_round 116 = .ok (.iload_n 1, 1) := by decide +kernel
theorem dX4_round_117 : decode cX4_round 117 = .ok (.aload_n 0, 1) := by decide +kernel
theorem dX4_round_118 : decode cX4_round 118 = .ok (.getfield 16, 3) := by decide +kernel
theorem dX4_round_121 : decode cX4_round 121 = .ok (.invokevirtual 68, 3) := by decide +kernel
theorem dX4_round_124 : decode cX4_round 124 = .ok (.ireturn, 1) := by decide +kernel
set_option maxRecDepth 20000 in
theorem ggX4_turn_X4_is : GoodIn wsX4_turn wsX4_is := goodIn_r _ [10] (by decide +kernel) (by decide +kernel)
set_option maxRecDepth 20000 in
theorem gX4_turn_X4_is : GoodIn wsX4_turn (va_wsS RX4 52 yX4_is wsX4_is) := goodIn_app (goodIn_of _ (by decide +kernel)) ggX4_turn_X4_is
set_option maxRecDepth 20000 in
theorem ggX4_turn_X3_take : GoodIn wsX4_turn wsX3_take := goodIn_r _ [15, 16, 17, 18, 19, 55, 56, 57, 58] (by decide +kernel) (by decide +kernel)
set_option maxRecDepth 20000 in
theorem gX4_turn_X3_take : GoodIn wsX4_turn (wsV RX4 48 RX3 yX3_take wsX3_take) := goodIn_app (goodIn_of _ (by decide +kernel)) ggX4_turn_X3_take
set_option maxRecDepth 20000 in
theorem ggX4_turn_X3_isZero : GoodIn wsX4_turn wsX3_isZero := goodIn_r _ [23, 16, 19, 55, 56, 57, 58] (by decide +kernel) (by decide +kernel)
set_option maxRecDepth 20000 in
theorem gX4_turn_X3_isZero : GoodIn wsX4_turn (wsV RX4 84 RX3 yX3_isZero wsX3_isZero) := goodIn_app (goodIn_of _ (by decide +kernel)) ggX4_turn_X3_isZero
set_option maxRecDepth 20000 in
theorem ggX4_turn_X4_cut : GoodIn wsX4_turn wsX4_cut := goodIn_r _ [27, 1, 4, 5, 3, 28, 29, 30, 14, 31, 16, 19, 32, 33, 9, 34, 35, 36, 37, 38, 48, 49, 50, 51, 52, 53, 54, 55, 56, 57, 58] (by decide +kernel) (by decide +kernel)
set_option maxRecDepth 20000 in
theorem gX4_turn_X4_cut : GoodIn wsX4_turn (wsV RX4 113 RX4 yX4_cut wsX4_cut) := goodIn_app (goodIn_of _ (by decide +kernel)) ggX4_turn_X4_cut
set_option maxRecDepth 20000 in
theorem ggX4_turn_X4_keep : GoodIn wsX4_turn wsX4_keep := goodIn_r _ [42, 4, 6, 2, 43, 44, 9, 45, 46, 47, 11, 12, 13, 14, 15, 16, 17, 18, 19, 55, 56, 57, 58, 48, 49, 50, 51, 52, 53, 54] (by decide +kernel) (by decide +kernel)
set_option maxRecDepth 20000 in
theorem gX4_turn_X4_keep : GoodIn wsX4_turn (wsV RX4 68 RX4 yX4_keep wsX4_keep) := goodIn_app (goodIn_of _ (by decide +kernel)) ggX4_turn_X4_keep
theorem dX4_turn_0 : decode cX4_turn 0 = .ok (.iload_n 2, 1) := by decide +kernel
theorem dX4_turn_1 : decode cX4_turn 1 = .ok (.invokestatic 52, 3) := by decide +kernel
theorem dX4_turn_4 : decode cX4_turn 4 = .ok (.ifCond .eq 19, 3) := by decide +kernel
theorem dX4_turn_7 : decode cX4_turn 7 = .ok (.iload_n 3, 1) := by decide +kernel
theorem dX4_turn_8 : decode cX4_turn 8 = .ok (.invokestatic 52, 3) := by decide +kernel
theorem dX4_turn_11 : decode cX4_turn 11 = .ok (.ifCond .eq 12, 3) := by decide +kernel
theorem dX4_turn_14 : decode cX4_turn 14 = .ok (.iload_n 1, 1) := by decide +kernel
theorem dX4_turn_15 : decode cX4_turn 15 = .ok (.ifCond .lt 8, 3) := by decide +kernel
theorem dX4_turn_18 : decode cX4_turn 18 = .ok (.iload_n 1, 1) := by decide +kernel
theorem dX4_turn_19 : decode cX4_turn 19 = .ok (.iconst 2, 1) := by decide +kernel
theorem dX4_turn_20 : decode cX4_turn 20 = .ok (.if_icmp .le 5, 3) := by decide +kernel
theorem dX4_turn_23 : decode cX4_turn 23 = .ok (.iconst (-1), 1) := by decide +kernel
theorem dX4_turn_24 : decode cX4_turn 24 = .ok (.ireturn, 1) := by decide +kernel
theorem dX4_turn_25 : decode cX4_turn 25 = .ok (.aload_n 0, 1) := by decide +kernel
theorem dX4_turn_26 : decode cX4_turn 26 = .ok (.getfield 16, 3) := by decide +kernel
theorem dX4_turn_29 : decode cX4_turn 29 = .ok (.aload_n 0, 1) := by decide +kernel
theorem dX4_turn_30 : decode cX4_turn 30 = .ok (.getfield 9, 3) := by decide +kernel
theorem dX4_turn_33 : decode cX4_turn 33 = .ok (.iload_n 3, 1) := by decide +kernel
theorem dX4_turn_34 : decode cX4_turn 34 = .ok (.aaload, 1) := by decide +kernel
theorem dX4_turn_35 : decode cX4_turn 35 = .ok (.invokevirtual 48, 3) := by decide +kernel
theorem dX4_turn_38 : decode cX4_turn 38 = .ok (.iload_n 1, 1) := by decide +kernel
theorem dX4_turn_39 : decode cX4_turn 39 = .ok (.ifCond .ne 11, 3) := by decide +kernel
theorem dX4_turn_42 : decode cX4_turn 42 = .ok (.aload_n 0, 1) := by decide +kernel
theorem dX4_turn_43 : decode cX4_turn 43 = .ok (.getfield 16, 3) := by decide +kernel
theorem dX4_turn_46 : decode cX4_turn 46 = .ok (.iconst 0, 1) := by decide +kernel
theorem dX4_turn_47 : decode cX4_turn 47 = .ok (.putfield 61, 3) := by decide +kernel
theorem dX4_turn_50 : decode cX4_turn 50 = .ok (.iload_n 1, 1) := by decide +kernel
theorem dX4_turn_51 : decode cX4_turn 51 = .ok (.iconst 1, 1) := by decide +kernel
theorem dX4_turn_52 : decode cX4_turn 52 = .ok (.if_icmp .ne 35, 3) := by decide +kernel
theorem dX4_turn_55 : decode cX4_turn 55 = .ok (.aload_n 0, 1) := by decide +kernel
theorem dX4_turn_56 : decode cX4_turn 56 = .ok (.getfield 16, 3) := by decide +kernel
theorem dX4_turn_59 : decode cX4_turn 59 = .ok (.aload_n 0, 1) := by decide +kernel
theorem dX4_turn_60 : decode cX4_turn 60 = .ok (.getfield 16, 3) := by decide +kernel
theorem dX4_turn_63 : decode cX4_turn 63 = .ok (.getfield 61, 3) := by decide +kernel
theorem dX4_turn_66 : decode cX4_turn 66 = .ok (.ifCond .ne 17, 3) := by decide +kernel
theorem dX4_turn_69 : decode cX4_turn 69 = .ok (.aload_n 0, 1) := by decide +kernel
theorem dX4_turn_70 : decode cX4_turn 70 = .ok (.getfield 16, 3) := by decide +kernel
theorem dX4_turn_73 : decode cX4_turn 73 = .ok (.invokevirtual 84, 3) := by decide +kernel
theorem dX4_turn_76 : decode cX4_turn 76 = .ok (.ifCond .ne 7, 3) := by decide +kernel
theorem dX4_turn_79 : decode cX4_turn 79 = .ok (.iconst 1, 1) := by decide +kernel
theorem dX4_turn_80 : decode cX4_turn 80 = .ok (.goto 4, 3) := by decide +kernel
theorem dX4_turn_83 : decode cX4_turn 83 = .ok (.iconst 0, 1) := by decide +kernel
theorem dX4_turn_84 : decode cX4_turn 84 = .ok (.putfield 61, 3) := by decide +kernel
theorem dX4_turn_87 : decode cX4_turn 87 = .ok (.iload_n 1, 1) := by decide +kernel
theorem dX4_turn_88 : decode cX4_turn 88 = .ok (.iconst 2, 1) := by decide +kernel
theorem dX4_turn_89 : decode cX4_turn 89 = .ok (.if_icmp .ne 78, 3) := by decide +kernel
theorem dX4_turn_92 : decode cX4_turn 92 = .ok (.iconst 0, 1) := by decide +kernel
theorem dX4_turn_93 : decode cX4_turn 93 = .ok (.istore 4, 2) := by decide +kernel
theorem dX4_turn_95 : decode cX4_turn 95 = .ok (.iload 4, 2) := by decide +kernel
theorem dX4_turn_97 : decode cX4_turn 97 = .ok (.aload_n 0, 1) := by decide +kernel
theorem dX4_turn_98 : decode cX4_turn 98 = .ok (.getfield 16, 3) := by decide +kernel
theorem dX4_turn_101 : decode cX4_turn 101 = .ok (.getfield 37, 3) := by decide +kernel
theorem dX4_turn_104 : decode cX4_turn 104 = .ok (.iconst 1, 1) := by decide +kernel
theorem dX4_turn_105 : decode cX4_turn 105 = .ok (.isub, 1) := by decide +kernel
theorem dX4_turn_106 : decode cX4_turn 106 = .ok (.if_icmp .ge 22, 3) := by decide +kernel
theorem dX4_turn_109 : decode cX4_turn 109 = .ok (.aload_n 0, 1) := by decide +kernel
theorem dX4_turn_110 : decode cX4_turn 110 = .ok (.getfield 16, 3) := by decide +kernel
theorem dX4_turn_113 : decode cX4_turn 113 = .ok (.getfield 58, 3) := by decide +kernel
theorem dX4_turn_116 : decode cX4_turn 116 = .ok (.iload 4, 2) := by decide +kernel
theorem dX4_turn_118 : decode cX4_turn 118 = .ok (.iaload, 1) := by decide +kernel
theorem dX4_turn_119 : decode cX4_turn 119 = .ok (.ifCond .ne 9, 3) := by decide +kernel
theorem dX4_turn_122 : decode cX4_turn 122 = .ok (.iinc 4 1, 3) := by decide +kernel
theorem dX4_turn_125 : decode cX4_turn 125 = .ok (.goto (-30), 3) := by decide +kernel
theorem dX4_turn_128 : decode cX4_turn 128 = .ok (.aload_n 0, 1) := by decide +kernel
theorem dX4_turn_129 : decode cX4_turn 129 = .ok (.iload 4, 2) := by decide +kernel
theorem dX4_turn_131 : decode cX4_turn 131 = .ok (.iconst 1, 1) := by decide +kernel
theorem dX4_turn_132 : decode cX4_turn 132 = .ok (.invokevirtual 113, 3) := by decide +kernel
theorem dX4_turn_135 : decode cX4_turn 135 = .ok (.pop, 1) := by decide +kernel
theorem dX4_turn_136 : decode cX4_turn 136 = .ok (.aload_n 0, 1) := by decide +kernel
theorem dX4_turn_137 : decode cX4_turn 137 = .ok (.getfield 16, 3) := by decide +kernel
theorem dX4_turn_140 : decode cX4_turn 140 = .ok (.aload_n 0, 1) := by decide +kernel
theorem dX4_turn_141 : decode cX4_turn 141 = .ok (.getfield 16, 3) := by decide +kernel
theorem dX4_turn_144 : decode cX4_turn 144 = .ok (.invokevirtual 84, 3) := by decide +kernel
theorem dX4_turn_147 : decode cX4_turn 147 = .ok (.ifCond .eq 7, 3) := by decide +kernel
theorem dX4_turn_150 : decode cX4_turn 150 = .ok (.iconst 0, 1) := by decide +kernel
theorem dX4_turn_151 : decode cX4_turn 151 = .ok (.goto 13, 3) := by decide +kernel
theorem dX4_turn_154 : decode cX4_turn 154 = .ok (.aload_n 0, 1) := by decide +kernel
theorem dX4_turn_155 : decode cX4_turn 155 = .ok (.getfield 16, 3) := by decide +kernel
theorem dX4_turn_158 : decode cX4_turn 158 = .ok (.getfield 41, 3) := by decide +kernel
theorem dX4_turn_161 : decode cX4_turn 161 = .ok (.iload 4, 2) := by decide +kernel
theorem dX4_turn_163 : decode cX4_turn 163 = .ok (.isub, 1) := by decide +kernel
theorem dX4_turn_164 : decode cX4_turn 164 = .ok (.putfield 41, 3) := by decide +kernel
theorem dX4_turn_167 : decode cX4_turn 167 = .ok (.aload_n 0, 1) := by decide +kernel
theorem dX4_turn_168 : decode cX4_turn 168 = .ok (.iload_n 2, 1) := by decide +kernel
theorem dX4_turn_169 : decode cX4_turn 169 = .ok (.aload_n 0, 1) := by decide +kernel
theorem dX4_turn_170 : decode cX4_turn 170 = .ok (.getfield 16, 3) := by decide +kernel
theorem dX4_turn_173 : decode cX4_turn 173 = .ok (.invokevirtual 68, 3) := by decide +kernel
theorem dX4_turn_176 : decode cX4_turn 176 = .ok (.ireturn, 1) := by decide +kernel
set_option maxRecDepth 20000 in
theorem ggX4_move_X4_is : GoodIn wsX4_move wsX4_is := goodIn_r _ [7] (by decide +kernel) (by decide +kernel)
set_option maxRecDepth 20000 in
theorem gX4_move_X4_is : GoodIn wsX4_move (va_wsS RX4 52 yX4_is wsX4_is) := goodIn_app (goodIn_of _ (by decide +kernel)) ggX4_move_X4_is
set_option maxRecDepth 20000 in
theorem ggX4_move_X3_take : GoodIn wsX4_move wsX3_take := goodIn_r _ [12, 13, 14, 15, 16, 42, 43, 44, 45] (by decide +kernel) (by decide +kernel)
set_option maxRecDepth 20000 in
theorem gX4_move_X3_take : GoodIn wsX4_move (wsV RX4 48 RX3 yX3_take wsX3_take) := goodIn_app (goodIn_of _ (by decide +kernel)) ggX4_move_X3_take
set_option maxRecDepth 20000 in
theorem ggX4_move_X3_up : GoodIn wsX4_move wsX3_up := goodIn_r _ [20, 13, 16, 21, 22, 23, 11, 24, 42, 43, 44, 45] (by decide +kernel) (by decide +kernel)
set_option maxRecDepth 20000 in
theorem gX4_move_X3_up : GoodIn wsX4_move (wsV RX4 72 RX3 yX3_up wsX3_up) := goodIn_app (goodIn_of _ (by decide +kernel)) ggX4_move_X3_up
set_option maxRecDepth 20000 in
theorem ggX4_move_X4_keep : GoodIn wsX4_move wsX4_keep := goodIn_r _ [28, 29, 3, 2, 30, 31, 6, 32, 33, 34, 8, 9, 10, 11, 12, 13, 14, 15, 16, 42, 43, 44, 45, 35, 36, 37, 38, 39, 40, 41] (by decide +kernel) (by decide +kernel)
set_option maxRecDepth 20000 in
theorem gX4_move_X4_keep : GoodIn wsX4_move (wsV RX4 68 RX4 yX4_keep wsX4_keep) := goodIn_app (goodIn_of _ (by decide +kernel)) ggX4_move_X4_keep
theorem dX4_move_0 : decode cX4_move 0 = .ok (.iload_n 2, 1) := by decide +kernel
theorem dX4_move_1 : decode cX4_move 1 = .ok (.invokestatic 52, 3) := by decide +kernel
theorem dX4_move_4 : decode cX4_move 4 = .ok (.ifCond .eq 33, 3) := by decide +kernel
theorem dX4_move_7 : decode cX4_move 7 = .ok (.iload_n 3, 1) := by decide +kernel
theorem dX4_move_8 : decode cX4_move 8 = .ok (.invokestatic 52, 3) := by decide +kernel
theorem dX4_move_11 : decode cX4_move 11 = .ok (.ifCond .eq 26, 3) := by decide +kernel
theorem dX4_move_14 : decode cX4_move 14 = .ok (.iload_n 1, 1) := by decide +kernel
theorem dX4_move_15 : decode cX4_move 15 = .ok (.ifCond .lt 22, 3) := by decide +kernel
theorem dX4_move_18 : decode cX4_move 18 = .ok (.iload_n 1, 1) := by decide +kernel
theorem dX4_move_19 : decode cX4_move 19 = .ok (.iconst 1, 1) := by decide +kernel
theorem dX4_move_20 : decode cX4_move 20 = .ok (.if_icmp .gt 17, 3) := by decide +kernel
theorem dX4_move_23 : decode cX4_move 23 = .ok (.iload 4, 2) := by decide +kernel
theorem dX4_move_25 : decode cX4_move 25 = .ok (.bipush (-12), 2) := by decide +kernel
theorem dX4_move_27 : decode cX4_move 27 = .ok (.if_icmp .lt 10, 3) := by decide +kernel
theorem dX4_move_30 : decode cX4_move 30 = .ok (.iload 4, 2) := by decide +kernel
theorem dX4_move_32 : decode cX4_move 32 = .ok (.bipush 12, 2) := by decide +kernel
theorem dX4_move_34 : decode cX4_move 34 = .ok (.if_icmp .le 5, 3) := by decide +kernel
theorem dX4_move_37 : decode cX4_move 37 = .ok (.iconst (-1), 1) := by decide +kernel
theorem dX4_move_38 : decode cX4_move 38 = .ok (.ireturn, 1) := by decide +kernel
theorem dX4_move_39 : decode cX4_move 39 = .ok (.aload_n 0, 1) := by decide +kernel
theorem dX4_move_40 : decode cX4_move 40 = .ok (.getfield 16, 3) := by decide +kernel
theorem dX4_move_43 : decode cX4_move 43 = .ok (.aload_n 0, 1) := by decide +kernel
theorem dX4_move_44 : decode cX4_move 44 = .ok (.getfield 9, 3) := by decide +kernel
theorem dX4_move_47 : decode cX4_move 47 = .ok (.iload_n 3, 1) := by decide +kernel
theorem dX4_move_48 : decode cX4_move 48 = .ok (.aaload, 1) := by decide +kernel
theorem dX4_move_49 : decode cX4_move 49 = .ok (.invokevirtual 48, 3) := by decide +kernel
theorem dX4_move_52 : decode cX4_move 52 = .ok (.aload_n 0, 1) := by decide +kernel
theorem dX4_move_53 : decode cX4_move 53 = .ok (.getfield 16, 3) := by decide +kernel
theorem dX4_move_56 : decode cX4_move 56 = .ok (.dup, 1) := by decide +kernel
theorem dX4_move_57 : decode cX4_move 57 = .ok (.getfield 41, 3) := by decide +kernel
theorem dX4_move_60 : decode cX4_move 60 = .ok (.iload 4, 2) := by decide +kernel
theorem dX4_move_62 : decode cX4_move 62 = .ok (.isub, 1) := by decide +kernel
theorem dX4_move_63 : decode cX4_move 63 = .ok (.putfield 41, 3) := by decide +kernel
theorem dX4_move_66 : decode cX4_move 66 = .ok (.iload_n 1, 1) := by decide +kernel
theorem dX4_move_67 : decode cX4_move 67 = .ok (.iconst 1, 1) := by decide +kernel
theorem dX4_move_68 : decode cX4_move 68 = .ok (.if_icmp .ne 36, 3) := by decide +kernel
theorem dX4_move_71 : decode cX4_move 71 = .ok (.aload_n 0, 1) := by decide +kernel
theorem dX4_move_72 : decode cX4_move 72 = .ok (.getfield 16, 3) := by decide +kernel
theorem dX4_move_75 : decode cX4_move 75 = .ok (.getfield 41, 3) := by decide +kernel
theorem dX4_move_78 : decode cX4_move 78 = .ok (.ifCond .ge 26, 3) := by decide +kernel
theorem dX4_move_81 : decode cX4_move 81 = .ok (.aload_n 0, 1) := by decide +kernel
theorem dX4_move_82 : decode cX4_move 82 = .ok (.getfield 16, 3) := by decide +kernel
theorem dX4_move_85 : decode cX4_move 85 = .ok (.aload_n 0, 1) := by decide +kernel
theorem dX4_move_86 : decode cX4_move 86 = .ok (.getfield 16, 3) := by decide +kernel
theorem dX4_move_89 : decode cX4_move 89 = .ok (.getfield 41, 3) := by decide +kernel
theorem dX4_move_92 : decode cX4_move 92 = .ok (.ineg, 1) := by decide +kernel
theorem dX4_move_93 : decode cX4_move 93 = .ok (.invokevirtual 72, 3) := by decide +kernel
theorem dX4_move_96 : decode cX4_move 96 = .ok (.aload_n 0, 1) := by decide +kernel
theorem dX4_move_97 : decode cX4_move 97 = .ok (.getfield 16, 3) := by decide +kernel
theorem dX4_move_100 : decode cX4_move 100 = .ok (.iconst 0, 1) := by decide +kernel
theorem dX4_move_101 : decode cX4_move 101 = .ok (.putfield 41, 3) := by decide +kernel
theorem dX4_move_104 : decode cX4_move 104 = .ok (.aload_n 0, 1) := by decide +kernel
theorem dX4_move_105 : decode cX4_move 105 = .ok (.iload_n 2, 1) := by decide +kernel
theorem dX4_move_106 : decode cX4_move 106 = .ok (.aload_n 0, 1) := by decide +kernel
theorem dX4_move_107 : decode cX4_move 107 = .ok (.getfield 16, 3) := by decide +kernel
theorem dX4_move_110 : decode cX4_move 110 = .ok (.invokevirtual 68, 3) := by decide +kernel
theorem dX4_move_113 : decode cX4_move 113 = .ok (.ireturn, 1) := by decide +kernel
set_option maxRecDepth 20000 in
theorem ggX4_power_X4_is : GoodIn wsX4_power wsX4_is := goodIn_r _ [10] (by decide +kernel) (by decide +kernel)
set_option maxRecDepth 20000 in
theorem gX4_power_X4_is : GoodIn wsX4_power (va_wsS RX4 52 yX4_is wsX4_is) := goodIn_app (goodIn_of _ (by decide +kernel)) ggX4_power_X4_is
set_option maxRecDepth 20000 in
theorem ggX4_power_X3_zero : GoodIn wsX4_power wsX3_zero := goodIn_r _ [15, 16, 17, 18, 52, 53, 54, 55] (by decide +kernel) (by decide +kernel)
set_option maxRecDepth 20000 in
theorem gX4_power_X3_zero : GoodIn wsX4_power (wsV RX4 117 RX3 yX3_zero wsX3_zero) := goodIn_app (goodIn_of _ (by decide +kernel)) ggX4_power_X3_zero
set_option maxRecDepth 20000 in
theorem ggX4_power_X4_product : GoodIn wsX4_power wsX4_product := goodIn_r _ [21, 2, 4, 22, 5, 23, 24, 25, 14, 26, 16, 17, 18, 27, 28, 29, 30, 52, 53, 54, 55] (by decide +kernel) (by decide +kernel)
set_option maxRecDepth 20000 in
theorem gX4_power_X4_product : GoodIn wsX4_power (va_wsS RX4 92 yX4_product wsX4_product) := goodIn_app (goodIn_of _ (by decide +kernel)) ggX4_power_X4_product
set_option maxRecDepth 20000 in
theorem ggX4_power_X3_take : GoodIn wsX4_power wsX3_take := goodIn_r _ [34, 16, 18, 35, 17, 52, 53, 54, 55] (by decide +kernel) (by decide +kernel)
set_option maxRecDepth 20000 in
theorem gX4_power_X3_take : GoodIn wsX4_power (wsV RX4 48 RX3 yX3_take wsX3_take) := goodIn_app (goodIn_of _ (by decide +kernel)) ggX4_power_X3_take
set_option maxRecDepth 20000 in
theorem ggX4_power_X4_keep : GoodIn wsX4_power wsX4_keep := goodIn_r _ [39, 2, 5, 1, 40, 41, 9, 42, 43, 44, 31, 32, 33, 14, 34, 16, 18, 35, 17, 52, 53, 54, 55, 45, 46, 47, 48, 49, 50, 51] (by decide +kernel) (by decide +kernel)
set_option maxRecDepth 20000 in
theorem gX4_power_X4_keep : GoodIn wsX4_power (wsV RX4 68 RX4 yX4_keep wsX4_keep) := goodIn_app (goodIn_of _ (by decide +kernel)) ggX4_power_X4_keep
theorem dX4_power_0 : decode cX4_power 0 = .ok (.iload_n 1, 1) := by decide +kernel
theorem dX4_power_1 : decode cX4_power 1 = .ok (.invokestatic 52, 3) := by decide +kernel
theorem dX4_power_4 : decode cX4_power 4 = .ok (.ifCond .eq 20, 3) := by decide +kernel
theorem dX4_power_7 : decode cX4_power 7 = .ok (.iload_n 2, 1) := by decide +kernel
theorem dX4_power_8 : decode cX4_power 8 = .ok (.invokestatic 52, 3) := by decide +kernel
theorem dX4_power_11 : decode cX4_power 11 = .ok (.ifCond .eq 13, 3) := by decide +kernel
theorem dX4_power_14 : decode cX4_power 14 = .ok (.iload_n 3, 1) := by decide +kernel
theorem dX4_power_15 : decode cX4_power 15 = .ok (.ifCond .lt 9, 3) := by decide +kernel
theorem dX4_power_18 : decode cX4_power 18 = .ok (.iload_n 3, 1) := by decide +kernel
theorem dX4_power_19 : decode cX4_power 19 = .ok (.bipush 40, 2) := by decide +kernel
theorem dX4_power_21 : decode cX4_power 21 = .ok (.if_icmp .le 5, 3) := by decide +kernel
theorem dX4_power_24 : decode cX4_power 24 = .ok (.iconst (-1), 1) := by decide +kernel
theorem dX4_power_25 : decode cX4_power 25 = .ok (.ireturn, 1) := by decide +kernel
theorem dX4_power_26 : decode cX4_power 26 = .ok (.iload_n 3, 1) := by decide +kernel
theorem dX4_power_27 : decode cX4_power 27 = .ok (.aload_n 0, 1) := by decide +kernel
theorem dX4_power_28 : decode cX4_power 28 = .ok (.getfield 9, 3) := by decide +kernel
theorem dX4_power_31 : decode cX4_power 31 = .ok (.iload_n 2, 1) := by decide +kernel
theorem dX4_power_32 : decode cX4_power 32 = .ok (.aaload, 1) := by decide +kernel
theorem dX4_power_33 : decode cX4_power 33 = .ok (.getfield 37, 3) := by decide +kernel
theorem dX4_power_36 : decode cX4_power 36 = .ok (.imul, 1) := by decide +kernel
theorem dX4_power_37 : decode cX4_power 37 = .ok (.sipush 190, 3) := by decide +kernel
theorem dX4_power_40 : decode cX4_power 40 = .ok (.if_icmp .le 6, 3) := by decide +kernel
theorem dX4_power_43 : decode cX4_power 43 = .ok (.bipush (-3), 2) := by decide +kernel
theorem dX4_power_45 : decode cX4_power 45 = .ok (.ireturn, 1) := by decide +kernel
theorem dX4_power_46 : decode cX4_power 46 = .ok (.aload_n 0, 1) := by decide +kernel
theorem dX4_power_47 : decode cX4_power 47 = .ok (.getfield 16, 3) := by decide +kernel
theorem dX4_power_50 : decode cX4_power 50 = .ok (.invokevirtual 117, 3) := by decide +kernel
theorem dX4_power_53 : decode cX4_power 53 = .ok (.aload_n 0, 1) := by decide +kernel
theorem dX4_power_54 : decode cX4_power 54 = .ok (.getfield 16, 3) := by decide +kernel
theorem dX4_power_57 : decode cX4_power 57 = .ok (.getfield 58, 3) := by decide +kernel
theorem dX4_power_60 : decode cX4_power 60 = .ok (.iconst 0, 1) := by decide +kernel
theorem dX4_power_61 : decode cX4_power 61 = .ok (.iconst 1, 1) := by decide +kernel
theorem dX4_power_62 : decode cX4_power 62 = .ok (.iastore, 1) := by decide +kernel
theorem dX4_power_63 : decode cX4_power 63 = .ok (.aload_n 0, 1) := by decide +kernel
theorem dX4_power_64 : decode cX4_power 64 = .ok (.getfield 16, 3) := by decide +kernel
theorem dX4_power_67 : decode cX4_power 67 = .ok (.iconst 0, 1) := by decide +kernel
theorem dX4_power_68 : decode cX4_power 68 = .ok (.putfield 41, 3) := by decide +kernel
theorem dX4_power_71 : decode cX4_power 71 = .ok (.iconst 0, 1) := by decide +kernel
theorem dX4_power_72 : decode cX4_power 72 = .ok (.istore 4, 2) := by decide +kernel
theorem dX4_power_74 : decode cX4_power 74 = .ok (.iload 4, 2) := by decide +kernel
theorem dX4_power_76 : decode cX4_power 76 = .ok (.iload_n 3, 1) := by decide +kernel
theorem dX4_power_77 : decode cX4_power 77 = .ok (.if_icmp .ge 37, 3) := by decide +kernel
theorem dX4_power_80 : decode cX4_power 80 = .ok (.aload_n 0, 1) := by decide +kernel
theorem dX4_power_81 : decode cX4_power 81 = .ok (.getfield 16, 3) := by decide +kernel
theorem dX4_power_84 : decode cX4_power 84 = .ok (.aload_n 0, 1) := by decide +kernel
theorem dX4_power_85 : decode cX4_power 85 = .ok (.getfield 9, 3) := by decide +kernel
theorem dX4_power_88 : decode cX4_power 88 = .ok (.iload_n 2, 1) := by decide +kernel
theorem dX4_power_89 : decode cX4_power 89 = .ok (.aaload, 1) := by decide +kernel
theorem dX4_power_90 : decode cX4_power 90 = .ok (.aload_n 0, 1) := by decide +kernel
theorem dX4_power_91 : decode cX4_power 91 = .ok (.getfield 23, 3) := by decide +kernel
theorem dX4_power_94 : decode cX4_power 94 = .ok (.invokestatic 92, 3) := by decide +kernel
theorem dX4_power_97 : decode cX4_power 97 = .ok (.aload_n 0, 1) := by decide +kernel
theorem dX4_power_98 : decode cX4_power 98 = .ok (.getfield 16, 3) := by decide +kernel
theorem dX4_power_101 : decode cX4_power 101 = .ok (.aload_n 0, 1) := by decide +kernel
theorem dX4_power_102 : decode cX4_power 102 = .ok (.getfield 23, 3) := by decide +kernel
theorem dX4_power_105 : decode cX4_power 105 = .ok (.invokevirtual 48, 3) := by decide +kernel
theorem dX4_power_108 : decode cX4_power 108 = .ok (.iinc 4 1, 3) := by decide +kernel
theorem dX4_power_111 : decode cX4_power 111 = .ok (.goto (-37), 3) := by decide +kernel
theorem dX4_power_114 : decode cX4_power 114 = .ok (.aload_n 0, 1) := by decide +kernel
theorem dX4_power_115 : decode cX4_power 115 = .ok (.getfield 16, 3) := by decide +kernel
theorem dX4_power_118 : decode cX4_power 118 = .ok (.iload_n 3, 1) := by decide +kernel
theorem dX4_power_119 : decode cX4_power 119 = .ok (.aload_n 0, 1) := by decide +kernel
theorem dX4_power_120 : decode cX4_power 120 = .ok (.getfield 9, 3) := by decide +kernel
theorem dX4_power_123 : decode cX4_power 123 = .ok (.iload_n 2, 1) := by decide +kernel
theorem dX4_power_124 : decode cX4_power 124 = .ok (.aaload, 1) := by decide +kernel
theorem dX4_power_125 : decode cX4_power 125 = .ok (.getfield 41, 3) := by decide +kernel
theorem dX4_power_128 : decode cX4_power 128 = .ok (.imul, 1) := by decide +kernel
theorem dX4_power_129 : decode cX4_power 129 = .ok (.putfield 41, 3) := by decide +kernel
theorem dX4_power_132 : decode cX4_power 132 = .ok (.aload_n 0, 1) := by decide +kernel
theorem dX4_power_133 : decode cX4_power 133 = .ok (.iload_n 1, 1) := by decide +kernel
theorem dX4_power_134 : decode cX4_power 134 = .ok (.aload_n 0, 1) := by decide +kernel
theorem dX4_power_135 : decode cX4_power 135 = .ok (.getfield 16, 3) := by decide +kernel
theorem dX4_power_138 : decode cX4_power 138 = .ok (.invokevirtual 68, 3) := by decide +kernel
theorem dX4_power_141 : decode cX4_power 141 = .ok (.ireturn, 1) := by decide +kernel
set_option maxRecDepth 20000 in
theorem ggX4_compare_X4_is : GoodIn wsX4_compare wsX4_is := goodIn_r _ [4] (by decide +kernel) (by decide +kernel)
set_option maxRecDepth 20000 in
theorem gX4_compare_X4_is : GoodIn wsX4_compare (va_wsS RX4 52 yX4_is wsX4_is) := goodIn_app (goodIn_of _ (by decide +kernel)) ggX4_compare_X4_is
set_option maxRecDepth 20000 in
theorem ggX4_compare_X4_order : GoodIn wsX4_compare wsX4_order := goodIn_r _ [8, 9, 10, 11, 12, 13, 14, 3, 15, 16, 17, 18, 19, 20, 21, 22, 23, 24, 25, 26, 27, 28, 29, 30, 31, 32, 33, 34, 35, 36, 37, 38, 39, 40, 41, 42, 43, 44, 45, 46, 47, 48, 49, 50] (by decide +kernel) (by decide +kernel)
set_option maxRecDepth 20000 in
theorem gX4_compare_X4_order : GoodIn wsX4_compare (wsV RX4 88 RX4 yX4_order wsX4_order) := goodIn_app (goodIn_of _ (by decide +kernel)) ggX4_compare_X4_order
theorem dX4_compare_0 : decode cX4_compare 0 = .ok (.iload_n 1, 1) := by decide +kernel
theorem dX4_compare_1 : decode cX4_compare 1 = .ok (.invokestatic 52, 3) := by decide +kernel
theorem dX4_compare_4 : decode cX4_compare 4 = .ok (.ifCond .eq 19, 3) := by decide +kernel
theorem dX4_compare_7 : decode cX4_compare 7 = .ok (.iload_n 2, 1) := by decide +kernel
theorem dX4_compare_8 : decode cX4_compare 8 = .ok (.invokestatic 52, 3) := by decide +kernel
theorem dX4_compare_11 : decode cX4_compare 11 = .ok (.ifCond .eq 12, 3) := by decide +kernel
theorem dX4_compare_14 : decode cX4_compare 14 = .ok (.aload_n 0, 1) := by decide +kernel
theorem dX4_compare_15 : decode cX4_compare 15 = .ok (.iload_n 1, 1) := by decide +kernel
theorem dX4_compare_16 : decode cX4_compare 16 = .ok (.iload_n 2, 1) := by decide +kernel
theorem dX4_compare_17 : decode cX4_compare 17 = .ok (.invokevirtual 88, 3) := by decide +kernel
theorem dX4_compare_20 : decode cX4_compare 20 = .ok (.goto 5, 3) := by decide +kernel
theorem dX4_compare_23 : decode cX4_compare 23 = .ok (.bipush (-2), 2) := by decide +kernel
theorem dX4_compare_25 : decode cX4_compare 25 = .ok (.ireturn, 1) := by decide +kernel
set_option maxRecDepth 20000 in
theorem ggX4_same_X4_is : GoodIn wsX4_same wsX4_is := goodIn_r _ [7] (by decide +kernel) (by decide +kernel)
set_option maxRecDepth 20000 in
theorem gX4_same_X4_is : GoodIn wsX4_same (va_wsS RX4 52 yX4_is wsX4_is) := goodIn_app (goodIn_of _ (by decide +kernel)) ggX4_same_X4_is
set_option maxRecDepth 20000 in
theorem ggX4_same_X4_sizes : GoodIn wsX4_same wsX4_sizes := goodIn_r _ [10, 11, 12, 20, 21, 22, 23] (by decide +kernel) (by decide +kernel)
set_option maxRecDepth 20000 in
theorem gX4_same_X4_sizes : GoodIn wsX4_same (va_wsS RX4 80 yX4_sizes wsX4_sizes) := goodIn_app (goodIn_of _ (by decide +kernel)) ggX4_same_X4_sizes
theorem dX4_same_0 : decode cX4_same 0 = .ok (.iload_n 1, 1) := by decide +kernel
theorem dX4_same_1 : decode cX4_same 1 = .ok (.invokestatic 52, 3) := by decide +kernel
theorem dX4_same_4 : decode cX4_same 4 = .ok (.ifCond .eq 10, 3) := by decide +kernel
theorem dX4_same_7 : decode cX4_same 7 = .ok (.iload_n 2, 1) := by decide +kernel
theorem dX4_same_8 : decode cX4_same 8 = .ok (.invokestatic 52, 3) := by decide +kernel
theorem dX4_same_11 : decode cX4_same 11 = .ok (.ifCond .ne 5, 3) := by decide +kernel
theorem dX4_same_14 : decode cX4_same 14 = .ok (.iconst 0, 1) := by decide +kernel
theorem dX4_same_15 : decode cX4_same 15 = .ok (.ireturn, 1) := by decide +kernel
theorem dX4_same_16 : decode cX4_same 16 = .ok (.aload_n 0, 1) := by decide +kernel
theorem dX4_same_17 : decode cX4_same 17 = .ok (.getfield 9, 3) := by decide +kernel
theorem dX4_same_20 : decode cX4_same 20 = .ok (.iload_n 1, 1) := by decide +kernel
theorem dX4_same_21 : decode cX4_same 21 = .ok (.aaload, 1) := by decide +kernel
theorem dX4_same_22 : decode cX4_same 22 = .ok (.astore_n 3, 1) := by decide +kernel
theorem dX4_same_23 : decode cX4_same 23 = .ok (.aload_n 0, 1) := by decide +kernel
theorem dX4_same_24 : decode cX4_same 24 = .ok (.getfield 9, 3) := by decide +kernel
theorem dX4_same_27 : decode cX4_same 27 = .ok (.iload_n 2, 1) := by decide +kernel
theorem dX4_same_28 : decode cX4_same 28 = .ok (.aaload, 1) := by decide +kernel
theorem dX4_same_29 : decode cX4_same 29 = .ok (.astore 4, 2) := by decide +kernel
theorem dX4_same_31 : decode cX4_same 31 = .ok (.aload_n 3, 1) := by decide +kernel
theorem dX4_same_32 : decode cX4_same 32 = .ok (.getfield 61, 3) := by decide +kernel
theorem dX4_same_35 : decode cX4_same 35 = .ok (.aload 4, 2) := by decide +kernel
theorem dX4_same_37 : decode cX4_same 37 = .ok (.getfield 61, 3) := by decide +kernel
theorem dX4_same_40 : decode cX4_same 40 = .ok (.if_icmp .ne 28, 3) := by decide +kernel
theorem dX4_same_43 : decode cX4_same 43 = .ok (.aload_n 3, 1) := by decide +kernel
theorem dX4_same_44 : decode cX4_same 44 = .ok (.getfield 41, 3) := by decide +kernel
theorem dX4_same_47 : decode cX4_same 47 = .ok (.aload 4, 2) := by decide +kernel
theorem dX4_same_49 : decode cX4_same 49 = .ok (.getfield 41, 3) := by decide +kernel
theorem dX4_same_52 : decode cX4_same 52 = .ok (.if_icmp .ne 16, 3) := by decide +kernel
theorem dX4_same_55 : decode cX4_same 55 = .ok (.aload_n 3, 1) := by decide +kernel
theorem dX4_same_56 : decode cX4_same 56 = .ok (.aload 4, 2) := by decide +kernel
theorem dX4_same_58 : decode cX4_same 58 = .ok (.invokestatic 80, 3) := by decide +kernel
theorem dX4_same_61 : decode cX4_same 61 = .ok (.ifCond .ne 7, 3) := by decide +kernel
theorem dX4_same_64 : decode cX4_same 64 = .ok (.iconst 1, 1) := by decide +kernel
theorem dX4_same_65 : decode cX4_same 65 = .ok (.goto 4, 3) := by decide +kernel
theorem dX4_same_68 : decode cX4_same 68 = .ok (.iconst 0, 1) := by decide +kernel
theorem dX4_same_69 : decode cX4_same 69 = .ok (.ireturn, 1) := by decide +kernel
set_option maxRecDepth 20000 in
theorem ggX4_look_X4_is : GoodIn wsX4_look wsX4_is := goodIn_r _ [8] (by decide +kernel) (by decide +kernel)
set_option maxRecDepth 20000 in
theorem gX4_look_X4_is : GoodIn wsX4_look (va_wsS RX4 52 yX4_is wsX4_is) := goodIn_app (goodIn_of _ (by decide +kernel)) ggX4_look_X4_is
set_option maxRecDepth 20000 in
theorem ggX4_look_X3_isZero : GoodIn wsX4_look wsX3_isZero := goodIn_r _ [13, 14, 15, 23, 24, 25, 26] (by decide +kernel) (by decide +kernel)
set_option maxRecDepth 20000 in
theorem gX4_look_X3_isZero : GoodIn wsX4_look (wsV RX4 84 RX3 yX3_isZero wsX3_isZero) := goodIn_app (goodIn_of _ (by decide +kernel)) ggX4_look_X3_isZero
theorem dX4_look_0 : decode cX4_look 0 = .ok (.iload_n 1, 1) := by decide +kernel
theorem dX4_look_1 : decode cX4_look 1 = .ok (.ifCond .lt 8, 3) := by decide +kernel
theorem dX4_look_4 : decode cX4_look 4 = .ok (.iload_n 1, 1) := by decide +kernel
theorem dX4_look_5 : decode cX4_look 5 = .ok (.iconst 2, 1) := by decide +kernel
theorem dX4_look_6 : decode cX4_look 6 = .ok (.if_icmp .le 5, 3) := by decide +kernel
theorem dX4_look_9 : decode cX4_look 9 = .ok (.iconst (-1), 1) := by decide +kernel
theorem dX4_look_10 : decode cX4_look 10 = .ok (.ireturn, 1) := by decide +kernel
theorem dX4_look_11 : decode cX4_look 11 = .ok (.iload_n 2, 1) := by decide +kernel
theorem dX4_look_12 : decode cX4_look 12 = .ok (.invokestatic 52, 3) := by decide +kernel
theorem dX4_look_15 : decode cX4_look 15 = .ok (.ifCond .ne 16, 3) := by decide +kernel
theorem dX4_look_18 : decode cX4_look 18 = .ok (.iload_n 1, 1) := by decide +kernel
theorem dX4_look_19 : decode cX4_look 19 = .ok (.iconst 2, 1) := by decide +kernel
theorem dX4_look_20 : decode cX4_look 20 = .ok (.if_icmp .ne 9, 3) := by decide +kernel
theorem dX4_look_23 : decode cX4_look 23 = .ok (.sipush 1000, 3) := by decide +kernel
theorem dX4_look_26 : decode cX4_look 26 = .ok (.goto 4, 3) := by decide +kernel
theorem dX4_look_29 : decode cX4_look 29 = .ok (.iconst (-1), 1) := by decide +kernel
theorem dX4_look_30 : decode cX4_look 30 = .ok (.ireturn, 1) := by decide +kernel
theorem dX4_look_31 : decode cX4_look 31 = .ok (.aload_n 0, 1) := by decide +kernel
theorem dX4_look_32 : decode cX4_look 32 = .ok (.getfield 9, 3) := by decide +kernel
theorem dX4_look_35 : decode cX4_look 35 = .ok (.iload_n 2, 1) := by decide +kernel
theorem dX4_look_36 : decode cX4_look 36 = .ok (.aaload, 1) := by decide +kernel
theorem dX4_look_37 : decode cX4_look 37 = .ok (.astore_n 3, 1) := by decide +kernel
theorem dX4_look_38 : decode cX4_look 38 = .ok (.iload_n 1, 1) := by decide +kernel
theorem dX4_look_39 : decode cX4_look 39 = .ok (.ifCond .ne 29, 3) := by decide +kernel
theorem dX4_look_42 : decode cX4_look 42 = .ok (.aload_n 3, 1) := by decide +kernel
theorem dX4_look_43 : decode cX4_look 43 = .ok (.invokevirtual 84, 3) := by decide +kernel
theorem dX4_look_46 : decode cX4_look 46 = .ok (.ifCond .eq 7, 3) := by decide +kernel
theorem dX4_look_49 : decode cX4_look 49 = .ok (.iconst 0, 1) := by decide +kernel
theorem dX4_look_50 : decode cX4_look 50 = .ok (.goto 34, 3) := by decide +kernel
theorem dX4_look_53 : decode cX4_look 53 = .ok (.aload_n 3, 1) := by decide +kernel
theorem dX4_look_54 : decode cX4_look 54 = .ok (.getfield 61, 3) := by decide +kernel
theorem dX4_look_57 : decode cX4_look 57 = .ok (.ifCond .eq 7, 3) := by decide +kernel
theorem dX4_look_60 : decode cX4_look 60 = .ok (.iconst (-1), 1) := by decide +kernel
theorem dX4_look_61 : decode cX4_look 61 = .ok (.goto 23, 3) := by decide +kernel
theorem dX4_look_64 : decode cX4_look 64 = .ok (.iconst 1, 1) := by decide +kernel
theorem dX4_look_65 : decode cX4_look 65 = .ok (.goto 19, 3) := by decide +kernel
theorem dX4_look_68 : decode cX4_look 68 = .ok (.iload_n 1, 1) := by decide +kernel
theorem dX4_look_69 : decode cX4_look 69 = .ok (.iconst 1, 1) := by decide +kernel
theorem dX4_look_70 : decode cX4_look 70 = .ok (.if_icmp .ne 10, 3) := by decide +kernel
theorem dX4_look_73 : decode cX4_look 73 = .ok (.aload_n 3, 1) := by decide +kernel
theorem dX4_look_74 : decode cX4_look 74 = .ok (.getfield 37, 3) := by decide +kernel
theorem dX4_look_77 : decode cX4_look 77 = .ok (.goto 7, 3) := by decide +kernel
theorem dX4_look_80 : decode cX4_look 80 = .ok (.aload_n 3, 1) := by decide +kernel
theorem dX4_look_81 : decode cX4_look 81 = .ok (.getfield 41, 3) := by decide +kernel
theorem dX4_look_84 : decode cX4_look 84 = .ok (.ireturn, 1) := by decide +kernel
set_option maxRecDepth 20000 in
theorem ggX4_digit_X4_is : GoodIn wsX4_digit wsX4_is := goodIn_r _ [7] (by decide +kernel) (by decide +kernel)
set_option maxRecDepth 20000 in
theorem gX4_digit_X4_is : GoodIn wsX4_digit (va_wsS RX4 52 yX4_is wsX4_is) := goodIn_app (goodIn_of _ (by decide +kernel)) ggX4_digit_X4_is
theorem dX4_digit_0 : decode cX4_digit 0 = .ok (.iload_n 1, 1) := by decide +kernel
theorem dX4_digit_1 : decode cX4_digit 1 = .ok (.invokestatic 52, 3) := by decide +kernel
theorem dX4_digit_4 : decode cX4_digit 4 = .ok (.ifCond .eq 34, 3) := by decide +kernel
theorem dX4_digit_7 : decode cX4_digit 7 = .ok (.iload_n 2, 1) := by decide +kernel
theorem dX4_digit_8 : decode cX4_digit 8 = .ok (.ifCond .lt 30, 3) := by decide +kernel
theorem dX4_digit_11 : decode cX4_digit 11 = .ok (.iload_n 2, 1) := by decide +kernel
theorem dX4_digit_12 : decode cX4_digit 12 = .ok (.aload_n 0, 1) := by decide +kernel
theorem dX4_digit_13 : decode cX4_digit 13 = .ok (.getfield 9, 3) := by decide +kernel
theorem dX4_digit_16 : decode cX4_digit 16 = .ok (.iload_n 1, 1) := by decide +kernel
theorem dX4_digit_17 : decode cX4_digit 17 = .ok (.aaload, 1) := by decide +kernel
theorem dX4_digit_18 : decode cX4_digit 18 = .ok (.getfield 37, 3) := by decide +kernel
theorem dX4_digit_21 : decode cX4_digit 21 = .ok (.if_icmp .ge 17, 3) := by decide +kernel
theorem dX4_digit_24 : decode cX4_digit 24 = .ok (.aload_n 0, 1) := by decide +kernel
theorem dX4_digit_25 : decode cX4_digit 25 = .ok (.getfield 9, 3) := by decide +kernel
theorem dX4_digit_28 : decode cX4_digit 28 = .ok (.iload_n 1, 1) := by decide +kernel
theorem dX4_digit_29 : decode cX4_digit 29 = .ok (.aaload, 1) := by decide +kernel
theorem dX4_digit_30 : decode cX4_digit 30 = .ok (.getfield 58, 3) := by decide +kernel
theorem dX4_digit_33 : decode cX4_digit 33 = .ok (.iload_n 2, 1) := by decide +kernel
theorem dX4_digit_34 : decode cX4_digit 34 = .ok (.iaload, 1) := by decide +kernel
theorem dX4_digit_35 : decode cX4_digit 35 = .ok (.goto 4, 3) := by decide +kernel
theorem dX4_digit_38 : decode cX4_digit 38 = .ok (.iconst (-1), 1) := by decide +kernel
theorem dX4_digit_39 : decode cX4_digit 39 = .ok (.ireturn, 1) := by decide +kernel
set_option maxRecDepth 20000 in
theorem ggX4_whole_X4_is : GoodIn wsX4_whole wsX4_is := goodIn_r _ [10] (by decide +kernel) (by decide +kernel)
set_option maxRecDepth 20000 in
theorem gX4_whole_X4_is : GoodIn wsX4_whole (va_wsS RX4 52 yX4_is wsX4_is) := goodIn_app (goodIn_of _ (by decide +kernel)) ggX4_whole_X4_is
theorem dX4_whole_0 : decode cX4_whole 0 = .ok (.iload_n 1, 1) := by decide +kernel
theorem dX4_whole_1 : decode cX4_whole 1 = .ok (.invokestatic 52, 3) := by decide +kernel
theorem dX4_whole_4 : decode cX4_whole 4 = .ok (.ifCond .ne 5, 3) := by decide +kernel
theorem dX4_whole_7 : decode cX4_whole 7 = .ok (.lconst 0, 1) := by decide +kernel
theorem dX4_whole_8 : decode cX4_whole 8 = .ok (.lreturn, 1) := by decide +kernel
theorem dX4_whole_9 : decode cX4_whole 9 = .ok (.aload_n 0, 1) := by decide +kernel
theorem dX4_whole_10 : decode cX4_whole 10 = .ok (.getfield 9, 3) := by decide +kernel
theorem dX4_whole_13 : decode cX4_whole 13 = .ok (.iload_n 1, 1) := by decide +kernel
theorem dX4_whole_14 : decode cX4_whole 14 = .ok (.aaload, 1) := by decide +kernel
theorem dX4_whole_15 : decode cX4_whole 15 = .ok (.astore_n 2, 1) := by decide +kernel
theorem dX4_whole_16 : decode cX4_whole 16 = .ok (.lconst 0, 1) := by decide +kernel
theorem dX4_whole_17 : decode cX4_whole 17 = .ok (.lstore_n 3, 1) := by decide +kernel
theorem dX4_whole_18 : decode cX4_whole 18 = .ok (.aload_n 2, 1) := by decide +kernel
theorem dX4_whole_19 : decode cX4_whole 19 = .ok (.getfield 41, 3) := by decide +kernel
theorem dX4_whole_22 : decode cX4_whole 22 = .ok (.ifCond .le 10, 3) := by decide +kernel
theorem dX4_whole_25 : decode cX4_whole 25 = .ok (.aload_n 2, 1) := by decide +kernel
theorem dX4_whole_26 : decode cX4_whole 26 = .ok (.getfield 41, 3) := by decide +kernel
theorem dX4_whole_29 : decode cX4_whole 29 = .ok (.goto 4, 3) := by decide +kernel
theorem dX4_whole_32 : decode cX4_whole 32 = .ok (.iconst 0, 1) := by decide +kernel
theorem dX4_whole_33 : decode cX4_whole 33 = .ok (.istore 5, 2) := by decide +kernel
theorem dX4_whole_35 : decode cX4_whole 35 = .ok (.aload_n 2, 1) := by decide +kernel
theorem dX4_whole_36 : decode cX4_whole 36 = .ok (.getfield 37, 3) := by decide +kernel
theorem dX4_whole_39 : decode cX4_whole 39 = .ok (.iconst 1, 1) := by decide +kernel
theorem dX4_whole_40 : decode cX4_whole 40 = .ok (.isub, 1) := by decide +kernel
theorem dX4_whole_41 : decode cX4_whole 41 = .ok (.istore 6, 2) := by decide +kernel
theorem dX4_whole_43 : decode cX4_whole 43 = .ok (.iload 6, 2) := by decide +kernel
theorem dX4_whole_45 : decode cX4_whole 45 = .ok (.iload 5, 2) := by decide +kernel
theorem dX4_whole_47 : decode cX4_whole 47 = .ok (.if_icmp .lt 24, 3) := by decide +kernel
theorem dX4_whole_50 : decode cX4_whole 50 = .ok (.ldc2_w 56, 3) := by decide +kernel
theorem dX4_whole_53 : decode cX4_whole 53 = .ok (.lload_n 3, 1) := by decide +kernel
theorem dX4_whole_54 : decode cX4_whole 54 = .ok (.lmul, 1) := by decide +kernel
theorem dX4_whole_55 : decode cX4_whole 55 = .ok (.aload_n 2, 1) := by decide +kernel
theorem dX4_whole_56 : decode cX4_whole 56 = .ok (.getfield 58, 3) := by decide +kernel
theorem dX4_whole_59 : decode cX4_whole 59 = .ok (.iload 6, 2) := by decide +kernel
theorem dX4_whole_61 : decode cX4_whole 61 = .ok (.iaload, 1) := by decide +kernel
theorem dX4_whole_62 : decode cX4_whole 62 = .ok (.i2l, 1) := by decide +kernel
theorem dX4_whole_63 : decode cX4_whole 63 = .ok (.ladd, 1) := by decide +kernel
theorem dX4_whole_64 : decode cX4_whole 64 = .ok (.lstore_n 3, 1) := by decide +kernel
theorem dX4_whole_65 : decode cX4_whole 65 = .ok (.iinc 6 (-1), 3) := by decide +kernel
theorem dX4_whole_68 : decode cX4_whole 68 = .ok (.goto (-25), 3) := by decide +kernel
theorem dX4_whole_71 : decode cX4_whole 71 = .ok (.aload_n 2, 1) := by decide +kernel
theorem dX4_whole_72 : decode cX4_whole 72 = .ok (.getfield 41, 3) := by decide +kernel
theorem dX4_whole_75 : decode cX4_whole 75 = .ok (.istore 6, 2) := by decide +kernel
theorem dX4_whole_77 : decode cX4_whole 77 = .ok (.iload 6, 2) := by decide +kernel
theorem dX4_whole_79 : decode cX4_whole 79 = .ok (.ifCond .ge 15, 3) := by decide +kernel
theorem dX4_whole_82 : decode cX4_whole 82 = .ok (.ldc2_w 56, 3) := by decide +kernel
theorem dX4_whole_85 : decode cX4_whole 85 = .ok (.lload_n 3, 1) := by decide +kernel
theorem dX4_whole_86 : decode cX4_whole 86 = .ok (.lmul, 1) := by decide +kernel
theorem dX4_whole_87 : decode cX4_whole 87 = .ok (.lstore_n 3, 1) := by decide +kernel
theorem dX4_whole_88 : decode cX4_whole 88 = .ok (.iinc 6 1, 3) := by decide +kernel
theorem dX4_whole_91 : decode cX4_whole 91 = .ok (.goto (-14), 3) := by decide +kernel
theorem dX4_whole_94 : decode cX4_whole 94 = .ok (.aload_n 2, 1) := by decide +kernel
theorem dX4_whole_95 : decode cX4_whole 95 = .ok (.getfield 61, 3) := by decide +kernel
theorem dX4_whole_98 : decode cX4_whole 98 = .ok (.ifCond .eq 8, 3) := by decide +kernel
theorem dX4_whole_101 : decode cX4_whole 101 = .ok (.lload_n 3, 1) := by decide +kernel
theorem dX4_whole_102 : decode cX4_whole 102 = .ok (.lneg, 1) := by decide +kernel
theorem dX4_whole_103 : decode cX4_whole 103 = .ok (.goto 4, 3) := by decide +kernel
theorem dX4_whole_106 : decode cX4_whole 106 = .ok (.lload_n 3, 1) := by decide +kernel
theorem dX4_whole_107 : decode cX4_whole 107 = .ok (.lreturn, 1) := by decide +kernel
theorem dX4_sign_0 : decode cX4_sign 0 = .ok (.aload_n 0, 1) := by decide +kernel
theorem dX4_sign_1 : decode cX4_sign 1 = .ok (.getfield 29, 3) := by decide +kernel
theorem dX4_sign_4 : decode cX4_sign 4 = .ok (.aload_n 0, 1) := by decide +kernel
theorem dX4_sign_5 : decode cX4_sign 5 = .ok (.getfield 120, 3) := by decide +kernel
theorem dX4_sign_8 : decode cX4_sign 8 = .ok (.iload_n 1, 1) := by decide +kernel
theorem dX4_sign_9 : decode cX4_sign 9 = .ok (.iastore, 1) := by decide +kernel
theorem dX4_sign_10 : decode cX4_sign 10 = .ok (.aload_n 0, 1) := by decide +kernel
theorem dX4_sign_11 : decode cX4_sign 11 = .ok (.dup, 1) := by decide +kernel
theorem dX4_sign_12 : decode cX4_sign 12 = .ok (.getfield 120, 3) := by decide +kernel
theorem dX4_sign_15 : decode cX4_sign 15 = .ok (.iconst 1, 1) := by decide +kernel
theorem dX4_sign_16 : decode cX4_sign 16 = .ok (.iadd, 1) := by decide +kernel
theorem dX4_sign_17 : decode cX4_sign 17 = .ok (.putfield 120, 3) := by decide +kernel
theorem dX4_sign_20 : decode cX4_sign 20 = .ok (.return_, 1) := by decide +kernel
set_option maxRecDepth 20000 in
theorem ggX4_write_X4_is : GoodIn wsX4_write wsX4_is := goodIn_r _ [10] (by decide +kernel) (by decide +kernel)
set_option maxRecDepth 20000 in
theorem gX4_write_X4_is : GoodIn wsX4_write (va_wsS RX4 52 yX4_is wsX4_is) := goodIn_app (goodIn_of _ (by decide +kernel)) ggX4_write_X4_is
set_option maxRecDepth 20000 in
theorem ggX4_write_X4_sign : GoodIn wsX4_write wsX4_sign := goodIn_r _ [14, 15, 2, 23, 24, 25, 26, 27, 28, 29] (by decide +kernel) (by decide +kernel)
set_option maxRecDepth 20000 in
theorem gX4_write_X4_sign : GoodIn wsX4_write (wsV RX4 123 RX4 yX4_sign wsX4_sign) := goodIn_app (goodIn_of _ (by decide +kernel)) ggX4_write_X4_sign
set_option maxRecDepth 20000 in
theorem ggX4_write_X3_isZero : GoodIn wsX4_write wsX3_isZero := goodIn_r _ [20, 21, 22, 30, 31, 32, 33] (by decide +kernel) (by decide +kernel)
set_option maxRecDepth 20000 in
theorem gX4_write_X3_isZero : GoodIn wsX4_write (wsV RX4 84 RX3 yX3_isZero wsX3_isZero) := goodIn_app (goodIn_of _ (by decide +kernel)) ggX4_write_X3_isZero
theorem dX4_write_0 : decode cX4_write 0 = .ok (.iload_n 1, 1) := by decide +kernel
theorem dX4_write_1 : decode cX4_write 1 = .ok (.invokestatic 52, 3) := by decide +kernel
theorem dX4_write_4 : decode cX4_write 4 = .ok (.ifCond .ne 5, 3) := by decide +kernel
theorem dX4_write_7 : decode cX4_write 7 = .ok (.iconst (-1), 1) := by decide +kernel
theorem dX4_write_8 : decode cX4_write 8 = .ok (.ireturn, 1) := by decide +kernel
theorem dX4_write_9 : decode cX4_write 9 = .ok (.aload_n 0, 1) := by decide +kernel
theorem dX4_write_10 : decode cX4_write 10 = .ok (.getfield 9, 3) := by decide +kernel
theorem dX4_write_13 : decode cX4_write 13 = .ok (.iload_n 1, 1) := by decide +kernel
theorem dX4_write_14 : decode cX4_write 14 = .ok (.aaload, 1) := by decide +kernel
theorem dX4_write_15 : decode cX4_write 15 = .ok (.astore_n 2, 1) := by decide +kernel
theorem dX4_write_16 : decode cX4_write 16 = .ok (.aload_n 0, 1) := by decide +kernel
theorem dX4_write_17 : decode cX4_write 17 = .ok (.iconst 0, 1) := by decide +kernel
theorem dX4_write_18 : decode cX4_write 18 = .ok (.putfield 120, 3) := by decide +kernel
theorem dX4_write_21 : decode cX4_write 21 = .ok (.aload_n 2, 1) := by decide +kernel
theorem dX4_write_22 : decode cX4_write 22 = .ok (.getfield 61, 3) := by decide +kernel
theorem dX4_write_25 : decode cX4_write 25 = .ok (.ifCond .eq 9, 3) := by decide +kernel
theorem dX4_write_28 : decode cX4_write 28 = .ok (.aload_n 0, 1) := by decide +kernel
theorem dX4_write_29 : decode cX4_write 29 = .ok (.bipush 45, 2) := by decide +kernel
theorem dX4_write_31 : decode cX4_write 31 = .ok (.invokevirtual 123, 3) := by decide +kernel
theorem dX4_write_34 : decode cX4_write 34 = .ok (.aload_n 2, 1) := by decide +kernel
theorem dX4_write_35 : decode cX4_write 35 = .ok (.getfield 37, 3) := by decide +kernel
theorem dX4_write_38 : decode cX4_write 38 = .ok (.aload_n 2, 1) := by decide +kernel
theorem dX4_write_39 : decode cX4_write 39 = .ok (.getfield 41, 3) := by decide +kernel
theorem dX4_write_42 : decode cX4_write 42 = .ok (.if_icmp .le 12, 3) := by decide +kernel
theorem dX4_write_45 : decode cX4_write 45 = .ok (.aload_n 2, 1) := by decide +kernel
theorem dX4_write_46 : decode cX4_write 46 = .ok (.getfield 37, 3) := by decide +kernel
theorem dX4_write_49 : decode cX4_write 49 = .ok (.iconst 1, 1) := by decide +kernel
theorem dX4_write_50 : decode cX4_write 50 = .ok (.isub, 1) := by decide +kernel
theorem dX4_write_51 : decode cX4_write 51 = .ok (.goto 7, 3) := by decide +kernel
theorem dX4_write_54 : decode cX4_write 54 = .ok (.aload_n 2, 1) := by decide +kernel
theorem dX4_write_55 : decode cX4_write 55 = .ok (.getfield 41, 3) := by decide +kernel
theorem dX4_write_58 : decode cX4_write 58 = .ok (.istore_n 3, 1) := by decide +kernel
theorem dX4_write_59 : decode cX4_write 59 = .ok (.iload_n 3, 1) := by decide +kernel
theorem dX4_write_60 : decode cX4_write 60 = .ok (.ifCond .lt 52, 3) := by decide +kernel
theorem dX4_write_63 : decode cX4_write 63 = .ok (.aload_n 0, 1) := by decide +kernel
theorem dX4_write_64 : decode cX4_write 64 = .ok (.bipush 48, 2) := by decide +kernel
theorem dX4_write_66 : decode cX4_write 66 = .ok (.iload_n 3, 1) := by decide +kernel
theorem dX4_write_67 : decode cX4_write 67 = .ok (.aload_n 2, 1) := by decide +kernel
theorem dX4_write_68 : decode cX4_write 68 = .ok (.getfield 37, 3) := by decide +kernel
theorem dX4_write_71 : decode cX4_write 71 = .ok (.if_icmp .ge 12, 3) := by decide +kernel
theorem dX4_write_74 : decode cX4_write 74 = .ok (.aload_n 2, 1) := by decide +kernel
theorem dX4_write_75 : decode cX4_write 75 = .ok (.getfield 58, 3) := by decide +kernel
theorem dX4_write_78 : decode cX4_write 78 = .ok (.iload_n 3, 1) := by decide +kernel
theorem dX4_write_79 : decode cX4_write 79 = .ok (.iaload, 1) := by decide +kernel
theorem dX4_write_80 : decode cX4_write 80 = .ok (.goto 4, 3) := by decide +kernel
theorem dX4_write_83 : decode cX4_write 83 = .ok (.iconst 0, 1) := by decide +kernel
theorem dX4_write_84 : decode cX4_write 84 = .ok (.iadd, 1) := by decide +kernel
theorem dX4_write_85 : decode cX4_write 85 = .ok (.invokevirtual 123, 3) := by decide +kernel
theorem dX4_write_88 : decode cX4_write 88 = .ok (.iload_n 3, 1) := by decide +kernel
theorem dX4_write_89 : decode cX4_write 89 = .ok (.aload_n 2, 1) := by decide +kernel
theorem dX4_write_90 : decode cX4_write 90 = .ok (.getfield 41, 3) := by decide +kernel
theorem dX4_write_93 : decode cX4_write 93 = .ok (.if_icmp .ne 13, 3) := by decide +kernel
theorem dX4_write_96 : decode cX4_write 96 = .ok (.iload_n 3, 1) := by decide +kernel
theorem dX4_write_97 : decode cX4_write 97 = .ok (.ifCond .le 9, 3) := by decide +kernel
theorem dX4_write_100 : decode cX4_write 100 = .ok (.aload_n 0, 1) := by decide +kernel
theorem dX4_write_101 : decode cX4_write 101 = .ok (.bipush 46, 2) := by decide +kernel
theorem dX4_write_103 : decode cX4_write 103 = .ok (.invokevirtual 123, 3) := by decide +kernel
theorem dX4_write_106 : decode cX4_write 106 = .ok (.iinc 3 (-1), 3) := by decide +kernel
theorem dX4_write_109 : decode cX4_write 109 = .ok (.goto (-50), 3) := by decide +kernel
theorem dX4_write_112 : decode cX4_write 112 = .ok (.aload_n 2, 1) := by decide +kernel
theorem dX4_write_113 : decode cX4_write 113 = .ok (.getfield 41, 3) := by decide +kernel
theorem dX4_write_116 : decode cX4_write 116 = .ok (.istore_n 3, 1) := by decide +kernel
theorem dX4_write_117 : decode cX4_write 117 = .ok (.iload_n 3, 1) := by decide +kernel
theorem dX4_write_118 : decode cX4_write 118 = .ok (.ifCond .ge 22, 3) := by decide +kernel
theorem dX4_write_121 : decode cX4_write 121 = .ok (.aload_n 2, 1) := by decide +kernel
theorem dX4_write_122 : decode cX4_write 122 = .ok (.invokevirtual 84, 3) := by decide +kernel
theorem dX4_write_125 : decode cX4_write 125 = .ok (.ifCond .ne 15, 3) := by decide +kernel
theorem dX4_write_128 : decode cX4_write 128 = .ok (.aload_n 0, 1) := by decide +kernel
theorem dX4_write_129 : decode cX4_write 129 = .ok (.bipush 48, 2) := by decide +kernel
theorem dX4_write_131 : decode cX4_write 131 = .ok (.invokevirtual 123, 3) := by decide +kernel
theorem dX4_write_134 : decode cX4_write 134 = .ok (.iinc 3 1, 3) := by decide +kernel
theorem dX4_write_137 : decode cX4_write 137 = .ok (.goto (-20), 3) := by decide +kernel
theorem dX4_write_140 : decode cX4_write 140 = .ok (.aload_n 0, 1) := by decide +kernel
theorem dX4_write_141 : decode cX4_write 141 = .ok (.getfield 120, 3) := by decide +kernel
theorem dX4_write_144 : decode cX4_write 144 = .ok (.ireturn, 1) := by decide +kernel
theorem dX4_octet_0 : decode cX4_octet 0 = .ok (.iload_n 1, 1) := by decide +kernel
theorem dX4_octet_1 : decode cX4_octet 1 = .ok (.ifCond .lt 20, 3) := by decide +kernel
theorem dX4_octet_4 : decode cX4_octet 4 = .ok (.iload_n 1, 1) := by decide +kernel
theorem dX4_octet_5 : decode cX4_octet 5 = .ok (.aload_n 0, 1) := by decide +kernel
theorem dX4_octet_6 : decode cX4_octet 6 = .ok (.getfield 120, 3) := by decide +kernel
theorem dX4_octet_9 : decode cX4_octet 9 = .ok (.if_icmp .ge 12, 3) := by decide +kernel
theorem dX4_octet_12 : decode cX4_octet 12 = .ok (.aload_n 0, 1) := by decide +kernel
theorem dX4_octet_13 : decode cX4_octet 13 = .ok (.getfield 29, 3) := by decide +kernel
theorem dX4_octet_16 : decode cX4_octet 16 = .ok (.iload_n 1, 1) := by decide +kernel
theorem dX4_octet_17 : decode cX4_octet 17 = .ok (.iaload, 1) := by decide +kernel
theorem dX4_octet_18 : decode cX4_octet 18 = .ok (.goto 4, 3) := by decide +kernel
theorem dX4_octet_21 : decode cX4_octet 21 = .ok (.iconst (-1), 1) := by decide +kernel
theorem dX4_octet_22 : decode cX4_octet 22 = .ok (.ireturn, 1) := by decide +kernel
