theorem dX9_rests_269 : decode cX9_rests 269 = .ok (.iload 7, 2) := by decide +kernel
theorem dX9_rests_271 : decode cX9_rests 271 = .ok (.iload_n 3, 1) := by decide +kernel
theorem dX9_rests_272 : decode cX9_rests 272 = .ok (.if_icmp .ne 6, 3) := by decide +kernel
theorem dX9_rests_275 : decode cX9_rests 275 = .ok (.iload 10, 2) := by decide +kernel
theorem dX9_rests_277 : decode cX9_rests 277 = .ok (.ireturn, 1) := by decide +kernel
theorem dX9_rests_278 : decode cX9_rests 278 = .ok (.iinc 7 1, 3) := by decide +kernel
theorem dX9_rests_281 : decode cX9_rests 281 = .ok (.iinc 8 1, 3) := by decide +kernel
theorem dX9_rests_284 : decode cX9_rests 284 = .ok (.goto (-202), 3) := by decide +kernel
theorem dX9_rests_287 : decode cX9_rests 287 = .ok (.iload_n 3, 1) := by decide +kernel
theorem dX9_rests_288 : decode cX9_rests 288 = .ok (.iconst (-1), 1) := by decide +kernel
theorem dX9_rests_289 : decode cX9_rests 289 = .ok (.if_icmp .ne 8, 3) := by decide +kernel
theorem dX9_rests_292 : decode cX9_rests 292 = .ok (.iload 7, 2) := by decide +kernel
theorem dX9_rests_294 : decode cX9_rests 294 = .ok (.goto 5, 3) := by decide +kernel
theorem dX9_rests_297 : decode cX9_rests 297 = .ok (.bipush (-6), 2) := by decide +kernel
theorem dX9_rests_299 : decode cX9_rests 299 = .ok (.ireturn, 1) := by decide +kernel
set_option maxRecDepth 20000 in
theorem ggX9_round_X9_isThere : GoodIn wsX9_round wsX9_isThere := goodIn_r _ [8, 9, 10, 11, 7, 12, 13, 14, 15, 71, 72, 73, 74, 75, 76, 77, 78, 79, 80, 81, 82, 83, 84, 85, 86, 87, 88, 89, 90, 91, 92, 93, 94, 95, 96, 97] (by decide +kernel) (by decide +kernel)
set_option maxRecDepth 20000 in
theorem gX9_round_X9_isThere : GoodIn wsX9_round (wsV RX9 84 RX9 yX9_isThere wsX9_isThere) := goodIn_app (goodIn_of _ (by decide +kernel)) ggX9_round_X9_isThere
set_option maxRecDepth 20000 in
theorem ggX9_round_X9_in : GoodIn wsX9_round wsX9_in := goodIn_r _ [12] (by decide +kernel) (by decide +kernel)
set_option maxRecDepth 20000 in
theorem gX9_round_X9_in : GoodIn wsX9_round (va_wsS RX9 72 yX9_in wsX9_in) := goodIn_app (goodIn_of _ (by decide +kernel)) ggX9_round_X9_in
set_option maxRecDepth 20000 in
theorem ggX9_round_X9_asNow : GoodIn wsX9_round wsX9_asNow := goodIn_r _ [19, 3, 20, 21, 22, 2, 23, 24, 25, 71, 72, 73, 74, 75, 76, 77, 78, 79, 80, 81, 82, 83, 84, 85, 86, 87, 88, 89, 90, 91, 92, 93, 94, 95, 96, 97] (by decide +kernel) (by decide +kernel)
set_option maxRecDepth 20000 in
theorem gX9_round_X9_asNow : GoodIn wsX9_round (wsV RX9 122 RX9 yX9_asNow wsX9_asNow) := goodIn_app (goodIn_of _ (by decide +kernel)) ggX9_round_X9_asNow
set_option maxRecDepth 20000 in
theorem ggX9_round_X9_go : GoodIn wsX9_round wsX9_go := goodIn_r _ [29, 2, 30, 31, 32, 7, 33, 3, 71, 72, 73, 74, 75, 76, 77, 78, 79, 80, 81, 82, 83, 84, 85, 86, 87, 88, 89, 90, 91, 92, 93, 94, 95, 96, 97] (by decide +kernel) (by decide +kernel)
set_option maxRecDepth 20000 in
theorem gX9_round_X9_go : GoodIn wsX9_round (wsV RX9 146 RX9 yX9_go wsX9_go) := goodIn_app (goodIn_of _ (by decide +kernel)) ggX9_round_X9_go
set_option maxRecDepth 20000 in
theorem ggX9_round_X9_inHouse : GoodIn wsX9_round wsX9_inHouse := goodIn_r _ [37, 38, 39, 40, 7, 41, 9, 2, 13, 14, 15, 71, 72, 73, 74, 75, 76, 77, 78, 79, 80, 81, 82, 83, 84, 85, 86, 87, 88, 89, 90, 91, 92, 93, 94, 95, 96, 97] (by decide +kernel) (by decide +kernel)
set_option maxRecDepth 20000 in
theorem gX9_round_X9_inHouse : GoodIn wsX9_round (wsV RX9 137 RX9 yX9_inHouse wsX9_inHouse) := goodIn_app (goodIn_of _ (by decide +kernel)) ggX9_round_X9_inHouse
set_option maxRecDepth 20000 in
theorem ggX9_round_X9_dish : GoodIn wsX9_round wsX9_dish := goodIn_r _ [45, 25, 3, 24, 46, 47, 48, 49, 7, 50, 38, 39, 40, 41, 9, 2, 13, 14, 15, 51, 52, 53, 54, 55, 56, 57, 58, 59, 21, 60, 61, 62, 63, 64, 65, 66, 71, 72, 73, 74, 75, 76, 77, 78, 79, 80, 81, 82, 83, 84, 85, 86, 87, 88, 89, 90, 91, 92, 93, 94, 95, 96, 97] (by decide +kernel) (by decide +kernel)
set_option maxRecDepth 20000 in
theorem gX9_round_X9_dish : GoodIn wsX9_round (wsV RX9 140 RX9 yX9_dish wsX9_dish) := goodIn_app (goodIn_of _ (by decide +kernel)) ggX9_round_X9_dish
set_option maxRecDepth 20000 in
theorem ggX9_round_X9_hour : GoodIn wsX9_round wsX9_hour := goodIn_r _ [70, 9, 13, 14, 7, 15, 30, 31, 32, 33, 3, 71, 72, 73, 74, 75, 76, 77, 78, 79, 80, 81, 82, 83, 84, 85, 86, 87, 88, 89, 90, 91, 92, 93, 94, 95, 96, 97] (by decide +kernel) (by decide +kernel)
set_option maxRecDepth 20000 in
theorem gX9_round_X9_hour : GoodIn wsX9_round (wsV RX9 134 RX9 yX9_hour wsX9_hour) := goodIn_app (goodIn_of _ (by decide +kernel)) ggX9_round_X9_hour
theorem dX9_round_0 : decode cX9_round 0 = .ok (.aload_n 0, 1) := by decide +kernel
theorem dX9_round_1 : decode cX9_round 1 = .ok (.iload_n 1, 1) := by decide +kernel
theorem dX9_round_2 : decode cX9_round 2 = .ok (.invokevirtual 84, 3) := by decide +kernel
theorem dX9_round_5 : decode cX9_round 5 = .ok (.ifCond .ne 5, 3) := by decide +kernel
theorem dX9_round_8 : decode cX9_round 8 = .ok (.iconst (-1), 1) := by decide +kernel
theorem dX9_round_9 : decode cX9_round 9 = .ok (.ireturn, 1) := by decide +kernel
theorem dX9_round_10 : decode cX9_round 10 = .ok (.iload_n 2, 1) := by decide +kernel
theorem dX9_round_11 : decode cX9_round 11 = .ok (.iconst 0, 1) := by decide +kernel
theorem dX9_round_12 : decode cX9_round 12 = .ok (.iconst 5, 1) := by decide +kernel
theorem dX9_round_13 : decode cX9_round 13 = .ok (.invokestatic 72, 3) := by decide +kernel
theorem dX9_round_16 : decode cX9_round 16 = .ok (.ifCond .eq 24, 3) := by decide +kernel
theorem dX9_round_19 : decode cX9_round 19 = .ok (.iload_n 3, 1) := by decide +kernel
theorem dX9_round_20 : decode cX9_round 20 = .ok (.iconst 0, 1) := by decide +kernel
theorem dX9_round_21 : decode cX9_round 21 = .ok (.sipush 999, 3) := by decide +kernel
theorem dX9_round_24 : decode cX9_round 24 = .ok (.invokestatic 72, 3) := by decide +kernel
theorem dX9_round_27 : decode cX9_round 27 = .ok (.ifCond .eq 13, 3) := by decide +kernel
theorem dX9_round_30 : decode cX9_round 30 = .ok (.iload 4, 2) := by decide +kernel
theorem dX9_round_32 : decode cX9_round 32 = .ok (.iconst 0, 1) := by decide +kernel
theorem dX9_round_33 : decode cX9_round 33 = .ok (.iconst 1, 1) := by decide +kernel
theorem dX9_round_34 : decode cX9_round 34 = .ok (.invokestatic 72, 3) := by decide +kernel
theorem dX9_round_37 : decode cX9_round 37 = .ok (.ifCond .ne 6, 3) := by decide +kernel
theorem dX9_round_40 : decode cX9_round 40 = .ok (.bipush (-2), 2) := by decide +kernel
theorem dX9_round_42 : decode cX9_round 42 = .ok (.ireturn, 1) := by decide +kernel
theorem dX9_round_43 : decode cX9_round 43 = .ok (.iconst 1, 1) := by decide +kernel
theorem dX9_round_44 : decode cX9_round 44 = .ok (.istore 5, 2) := by decide +kernel
theorem dX9_round_46 : decode cX9_round 46 = .ok (.iconst 0, 1) := by decide +kernel
theorem dX9_round_47 : decode cX9_round 47 = .ok (.istore 6, 2) := by decide +kernel
theorem dX9_round_49 : decode cX9_round 49 = .ok (.iload 6, 2) := by decide +kernel
theorem dX9_round_51 : decode cX9_round 51 = .ok (.iload_n 2, 1) := by decide +kernel
theorem dX9_round_52 : decode cX9_round 52 = .ok (.if_icmp .ge 15, 3) := by decide +kernel
theorem dX9_round_55 : decode cX9_round 55 = .ok (.iload 5, 2) := by decide +kernel
theorem dX9_round_57 : decode cX9_round 57 = .ok (.iconst 3, 1) := by decide +kernel
theorem dX9_round_58 : decode cX9_round 58 = .ok (.imul, 1) := by decide +kernel
theorem dX9_round_59 : decode cX9_round 59 = .ok (.istore 5, 2) := by decide +kernel
theorem dX9_round_61 : decode cX9_round 61 = .ok (.iinc 6 1, 3) := by decide +kernel
theorem dX9_round_64 : decode cX9_round 64 = .ok (.goto (-15), 3) := by decide +kernel
theorem dX9_round_67 : decode cX9_round 67 = .ok (.ldc 162, 2) := by decide +kernel
theorem dX9_round_69 : decode cX9_round 69 = .ok (.istore 6, 2) := by decide +kernel
theorem dX9_round_71 : decode cX9_round 71 = .ok (.bipush (-6), 2) := by decide +kernel
theorem dX9_round_73 : decode cX9_round 73 = .ok (.istore 7, 2) := by decide +kernel
theorem dX9_round_75 : decode cX9_round 75 = .ok (.iconst 0, 1) := by decide +kernel
theorem dX9_round_76 : decode cX9_round 76 = .ok (.istore 8, 2) := by decide +kernel
theorem dX9_round_78 : decode cX9_round 78 = .ok (.iload 8, 2) := by decide +kernel
theorem dX9_round_80 : decode cX9_round 80 = .ok (.iload 5, 2) := by decide +kernel
theorem dX9_round_82 : decode cX9_round 82 = .ok (.if_icmp .ge 203, 3) := by decide +kernel
theorem dX9_round_85 : decode cX9_round 85 = .ok (.iload 5, 2) := by decide +kernel
theorem dX9_round_87 : decode cX9_round 87 = .ok (.istore 9, 2) := by decide +kernel
theorem dX9_round_89 : decode cX9_round 89 = .ok (.bipush (-6), 2) := by decide +kernel
theorem dX9_round_91 : decode cX9_round 91 = .ok (.istore 10, 2) := by decide +kernel
theorem dX9_round_93 : decode cX9_round 93 = .ok (.aload_n 0, 1) := by decide +kernel
theorem dX9_round_94 : decode cX9_round 94 = .ok (.invokevirtual 122, 3) := by decide +kernel
theorem dX9_round_97 : decode cX9_round 97 = .ok (.iconst 0, 1) := by decide +kernel
theorem dX9_round_98 : decode cX9_round 98 = .ok (.istore 11, 2) := by decide +kernel
theorem dX9_round_100 : decode cX9_round 100 = .ok (.iload 11, 2) := by decide +kernel
theorem dX9_round_102 : decode cX9_round 102 = .ok (.iload_n 2, 1) := by decide +kernel
theorem dX9_round_103 : decode cX9_round 103 = .ok (.if_icmp .ge 132, 3) := by decide +kernel
theorem dX9_round_106 : decode cX9_round 106 = .ok (.iload 9, 2) := by decide +kernel
theorem dX9_round_108 : decode cX9_round 108 = .ok (.iconst 3, 1) := by decide +kernel
theorem dX9_round_109 : decode cX9_round 109 = .ok (.idiv, 1) := by decide +kernel
theorem dX9_round_110 : decode cX9_round 110 = .ok (.istore 9, 2) := by decide +kernel
theorem dX9_round_112 : decode cX9_round 112 = .ok (.iload 8, 2) := by decide +kernel
theorem dX9_round_114 : decode cX9_round 114 = .ok (.iload 9, 2) := by decide +kernel
theorem dX9_round_116 : decode cX9_round 116 = .ok (.idiv, 1) := by decide +kernel
theorem dX9_round_117 : decode cX9_round 117 = .ok (.iconst 3, 1) := by decide +kernel
theorem dX9_round_118 : decode cX9_round 118 = .ok (.irem, 1) := by decide +kernel
theorem dX9_round_119 : decode cX9_round 119 = .ok (.istore 12, 2) := by decide +kernel
theorem dX9_round_121 : decode cX9_round 121 = .ok (.iload 11, 2) := by decide +kernel
theorem dX9_round_123 : decode cX9_round 123 = .ok (.ifCond .ne 8, 3) := by decide +kernel
theorem dX9_round_126 : decode cX9_round 126 = .ok (.iload 12, 2) := by decide +kernel
theorem dX9_round_128 : decode cX9_round 128 = .ok (.goto 5, 3) := by decide +kernel
theorem dX9_round_131 : decode cX9_round 131 = .ok (.iload 10, 2) := by decide +kernel
theorem dX9_round_133 : decode cX9_round 133 = .ok (.istore 10, 2) := by decide +kernel
theorem dX9_round_135 : decode cX9_round 135 = .ok (.aload_n 0, 1) := by decide +kernel
theorem dX9_round_136 : decode cX9_round 136 = .ok (.getfield 38, 3) := by decide +kernel
theorem dX9_round_139 : decode cX9_round 139 = .ok (.iload_n 1, 1) := by decide +kernel
theorem dX9_round_140 : decode cX9_round 140 = .ok (.iaload, 1) := by decide +kernel
theorem dX9_round_141 : decode cX9_round 141 = .ok (.iload 12, 2) := by decide +kernel
theorem dX9_round_143 : decode cX9_round 143 = .ok (.if_icmp .eq 10, 3) := by decide +kernel
theorem dX9_round_146 : decode cX9_round 146 = .ok (.aload_n 0, 1) := by decide +kernel
theorem dX9_round_147 : decode cX9_round 147 = .ok (.iload_n 1, 1) := by decide +kernel
theorem dX9_round_148 : decode cX9_round 148 = .ok (.iload 12, 2) := by decide +kernel
theorem dX9_round_150 : decode cX9_round 150 = .ok (.invokevirtual 146, 3) := by decide +kernel
theorem dX9_round_153 : decode cX9_round 153 = .ok (.iconst 0, 1) := by decide +kernel
theorem dX9_round_154 : decode cX9_round 154 = .ok (.istore 13, 2) := by decide +kernel
theorem dX9_round_156 : decode cX9_round 156 = .ok (.iload 13, 2) := by decide +kernel
theorem dX9_round_158 : decode cX9_round 158 = .ok (.iconst 3, 1) := by decide +kernel
theorem dX9_round_159 : decode cX9_round 159 = .ok (.if_icmp .ge 66, 3) := by decide +kernel
theorem dX9_round_162 : decode cX9_round 162 = .ok (.iload 13, 2) := by decide +kernel
theorem dX9_round_164 : decode cX9_round 164 = .ok (.ifCond .ne 10, 3) := by decide +kernel
theorem dX9_round_167 : decode cX9_round 167 = .ok (.iload_n 3, 1) := by decide +kernel
theorem dX9_round_168 : decode cX9_round 168 = .ok (.bipush 100, 2) := by decide +kernel
theorem dX9_round_170 : decode cX9_round 170 = .ok (.idiv, 1) := by decide +kernel
theorem dX9_round_171 : decode cX9_round 171 = .ok (.goto 23, 3) := by decide +kernel
theorem dX9_round_174 : decode cX9_round 174 = .ok (.iload 13, 2) := by decide +kernel
theorem dX9_round_176 : decode cX9_round 176 = .ok (.iconst 1, 1) := by decide +kernel
theorem dX9_round_177 : decode cX9_round 177 = .ok (.if_icmp .ne 13, 3) := by decide +kernel
theorem dX9_round_180 : decode cX9_round 180 = .ok (.iload_n 3, 1) := by decide +kernel
theorem dX9_round_181 : decode cX9_round 181 = .ok (.bipush 10, 2) := by decide +kernel
theorem dX9_round_183 : decode cX9_round 183 = .ok (.idiv, 1) := by decide +kernel
theorem dX9_round_184 : decode cX9_round 184 = .ok (.bipush 10, 2) := by decide +kernel
theorem dX9_round_186 : decode cX9_round 186 = .ok (.irem, 1) := by decide +kernel
theorem dX9_round_187 : decode cX9_round 187 = .ok (.goto 7, 3) := by decide +kernel
theorem dX9_round_190 : decode cX9_round 190 = .ok (.iload_n 3, 1) := by decide +kernel
theorem dX9_round_191 : decode cX9_round 191 = .ok (.bipush 10, 2) := by decide +kernel
theorem dX9_round_193 : decode cX9_round 193 = .ok (.irem, 1) := by decide +kernel
theorem dX9_round_194 : decode cX9_round 194 = .ok (.istore 14, 2) := by decide +kernel
theorem dX9_round_196 : decode cX9_round 196 = .ok (.iload 14, 2) := by decide +kernel
theorem dX9_round_198 : decode cX9_round 198 = .ok (.ifCond .le 21, 3) := by decide +kernel
theorem dX9_round_201 : decode cX9_round 201 = .ok (.aload_n 0, 1) := by decide +kernel
theorem dX9_round_202 : decode cX9_round 202 = .ok (.iload 13, 2) := by decide +kernel
theorem dX9_round_204 : decode cX9_round 204 = .ok (.invokevirtual 137, 3) := by decide +kernel
theorem dX9_round_207 : decode cX9_round 207 = .ok (.ifCond .eq 12, 3) := by decide +kernel
theorem dX9_round_210 : decode cX9_round 210 = .ok (.aload_n 0, 1) := by decide +kernel
theorem dX9_round_211 : decode cX9_round 211 = .ok (.iload 13, 2) := by decide +kernel
theorem dX9_round_213 : decode cX9_round 213 = .ok (.iload 14, 2) := by decide +kernel
theorem dX9_round_215 : decode cX9_round 215 = .ok (.invokevirtual 140, 3) := by decide +kernel
theorem dX9_round_218 : decode cX9_round 218 = .ok (.pop, 1) := by decide +kernel
theorem dX9_round_219 : decode cX9_round 219 = .ok (.iinc 13 1, 3) := by decide +kernel
theorem dX9_round_222 : decode cX9_round 222 = .ok (.goto (-66), 3) := by decide +kernel
theorem dX9_round_225 : decode cX9_round 225 = .ok (.aload_n 0, 1) := by decide +kernel
theorem dX9_round_226 : decode cX9_round 226 = .ok (.invokevirtual 134, 3) := by decide +kernel
theorem dX9_round_229 : decode cX9_round 229 = .ok (.iinc 11 1, 3) := by decide +kernel
theorem dX9_round_232 : decode cX9_round 232 = .ok (.goto (-132), 3) := by decide +kernel
theorem dX9_round_235 : decode cX9_round 235 = .ok (.aload_n 0, 1) := by decide +kernel
theorem dX9_round_236 : decode cX9_round 236 = .ok (.getfield 32, 3) := by decide +kernel
theorem dX9_round_239 : decode cX9_round 239 = .ok (.iload_n 1, 1) := by decide +kernel
theorem dX9_round_240 : decode cX9_round 240 = .ok (.iaload, 1) := by decide +kernel
theorem dX9_round_241 : decode cX9_round 241 = .ok (.iload 6, 2) := by decide +kernel
theorem dX9_round_243 : decode cX9_round 243 = .ok (.if_icmp .ge 8, 3) := by decide +kernel
theorem dX9_round_246 : decode cX9_round 246 = .ok (.iload 10, 2) := by decide +kernel
theorem dX9_round_248 : decode cX9_round 248 = .ok (.goto 5, 3) := by decide +kernel
theorem dX9_round_251 : decode cX9_round 251 = .ok (.iload 7, 2) := by decide +kernel
theorem dX9_round_253 : decode cX9_round 253 = .ok (.istore 7, 2) := by decide +kernel
theorem dX9_round_255 : decode cX9_round 255 = .ok (.aload_n 0, 1) := by decide +kernel
theorem dX9_round_256 : decode cX9_round 256 = .ok (.getfield 32, 3) := by decide +kernel
theorem dX9_round_259 : decode cX9_round 259 = .ok (.iload_n 1, 1) := by decide +kernel
theorem dX9_round_260 : decode cX9_round 260 = .ok (.iaload, 1) := by decide +kernel
theorem dX9_round_261 : decode cX9_round 261 = .ok (.iload 6, 2) := by decide +kernel
theorem dX9_round_263 : decode cX9_round 263 = .ok (.if_icmp .ge 12, 3) := by decide +kernel
theorem dX9_round_266 : decode cX9_round 266 = .ok (.aload_n 0, 1) := by decide +kernel
theorem dX9_round_267 : decode cX9_round 267 = .ok (.getfield 32, 3) := by decide +kernel
theorem dX9_round_270 : decode cX9_round 270 = .ok (.iload_n 1, 1) := by decide +kernel
theorem dX9_round_271 : decode cX9_round 271 = .ok (.iaload, 1) := by decide +kernel
theorem dX9_round_272 : decode cX9_round 272 = .ok (.goto 5, 3) := by decide +kernel
theorem dX9_round_275 : decode cX9_round 275 = .ok (.iload 6, 2) := by decide +kernel
theorem dX9_round_277 : decode cX9_round 277 = .ok (.istore 6, 2) := by decide +kernel
theorem dX9_round_279 : decode cX9_round 279 = .ok (.iinc 8 1, 3) := by decide +kernel
theorem dX9_round_282 : decode cX9_round 282 = .ok (.goto (-204), 3) := by decide +kernel
theorem dX9_round_285 : decode cX9_round 285 = .ok (.iload 4, 2) := by decide +kernel
theorem dX9_round_287 : decode cX9_round 287 = .ok (.ifCond .ne 8, 3) := by decide +kernel
theorem dX9_round_290 : decode cX9_round 290 = .ok (.iload 6, 2) := by decide +kernel
theorem dX9_round_292 : decode cX9_round 292 = .ok (.goto 5, 3) := by decide +kernel
theorem dX9_round_295 : decode cX9_round 295 = .ok (.iload 7, 2) := by decide +kernel
theorem dX9_round_297 : decode cX9_round 297 = .ok (.ireturn, 1) := by decide +kernel
set_option maxRecDepth 20000 in
theorem ggX9_rules_X9_in : GoodIn wsX9_rules wsX9_in := goodIn_r _ [5] (by decide +kernel) (by decide +kernel)
set_option maxRecDepth 20000 in
theorem gX9_rules_X9_in : GoodIn wsX9_rules (va_wsS RX9 72 yX9_in wsX9_in) := goodIn_app (goodIn_of _ (by decide +kernel)) ggX9_rules_X9_in
set_option maxRecDepth 20000 in
theorem ggX9_rules_X9_asNow : GoodIn wsX9_rules wsX9_asNow := goodIn_r _ [9, 1, 10, 11, 12, 13, 14, 15, 16, 42, 43, 44, 45, 46, 47, 48, 49, 50, 51, 52, 53, 54, 55, 56, 57, 58, 59, 60, 61, 62, 63, 64, 65, 66, 67, 68] (by decide +kernel) (by decide +kernel)
set_option maxRecDepth 20000 in
theorem gX9_rules_X9_asNow : GoodIn wsX9_rules (wsV RX9 122 RX9 yX9_asNow wsX9_asNow) := goodIn_app (goodIn_of _ (by decide +kernel)) ggX9_rules_X9_asNow
set_option maxRecDepth 20000 in
theorem ggX9_rules_X9_servedBy : GoodIn wsX9_rules wsX9_servedBy := goodIn_r _ [20, 1, 21, 22, 23, 4, 24, 25, 13, 26, 27, 28, 29, 30, 31, 32, 33, 34, 35, 36, 37, 11, 38, 39, 40, 41, 42, 43, 44, 45, 46, 47, 48, 49, 50, 51, 52, 53, 54, 55, 56, 57, 58, 59, 60, 61, 62, 63, 64, 65, 66, 67, 68] (by decide +kernel) (by decide +kernel)
set_option maxRecDepth 20000 in
theorem gX9_rules_X9_servedBy : GoodIn wsX9_rules (wsV RX9 111 RX9 yX9_servedBy wsX9_servedBy) := goodIn_app (goodIn_of _ (by decide +kernel)) ggX9_rules_X9_servedBy
set_option maxRecDepth 20000 in
theorem ggX9_rules_X9_has : GoodIn wsX9_rules wsX9_has := goodIn_r _ [28] (by decide +kernel) (by decide +kernel)
set_option maxRecDepth 20000 in
theorem gX9_rules_X9_has : GoodIn wsX9_rules (va_wsS RX9 76 yX9_has wsX9_has) := goodIn_app (goodIn_of _ (by decide +kernel)) ggX9_rules_X9_has
set_option maxRecDepth 20000 in
theorem ggX9_rules_X9_isIn : GoodIn wsX9_rules wsX9_isIn := goodIn_r _ [24, 25, 13, 26, 27, 4, 28, 42, 43, 44, 45, 46, 47, 48, 49, 50, 51, 52, 53, 54, 55, 56, 57, 58, 59, 60, 61, 62, 63, 64, 65, 66, 67, 68] (by decide +kernel) (by decide +kernel)
set_option maxRecDepth 20000 in
theorem gX9_rules_X9_isIn : GoodIn wsX9_rules (wsV RX9 98 RX9 yX9_isIn wsX9_isIn) := goodIn_app (goodIn_of _ (by decide +kernel)) ggX9_rules_X9_isIn
theorem dX9_rules_0 : decode cX9_rules 0 = .ok (.iload_n 1, 1) := by decide +kernel
theorem dX9_rules_1 : decode cX9_rules 1 = .ok (.iconst 0, 1) := by decide +kernel
theorem dX9_rules_2 : decode cX9_rules 2 = .ok (.iconst 2, 1) := by decide +kernel
theorem dX9_rules_3 : decode cX9_rules 3 = .ok (.invokestatic 72, 3) := by decide +kernel
theorem dX9_rules_6 : decode cX9_rules 6 = .ok (.ifCond .ne 5, 3) := by decide +kernel
theorem dX9_rules_9 : decode cX9_rules 9 = .ok (.iconst (-1), 1) := by decide +kernel
theorem dX9_rules_10 : decode cX9_rules 10 = .ok (.ireturn, 1) := by decide +kernel
theorem dX9_rules_11 : decode cX9_rules 11 = .ok (.iload_n 2, 1) := by decide +kernel
theorem dX9_rules_12 : decode cX9_rules 12 = .ok (.iconst 1, 1) := by decide +kernel
theorem dX9_rules_13 : decode cX9_rules 13 = .ok (.bipush 9, 2) := by decide +kernel
theorem dX9_rules_15 : decode cX9_rules 15 = .ok (.invokestatic 72, 3) := by decide +kernel
theorem dX9_rules_18 : decode cX9_rules 18 = .ok (.ifCond .eq 22, 3) := by decide +kernel
theorem dX9_rules_21 : decode cX9_rules 21 = .ok (.iload_n 3, 1) := by decide +kernel
theorem dX9_rules_22 : decode cX9_rules 22 = .ok (.iconst 0, 1) := by decide +kernel
theorem dX9_rules_23 : decode cX9_rules 23 = .ok (.iconst 2, 1) := by decide +kernel
theorem dX9_rules_24 : decode cX9_rules 24 = .ok (.invokestatic 72, 3) := by decide +kernel
theorem dX9_rules_27 : decode cX9_rules 27 = .ok (.ifCond .eq 13, 3) := by decide +kernel
theorem dX9_rules_30 : decode cX9_rules 30 = .ok (.iload 4, 2) := by decide +kernel
theorem dX9_rules_32 : decode cX9_rules 32 = .ok (.iconst 0, 1) := by decide +kernel
theorem dX9_rules_33 : decode cX9_rules 33 = .ok (.iconst 1, 1) := by decide +kernel
theorem dX9_rules_34 : decode cX9_rules 34 = .ok (.invokestatic 72, 3) := by decide +kernel
theorem dX9_rules_37 : decode cX9_rules 37 = .ok (.ifCond .ne 6, 3) := by decide +kernel
theorem dX9_rules_40 : decode cX9_rules 40 = .ok (.bipush (-2), 2) := by decide +kernel
theorem dX9_rules_42 : decode cX9_rules 42 = .ok (.ireturn, 1) := by decide +kernel
theorem dX9_rules_43 : decode cX9_rules 43 = .ok (.aload_n 0, 1) := by decide +kernel
theorem dX9_rules_44 : decode cX9_rules 44 = .ok (.invokevirtual 122, 3) := by decide +kernel
theorem dX9_rules_47 : decode cX9_rules 47 = .ok (.aload_n 0, 1) := by decide +kernel
theorem dX9_rules_48 : decode cX9_rules 48 = .ok (.iload_n 1, 1) := by decide +kernel
theorem dX9_rules_49 : decode cX9_rules 49 = .ok (.iload_n 2, 1) := by decide +kernel
theorem dX9_rules_50 : decode cX9_rules 50 = .ok (.iload_n 3, 1) := by decide +kernel
theorem dX9_rules_51 : decode cX9_rules 51 = .ok (.invokevirtual 111, 3) := by decide +kernel
theorem dX9_rules_54 : decode cX9_rules 54 = .ok (.istore 5, 2) := by decide +kernel
theorem dX9_rules_56 : decode cX9_rules 56 = .ok (.iconst 0, 1) := by decide +kernel
theorem dX9_rules_57 : decode cX9_rules 57 = .ok (.istore 6, 2) := by decide +kernel
theorem dX9_rules_59 : decode cX9_rules 59 = .ok (.iconst 0, 1) := by decide +kernel
theorem dX9_rules_60 : decode cX9_rules 60 = .ok (.istore 7, 2) := by decide +kernel
theorem dX9_rules_62 : decode cX9_rules 62 = .ok (.iconst 0, 1) := by decide +kernel
theorem dX9_rules_63 : decode cX9_rules 63 = .ok (.istore 8, 2) := by decide +kernel
theorem dX9_rules_65 : decode cX9_rules 65 = .ok (.iload 8, 2) := by decide +kernel
theorem dX9_rules_67 : decode cX9_rules 67 = .ok (.bipush 6, 2) := by decide +kernel
theorem dX9_rules_69 : decode cX9_rules 69 = .ok (.if_icmp .ge 102, 3) := by decide +kernel
theorem dX9_rules_72 : decode cX9_rules 72 = .ok (.iload 5, 2) := by decide +kernel
theorem dX9_rules_74 : decode cX9_rules 74 = .ok (.iload 8, 2) := by decide +kernel
theorem dX9_rules_76 : decode cX9_rules 76 = .ok (.invokestatic 76, 3) := by decide +kernel
theorem dX9_rules_79 : decode cX9_rules 79 = .ok (.ifCond .ne 13, 3) := by decide +kernel
theorem dX9_rules_82 : decode cX9_rules 82 = .ok (.aload_n 0, 1) := by decide +kernel
theorem dX9_rules_83 : decode cX9_rules 83 = .ok (.getfield 32, 3) := by decide +kernel
theorem dX9_rules_86 : decode cX9_rules 86 = .ok (.iload 8, 2) := by decide +kernel
theorem dX9_rules_88 : decode cX9_rules 88 = .ok (.iaload, 1) := by decide +kernel
theorem dX9_rules_89 : decode cX9_rules 89 = .ok (.goto 27, 3) := by decide +kernel
theorem dX9_rules_92 : decode cX9_rules 92 = .ok (.aload_n 0, 1) := by decide +kernel
theorem dX9_rules_93 : decode cX9_rules 93 = .ok (.getfield 32, 3) := by decide +kernel
theorem dX9_rules_96 : decode cX9_rules 96 = .ok (.iload 8, 2) := by decide +kernel
theorem dX9_rules_98 : decode cX9_rules 98 = .ok (.iaload, 1) := by decide +kernel
theorem dX9_rules_99 : decode cX9_rules 99 = .ok (.iconst 2, 1) := by decide +kernel
theorem dX9_rules_100 : decode cX9_rules 100 = .ok (.if_icmp .le 15, 3) := by decide +kernel
theorem dX9_rules_103 : decode cX9_rules 103 = .ok (.aload_n 0, 1) := by decide +kernel
theorem dX9_rules_104 : decode cX9_rules 104 = .ok (.getfield 32, 3) := by decide +kernel
theorem dX9_rules_107 : decode cX9_rules 107 = .ok (.iload 8, 2) := by decide +kernel
theorem dX9_rules_109 : decode cX9_rules 109 = .ok (.iaload, 1) := by decide +kernel
theorem dX9_rules_110 : decode cX9_rules 110 = .ok (.iconst 2, 1) := by decide +kernel
theorem dX9_rules_111 : decode cX9_rules 111 = .ok (.isub, 1) := by decide +kernel
theorem dX9_rules_112 : decode cX9_rules 112 = .ok (.goto 4, 3) := by decide +kernel
theorem dX9_rules_115 : decode cX9_rules 115 = .ok (.iconst 0, 1) := by decide +kernel
theorem dX9_rules_116 : decode cX9_rules 116 = .ok (.istore 9, 2) := by decide +kernel
theorem dX9_rules_118 : decode cX9_rules 118 = .ok (.iload 6, 2) := by decide +kernel
theorem dX9_rules_120 : decode cX9_rules 120 = .ok (.aload_n 0, 1) := by decide +kernel
theorem dX9_rules_121 : decode cX9_rules 121 = .ok (.iload 8, 2) := by decide +kernel
theorem dX9_rules_123 : decode cX9_rules 123 = .ok (.iload_n 1, 1) := by decide +kernel
theorem dX9_rules_124 : decode cX9_rules 124 = .ok (.invokevirtual 98, 3) := by decide +kernel
theorem dX9_rules_127 : decode cX9_rules 127 = .ok (.ifCond .eq 8, 3) := by decide +kernel
theorem dX9_rules_130 : decode cX9_rules 130 = .ok (.iload 9, 2) := by decide +kernel
theorem dX9_rules_132 : decode cX9_rules 132 = .ok (.goto 4, 3) := by decide +kernel
theorem dX9_rules_135 : decode cX9_rules 135 = .ok (.iconst 0, 1) := by decide +kernel
theorem dX9_rules_136 : decode cX9_rules 136 = .ok (.iadd, 1) := by decide +kernel
theorem dX9_rules_137 : decode cX9_rules 137 = .ok (.istore 6, 2) := by decide +kernel
theorem dX9_rules_139 : decode cX9_rules 139 = .ok (.aload_n 0, 1) := by decide +kernel
theorem dX9_rules_140 : decode cX9_rules 140 = .ok (.iload 8, 2) := by decide +kernel
theorem dX9_rules_142 : decode cX9_rules 142 = .ok (.iload_n 1, 1) := by decide +kernel
theorem dX9_rules_143 : decode cX9_rules 143 = .ok (.invokevirtual 98, 3) := by decide +kernel
theorem dX9_rules_146 : decode cX9_rules 146 = .ok (.ifCond .eq 15, 3) := by decide +kernel
theorem dX9_rules_149 : decode cX9_rules 149 = .ok (.iload 9, 2) := by decide +kernel
theorem dX9_rules_151 : decode cX9_rules 151 = .ok (.iload 7, 2) := by decide +kernel
theorem dX9_rules_153 : decode cX9_rules 153 = .ok (.if_icmp .le 8, 3) := by decide +kernel
theorem dX9_rules_156 : decode cX9_rules 156 = .ok (.iload 9, 2) := by decide +kernel
theorem dX9_rules_158 : decode cX9_rules 158 = .ok (.goto 5, 3) := by decide +kernel
theorem dX9_rules_161 : decode cX9_rules 161 = .ok (.iload 7, 2) := by decide +kernel
theorem dX9_rules_163 : decode cX9_rules 163 = .ok (.istore 7, 2) := by decide +kernel
theorem dX9_rules_165 : decode cX9_rules 165 = .ok (.iinc 8 1, 3) := by decide +kernel
theorem dX9_rules_168 : decode cX9_rules 168 = .ok (.goto (-103), 3) := by decide +kernel
theorem dX9_rules_171 : decode cX9_rules 171 = .ok (.iload 4, 2) := by decide +kernel
theorem dX9_rules_173 : decode cX9_rules 173 = .ok (.ifCond .ne 8, 3) := by decide +kernel
theorem dX9_rules_176 : decode cX9_rules 176 = .ok (.iload 6, 2) := by decide +kernel
theorem dX9_rules_178 : decode cX9_rules 178 = .ok (.goto 5, 3) := by decide +kernel
theorem dX9_rules_181 : decode cX9_rules 181 = .ok (.iload 7, 2) := by decide +kernel
theorem dX9_rules_183 : decode cX9_rules 183 = .ok (.ireturn, 1) := by decide +kernel
set_option maxRecDepth 20000 in
theorem ggX9_seen_X9_in : GoodIn wsX9_seen wsX9_in := goodIn_r _ [6] (by decide +kernel) (by decide +kernel)
set_option maxRecDepth 20000 in
theorem gX9_seen_X9_in : GoodIn wsX9_seen (va_wsS RX9 72 yX9_in wsX9_in) := goodIn_app (goodIn_of _ (by decide +kernel)) ggX9_seen_X9_in
theorem dX9_seen_0 : decode cX9_seen 0 = .ok (.iload_n 1, 1) := by decide +kernel
theorem dX9_seen_1 : decode cX9_seen 1 = .ok (.iconst 1, 1) := by decide +kernel
theorem dX9_seen_2 : decode cX9_seen 2 = .ok (.bipush 9, 2) := by decide +kernel
theorem dX9_seen_4 : decode cX9_seen 4 = .ok (.invokestatic 72, 3) := by decide +kernel
theorem dX9_seen_7 : decode cX9_seen 7 = .ok (.ifCond .eq 13, 3) := by decide +kernel
theorem dX9_seen_10 : decode cX9_seen 10 = .ok (.iload_n 2, 1) := by decide +kernel
theorem dX9_seen_11 : decode cX9_seen 11 = .ok (.iconst 0, 1) := by decide +kernel
theorem dX9_seen_12 : decode cX9_seen 12 = .ok (.bipush 63, 2) := by decide +kernel
theorem dX9_seen_14 : decode cX9_seen 14 = .ok (.invokestatic 72, 3) := by decide +kernel
theorem dX9_seen_17 : decode cX9_seen 17 = .ok (.ifCond .ne 6, 3) := by decide +kernel
theorem dX9_seen_20 : decode cX9_seen 20 = .ok (.bipush (-2), 2) := by decide +kernel
theorem dX9_seen_22 : decode cX9_seen 22 = .ok (.ireturn, 1) := by decide +kernel
theorem dX9_seen_23 : decode cX9_seen 23 = .ok (.aload_n 0, 1) := by decide +kernel
theorem dX9_seen_24 : decode cX9_seen 24 = .ok (.getfield 163, 3) := by decide +kernel
theorem dX9_seen_27 : decode cX9_seen 27 = .ok (.bipush 8, 2) := by decide +kernel
theorem dX9_seen_29 : decode cX9_seen 29 = .ok (.if_icmp .ne 6, 3) := by decide +kernel
theorem dX9_seen_32 : decode cX9_seen 32 = .ok (.bipush (-4), 2) := by decide +kernel
theorem dX9_seen_34 : decode cX9_seen 34 = .ok (.ireturn, 1) := by decide +kernel
theorem dX9_seen_35 : decode cX9_seen 35 = .ok (.aload_n 0, 1) := by decide +kernel
theorem dX9_seen_36 : decode cX9_seen 36 = .ok (.getfield 26, 3) := by decide +kernel
theorem dX9_seen_39 : decode cX9_seen 39 = .ok (.iconst 2, 1) := by decide +kernel
theorem dX9_seen_40 : decode cX9_seen 40 = .ok (.aload_n 0, 1) := by decide +kernel
theorem dX9_seen_41 : decode cX9_seen 41 = .ok (.getfield 163, 3) := by decide +kernel
theorem dX9_seen_44 : decode cX9_seen 44 = .ok (.imul, 1) := by decide +kernel
theorem dX9_seen_45 : decode cX9_seen 45 = .ok (.iload_n 1, 1) := by decide +kernel
theorem dX9_seen_46 : decode cX9_seen 46 = .ok (.iastore, 1) := by decide +kernel
theorem dX9_seen_47 : decode cX9_seen 47 = .ok (.aload_n 0, 1) := by decide +kernel
theorem dX9_seen_48 : decode cX9_seen 48 = .ok (.getfield 26, 3) := by decide +kernel
theorem dX9_seen_51 : decode cX9_seen 51 = .ok (.iconst 2, 1) := by decide +kernel
theorem dX9_seen_52 : decode cX9_seen 52 = .ok (.aload_n 0, 1) := by decide +kernel
theorem dX9_seen_53 : decode cX9_seen 53 = .ok (.getfield 163, 3) := by decide +kernel
theorem dX9_seen_56 : decode cX9_seen 56 = .ok (.imul, 1) := by decide +kernel
theorem dX9_seen_57 : decode cX9_seen 57 = .ok (.iconst 1, 1) := by decide +kernel
theorem dX9_seen_58 : decode cX9_seen 58 = .ok (.iadd, 1) := by decide +kernel
theorem dX9_seen_59 : decode cX9_seen 59 = .ok (.iload_n 2, 1) := by decide +kernel
theorem dX9_seen_60 : decode cX9_seen 60 = .ok (.iastore, 1) := by decide +kernel
theorem dX9_seen_61 : decode cX9_seen 61 = .ok (.aload_n 0, 1) := by decide +kernel
theorem dX9_seen_62 : decode cX9_seen 62 = .ok (.dup, 1) := by decide +kernel
theorem dX9_seen_63 : decode cX9_seen 63 = .ok (.getfield 163, 3) := by decide +kernel
theorem dX9_seen_66 : decode cX9_seen 66 = .ok (.iconst 1, 1) := by decide +kernel
theorem dX9_seen_67 : decode cX9_seen 67 = .ok (.iadd, 1) := by decide +kernel
theorem dX9_seen_68 : decode cX9_seen 68 = .ok (.putfield 163, 3) := by decide +kernel
theorem dX9_seen_71 : decode cX9_seen 71 = .ok (.aload_n 0, 1) := by decide +kernel
theorem dX9_seen_72 : decode cX9_seen 72 = .ok (.getfield 163, 3) := by decide +kernel
theorem dX9_seen_75 : decode cX9_seen 75 = .ok (.ireturn, 1) := by decide +kernel
theorem dX9_forget_0 : decode cX9_forget 0 = .ok (.aload_n 0, 1) := by decide +kernel
theorem dX9_forget_1 : decode cX9_forget 1 = .ok (.getfield 163, 3) := by decide +kernel
theorem dX9_forget_4 : decode cX9_forget 4 = .ok (.istore_n 1, 1) := by decide +kernel
theorem dX9_forget_5 : decode cX9_forget 5 = .ok (.aload_n 0, 1) := by decide +kernel
theorem dX9_forget_6 : decode cX9_forget 6 = .ok (.iconst 0, 1) := by decide +kernel
theorem dX9_forget_7 : decode cX9_forget 7 = .ok (.putfield 163, 3) := by decide +kernel
theorem dX9_forget_10 : decode cX9_forget 10 = .ok (.iload_n 1, 1) := by decide +kernel
theorem dX9_forget_11 : decode cX9_forget 11 = .ok (.ireturn, 1) := by decide +kernel
set_option maxRecDepth 20000 in
theorem ggX9_layWorlds_X9_asNow : GoodIn wsX9_layWorlds wsX9_asNow := goodIn_r _ [13, 6, 14, 15, 16, 17, 18, 19, 20, 53, 54, 55, 56, 57, 58, 59, 60, 61, 62, 63, 64, 65, 66, 67, 68, 69, 70, 71, 72, 73, 74, 75, 76, 77, 78, 79] (by decide +kernel) (by decide +kernel)
set_option maxRecDepth 20000 in
theorem gX9_layWorlds_X9_asNow : GoodIn wsX9_layWorlds (wsV RX9 122 RX9 yX9_asNow wsX9_asNow) := goodIn_app (goodIn_of _ (by decide +kernel)) ggX9_layWorlds_X9_asNow
set_option maxRecDepth 20000 in
theorem ggX9_layWorlds_X9_inHouse : GoodIn wsX9_layWorlds wsX9_inHouse := goodIn_r _ [24, 25, 26, 27, 12, 28, 29, 17, 30, 31, 32, 53, 54, 55, 56, 57, 58, 59, 60, 61, 62, 63, 64, 65, 66, 67, 68, 69, 70, 71, 72, 73, 74, 75, 76, 77, 78, 79] (by decide +kernel) (by decide +kernel)
set_option maxRecDepth 20000 in
theorem gX9_layWorlds_X9_inHouse : GoodIn wsX9_layWorlds (wsV RX9 137 RX9 yX9_inHouse wsX9_inHouse) := goodIn_app (goodIn_of _ (by decide +kernel)) ggX9_layWorlds_X9_inHouse
set_option maxRecDepth 20000 in
theorem ggX9_layWorlds_X9_bits : GoodIn wsX9_layWorlds wsX9_bits := goodIn_r _ [35] (by decide +kernel) (by decide +kernel)
set_option maxRecDepth 20000 in
theorem gX9_layWorlds_X9_bits : GoodIn wsX9_layWorlds (va_wsS RX9 80 yX9_bits wsX9_bits) := goodIn_app (goodIn_of _ (by decide +kernel)) ggX9_layWorlds_X9_bits
set_option maxRecDepth 20000 in
theorem ggX9_layWorlds_X9_has : GoodIn wsX9_layWorlds wsX9_has := goodIn_r _ [32] (by decide +kernel) (by decide +kernel)
set_option maxRecDepth 20000 in
theorem gX9_layWorlds_X9_has : GoodIn wsX9_layWorlds (va_wsS RX9 76 yX9_has wsX9_has) := goodIn_app (goodIn_of _ (by decide +kernel)) ggX9_layWorlds_X9_has
set_option maxRecDepth 20000 in
theorem ggX9_layWorlds_X9_servedBy : GoodIn wsX9_layWorlds wsX9_servedBy := goodIn_r _ [39, 6, 25, 26, 27, 12, 28, 29, 17, 30, 31, 32, 40, 41, 42, 43, 44, 45, 46, 47, 48, 15, 49, 50, 51, 52, 53, 54, 55, 56, 57, 58, 59, 60, 61, 62, 63, 64, 65, 66, 67, 68, 69, 70, 71, 72, 73, 74, 75, 76, 77, 78, 79] (by decide +kernel) (by decide +kernel)
set_option maxRecDepth 20000 in
theorem gX9_layWorlds_X9_servedBy : GoodIn wsX9_layWorlds (wsV RX9 111 RX9 yX9_servedBy wsX9_servedBy) := goodIn_app (goodIn_of _ (by decide +kernel)) ggX9_layWorlds_X9_servedBy
theorem dX9_layWorlds_0 : decode cX9_layWorlds 0 = .ok (.aload_n 0, 1) := by decide +kernel
theorem dX9_layWorlds_1 : decode cX9_layWorlds 1 = .ok (.invokevirtual 122, 3) := by decide +kernel
theorem dX9_layWorlds_4 : decode cX9_layWorlds 4 = .ok (.aload_n 0, 1) := by decide +kernel
theorem dX9_layWorlds_5 : decode cX9_layWorlds 5 = .ok (.iconst 0, 1) := by decide +kernel
theorem dX9_layWorlds_6 : decode cX9_layWorlds 6 = .ok (.invokevirtual 137, 3) := by decide +kernel
theorem dX9_layWorlds_9 : decode cX9_layWorlds 9 = .ok (.istore_n 1, 1) := by decide +kernel
theorem dX9_layWorlds_10 : decode cX9_layWorlds 10 = .ok (.iload_n 1, 1) := by decide +kernel
theorem dX9_layWorlds_11 : decode cX9_layWorlds 11 = .ok (.invokestatic 80, 3) := by decide +kernel
theorem dX9_layWorlds_14 : decode cX9_layWorlds 14 = .ok (.iconst 4, 1) := by decide +kernel
theorem dX9_layWorlds_15 : decode cX9_layWorlds 15 = .ok (.if_icmp .le 5, 3) := by decide +kernel
theorem dX9_layWorlds_18 : decode cX9_layWorlds 18 = .ok (.iconst 0, 1) := by decide +kernel
theorem dX9_layWorlds_19 : decode cX9_layWorlds 19 = .ok (.ireturn, 1) := by decide +kernel
theorem dX9_layWorlds_20 : decode cX9_layWorlds 20 = .ok (.iconst 1, 1) := by decide +kernel
theorem dX9_layWorlds_21 : decode cX9_layWorlds 21 = .ok (.istore_n 2, 1) := by decide +kernel
theorem dX9_layWorlds_22 : decode cX9_layWorlds 22 = .ok (.iconst 0, 1) := by decide +kernel
theorem dX9_layWorlds_23 : decode cX9_layWorlds 23 = .ok (.istore_n 3, 1) := by decide +kernel
theorem dX9_layWorlds_24 : decode cX9_layWorlds 24 = .ok (.iload_n 3, 1) := by decide +kernel
theorem dX9_layWorlds_25 : decode cX9_layWorlds 25 = .ok (.iload_n 1, 1) := by decide +kernel
theorem dX9_layWorlds_26 : decode cX9_layWorlds 26 = .ok (.invokestatic 80, 3) := by decide +kernel
theorem dX9_layWorlds_29 : decode cX9_layWorlds 29 = .ok (.if_icmp .ge 14, 3) := by decide +kernel
theorem dX9_layWorlds_32 : decode cX9_layWorlds 32 = .ok (.iload_n 2, 1) := by decide +kernel
theorem dX9_layWorlds_33 : decode cX9_layWorlds 33 = .ok (.bipush 6, 2) := by decide +kernel
theorem dX9_layWorlds_35 : decode cX9_layWorlds 35 = .ok (.imul, 1) := by decide +kernel
theorem dX9_layWorlds_36 : decode cX9_layWorlds 36 = .ok (.istore_n 2, 1) := by decide +kernel
theorem dX9_layWorlds_37 : decode cX9_layWorlds 37 = .ok (.iinc 3 1, 3) := by decide +kernel
theorem dX9_layWorlds_40 : decode cX9_layWorlds 40 = .ok (.goto (-16), 3) := by decide +kernel
theorem dX9_layWorlds_43 : decode cX9_layWorlds 43 = .ok (.aload_n 0, 1) := by decide +kernel
theorem dX9_layWorlds_44 : decode cX9_layWorlds 44 = .ok (.iconst 0, 1) := by decide +kernel
theorem dX9_layWorlds_45 : decode cX9_layWorlds 45 = .ok (.putfield 166, 3) := by decide +kernel
theorem dX9_layWorlds_48 : decode cX9_layWorlds 48 = .ok (.iconst 0, 1) := by decide +kernel
theorem dX9_layWorlds_49 : decode cX9_layWorlds 49 = .ok (.istore_n 3, 1) := by decide +kernel
theorem dX9_layWorlds_50 : decode cX9_layWorlds 50 = .ok (.iload_n 3, 1) := by decide +kernel
theorem dX9_layWorlds_51 : decode cX9_layWorlds 51 = .ok (.sipush 640, 3) := by decide +kernel
theorem dX9_layWorlds_54 : decode cX9_layWorlds 54 = .ok (.if_icmp .ge 16, 3) := by decide +kernel
theorem dX9_layWorlds_57 : decode cX9_layWorlds 57 = .ok (.aload_n 0, 1) := by decide +kernel
theorem dX9_layWorlds_58 : decode cX9_layWorlds 58 = .ok (.getfield 53, 3) := by decide +kernel
theorem dX9_layWorlds_61 : decode cX9_layWorlds 61 = .ok (.iload_n 3, 1) := by decide +kernel
theorem dX9_layWorlds_62 : decode cX9_layWorlds 62 = .ok (.iconst 0, 1) := by decide +kernel
theorem dX9_layWorlds_63 : decode cX9_layWorlds 63 = .ok (.iastore, 1) := by decide +kernel
theorem dX9_layWorlds_64 : decode cX9_layWorlds 64 = .ok (.iinc 3 1, 3) := by decide +kernel
theorem dX9_layWorlds_67 : decode cX9_layWorlds 67 = .ok (.goto (-17), 3) := by decide +kernel
theorem dX9_layWorlds_70 : decode cX9_layWorlds 70 = .ok (.iconst 0, 1) := by decide +kernel
theorem dX9_layWorlds_71 : decode cX9_layWorlds 71 = .ok (.istore_n 3, 1) := by decide +kernel
theorem dX9_layWorlds_72 : decode cX9_layWorlds 72 = .ok (.iload_n 3, 1) := by decide +kernel
theorem dX9_layWorlds_73 : decode cX9_layWorlds 73 = .ok (.bipush 6, 2) := by decide +kernel
theorem dX9_layWorlds_75 : decode cX9_layWorlds 75 = .ok (.if_icmp .ge 25, 3) := by decide +kernel
theorem dX9_layWorlds_78 : decode cX9_layWorlds 78 = .ok (.aload_n 0, 1) := by decide +kernel
theorem dX9_layWorlds_79 : decode cX9_layWorlds 79 = .ok (.getfield 47, 3) := by decide +kernel
theorem dX9_layWorlds_82 : decode cX9_layWorlds 82 = .ok (.iload_n 3, 1) := by decide +kernel
theorem dX9_layWorlds_83 : decode cX9_layWorlds 83 = .ok (.ldc 162, 2) := by decide +kernel
theorem dX9_layWorlds_85 : decode cX9_layWorlds 85 = .ok (.iastore, 1) := by decide +kernel
theorem dX9_layWorlds_86 : decode cX9_layWorlds 86 = .ok (.aload_n 0, 1) := by decide +kernel
theorem dX9_layWorlds_87 : decode cX9_layWorlds 87 = .ok (.getfield 50, 3) := by decide +kernel
theorem dX9_layWorlds_90 : decode cX9_layWorlds 90 = .ok (.iload_n 3, 1) := by decide +kernel
theorem dX9_layWorlds_91 : decode cX9_layWorlds 91 = .ok (.bipush (-6), 2) := by decide +kernel
theorem dX9_layWorlds_93 : decode cX9_layWorlds 93 = .ok (.iastore, 1) := by decide +kernel
theorem dX9_layWorlds_94 : decode cX9_layWorlds 94 = .ok (.iinc 3 1, 3) := by decide +kernel
theorem dX9_layWorlds_97 : decode cX9_layWorlds 97 = .ok (.goto (-25), 3) := by decide +kernel
theorem dX9_layWorlds_100 : decode cX9_layWorlds 100 = .ok (.iconst 0, 1) := by decide +kernel
theorem dX9_layWorlds_101 : decode cX9_layWorlds 101 = .ok (.istore_n 3, 1) := by decide +kernel
theorem dX9_layWorlds_102 : decode cX9_layWorlds 102 = .ok (.iload_n 3, 1) := by decide +kernel
theorem dX9_layWorlds_103 : decode cX9_layWorlds 103 = .ok (.iload_n 2, 1) := by decide +kernel
theorem dX9_layWorlds_104 : decode cX9_layWorlds 104 = .ok (.if_icmp .ge 270, 3) := by decide +kernel
theorem dX9_layWorlds_107 : decode cX9_layWorlds 107 = .ok (.iload_n 3, 1) := by decide +kernel
theorem dX9_layWorlds_108 : decode cX9_layWorlds 108 = .ok (.istore 4, 2) := by decide +kernel
theorem dX9_layWorlds_110 : decode cX9_layWorlds 110 = .ok (.iconst 0, 1) := by decide +kernel
theorem dX9_layWorlds_111 : decode cX9_layWorlds 111 = .ok (.istore 5, 2) := by decide +kernel
theorem dX9_layWorlds_113 : decode cX9_layWorlds 113 = .ok (.iload 5, 2) := by decide +kernel
theorem dX9_layWorlds_115 : decode cX9_layWorlds 115 = .ok (.bipush 6, 2) := by decide +kernel
theorem dX9_layWorlds_117 : decode cX9_layWorlds 117 = .ok (.if_icmp .ge 37, 3) := by decide +kernel
theorem dX9_layWorlds_120 : decode cX9_layWorlds 120 = .ok (.iload_n 1, 1) := by decide +kernel
theorem dX9_layWorlds_121 : decode cX9_layWorlds 121 = .ok (.iload 5, 2) := by decide +kernel
theorem dX9_layWorlds_123 : decode cX9_layWorlds 123 = .ok (.invokestatic 76, 3) := by decide +kernel
theorem dX9_layWorlds_126 : decode cX9_layWorlds 126 = .ok (.ifCond .eq 22, 3) := by decide +kernel
theorem dX9_layWorlds_129 : decode cX9_layWorlds 129 = .ok (.aload_n 0, 1) := by decide +kernel
theorem dX9_layWorlds_130 : decode cX9_layWorlds 130 = .ok (.getfield 32, 3) := by decide +kernel
theorem dX9_layWorlds_133 : decode cX9_layWorlds 133 = .ok (.iload 5, 2) := by decide +kernel
theorem dX9_layWorlds_135 : decode cX9_layWorlds 135 = .ok (.iload 4, 2) := by decide +kernel
theorem dX9_layWorlds_137 : decode cX9_layWorlds 137 = .ok (.bipush 6, 2) := by decide +kernel
theorem dX9_layWorlds_139 : decode cX9_layWorlds 139 = .ok (.irem, 1) := by decide +kernel
theorem dX9_layWorlds_140 : decode cX9_layWorlds 140 = .ok (.iastore, 1) := by decide +kernel
theorem dX9_layWorlds_141 : decode cX9_layWorlds 141 = .ok (.iload 4, 2) := by decide +kernel
theorem dX9_layWorlds_143 : decode cX9_layWorlds 143 = .ok (.bipush 6, 2) := by decide +kernel
theorem dX9_layWorlds_145 : decode cX9_layWorlds 145 = .ok (.idiv, 1) := by decide +kernel
theorem dX9_layWorlds_146 : decode cX9_layWorlds 146 = .ok (.istore 4, 2) := by decide +kernel
theorem dX9_layWorlds_148 : decode cX9_layWorlds 148 = .ok (.iinc 5 1, 3) := by decide +kernel
theorem dX9_layWorlds_151 : decode cX9_layWorlds 151 = .ok (.goto (-38), 3) := by decide +kernel
theorem dX9_layWorlds_154 : decode cX9_layWorlds 154 = .ok (.iconst 1, 1) := by decide +kernel
theorem dX9_layWorlds_155 : decode cX9_layWorlds 155 = .ok (.istore 5, 2) := by decide +kernel
theorem dX9_layWorlds_157 : decode cX9_layWorlds 157 = .ok (.iconst 0, 1) := by decide +kernel
theorem dX9_layWorlds_158 : decode cX9_layWorlds 158 = .ok (.istore 6, 2) := by decide +kernel
theorem dX9_layWorlds_160 : decode cX9_layWorlds 160 = .ok (.iload 6, 2) := by decide +kernel
theorem dX9_layWorlds_162 : decode cX9_layWorlds 162 = .ok (.aload_n 0, 1) := by decide +kernel
theorem dX9_layWorlds_163 : decode cX9_layWorlds 163 = .ok (.getfield 163, 3) := by decide +kernel
theorem dX9_layWorlds_166 : decode cX9_layWorlds 166 = .ok (.if_icmp .ge 50, 3) := by decide +kernel
theorem dX9_layWorlds_169 : decode cX9_layWorlds 169 = .ok (.iload 5, 2) := by decide +kernel
theorem dX9_layWorlds_171 : decode cX9_layWorlds 171 = .ok (.ifCond .eq 45, 3) := by decide +kernel
theorem dX9_layWorlds_174 : decode cX9_layWorlds 174 = .ok (.aload_n 0, 1) := by decide +kernel
theorem dX9_layWorlds_175 : decode cX9_layWorlds 175 = .ok (.iconst 0, 1) := by decide +kernel
theorem dX9_layWorlds_176 : decode cX9_layWorlds 176 = .ok (.aload_n 0, 1) := by decide +kernel
theorem dX9_layWorlds_177 : decode cX9_layWorlds 177 = .ok (.getfield 26, 3) := by decide +kernel
theorem dX9_layWorlds_180 : decode cX9_layWorlds 180 = .ok (.iconst 2, 1) := by decide +kernel
theorem dX9_layWorlds_181 : decode cX9_layWorlds 181 = .ok (.iload 6, 2) := by decide +kernel
theorem dX9_layWorlds_183 : decode cX9_layWorlds 183 = .ok (.imul, 1) := by decide +kernel
theorem dX9_layWorlds_184 : decode cX9_layWorlds 184 = .ok (.iaload, 1) := by decide +kernel
theorem dX9_layWorlds_185 : decode cX9_layWorlds 185 = .ok (.iconst 0, 1) := by decide +kernel
theorem dX9_layWorlds_186 : decode cX9_layWorlds 186 = .ok (.invokevirtual 111, 3) := by decide +kernel
theorem dX9_layWorlds_189 : decode cX9_layWorlds 189 = .ok (.aload_n 0, 1) := by decide +kernel
theorem dX9_layWorlds_190 : decode cX9_layWorlds 190 = .ok (.getfield 26, 3) := by decide +kernel
theorem dX9_layWorlds_193 : decode cX9_layWorlds 193 = .ok (.iconst 2, 1) := by decide +kernel
theorem dX9_layWorlds_194 : decode cX9_layWorlds 194 = .ok (.iload 6, 2) := by decide +kernel
theorem dX9_layWorlds_196 : decode cX9_layWorlds 196 = .ok (.imul, 1) := by decide +kernel
theorem dX9_layWorlds_197 : decode cX9_layWorlds 197 = .ok (.iconst 1, 1) := by decide +kernel
theorem dX9_layWorlds_198 : decode cX9_layWorlds 198 = .ok (.iadd, 1) := by decide +kernel
theorem dX9_layWorlds_199 : decode cX9_layWorlds 199 = .ok (.iaload, 1) := by decide +kernel
theorem dX9_layWorlds_200 : decode cX9_layWorlds 200 = .ok (.if_icmp .ne 7, 3) := by decide +kernel
theorem dX9_layWorlds_203 : decode cX9_layWorlds 203 = .ok (.iconst 1, 1) := by decide +kernel
theorem dX9_layWorlds_204 : decode cX9_layWorlds 204 = .ok (.goto 4, 3) := by decide +kernel
theorem dX9_layWorlds_207 : decode cX9_layWorlds 207 = .ok (.iconst 0, 1) := by decide +kernel
theorem dX9_layWorlds_208 : decode cX9_layWorlds 208 = .ok (.istore 5, 2) := by decide +kernel
theorem dX9_layWorlds_210 : decode cX9_layWorlds 210 = .ok (.iinc 6 1, 3) := by decide +kernel
theorem dX9_layWorlds_213 : decode cX9_layWorlds 213 = .ok (.goto (-53), 3) := by decide +kernel
theorem dX9_layWorlds_216 : decode cX9_layWorlds 216 = .ok (.iload 5, 2) := by decide +kernel
theorem dX9_layWorlds_218 : decode cX9_layWorlds 218 = .ok (.ifCond .eq 150, 3) := by decide +kernel
theorem dX9_layWorlds_221 : decode cX9_layWorlds 221 = .ok (.aload_n 0, 1) := by decide +kernel
theorem dX9_layWorlds_222 : decode cX9_layWorlds 222 = .ok (.dup, 1) := by decide +kernel
theorem dX9_layWorlds_223 : decode cX9_layWorlds 223 = .ok (.getfield 166, 3) := by decide +kernel
theorem dX9_layWorlds_226 : decode cX9_layWorlds 226 = .ok (.iconst 1, 1) := by decide +kernel
theorem dX9_layWorlds_227 : decode cX9_layWorlds 227 = .ok (.iadd, 1) := by decide +kernel
theorem dX9_layWorlds_228 : decode cX9_layWorlds 228 = .ok (.putfield 166, 3) := by decide +kernel
theorem dX9_layWorlds_231 : decode cX9_layWorlds 231 = .ok (.iconst 0, 1) := by decide +kernel
theorem dX9_layWorlds_232 : decode cX9_layWorlds 232 = .ok (.istore 6, 2) := by decide +kernel
theorem dX9_layWorlds_234 : decode cX9_layWorlds 234 = .ok (.iload 6, 2) := by decide +kernel
theorem dX9_layWorlds_236 : decode cX9_layWorlds 236 = .ok (.bipush 6, 2) := by decide +kernel
theorem dX9_layWorlds_238 : decode cX9_layWorlds 238 = .ok (.if_icmp .ge 91, 3) := by decide +kernel
theorem dX9_layWorlds_241 : decode cX9_layWorlds 241 = .ok (.aload_n 0, 1) := by decide +kernel
theorem dX9_layWorlds_242 : decode cX9_layWorlds 242 = .ok (.getfield 47, 3) := by decide +kernel
theorem dX9_layWorlds_245 : decode cX9_layWorlds 245 = .ok (.iload 6, 2) := by decide +kernel
theorem dX9_layWorlds_247 : decode cX9_layWorlds 247 = .ok (.aload_n 0, 1) := by decide +kernel
theorem dX9_layWorlds_248 : decode cX9_layWorlds 248 = .ok (.getfield 32, 3) := by decide +kernel
theorem dX9_layWorlds_251 : decode cX9_layWorlds 251 = .ok (.iload 6, 2) := by decide +kernel
theorem dX9_layWorlds_253 : decode cX9_layWorlds 253 = .ok (.iaload, 1) := by decide +kernel
theorem dX9_layWorlds_254 : decode cX9_layWorlds 254 = .ok (.aload_n 0, 1) := by decide +kernel
theorem dX9_layWorlds_255 : decode cX9_layWorlds 255 = .ok (.getfield 47, 3) := by decide +kernel
theorem dX9_layWorlds_258 : decode cX9_layWorlds 258 = .ok (.iload 6, 2) := by decide +kernel
theorem dX9_layWorlds_260 : decode cX9_layWorlds 260 = .ok (.iaload, 1) := by decide +kernel
theorem dX9_layWorlds_261 : decode cX9_layWorlds 261 = .ok (.if_icmp .ge 13, 3) := by decide +kernel
theorem dX9_layWorlds_264 : decode cX9_layWorlds 264 = .ok (.aload_n 0, 1) := by decide +kernel
theorem dX9_layWorlds_265 : decode cX9_layWorlds 265 = .ok (.getfield 32, 3) := by decide +kernel
theorem dX9_layWorlds_268 : decode cX9_layWorlds 268 = .ok (.iload 6, 2) := by decide +kernel
theorem dX9_layWorlds_270 : decode cX9_layWorlds 270 = .ok (.iaload, 1) := by decide +kernel
theorem dX9_layWorlds_271 : decode cX9_layWorlds 271 = .ok (.goto 10, 3) := by decide +kernel
theorem dX9_layWorlds_274 : decode cX9_layWorlds 274 = .ok (.aload_n 0, 1) := by decide +kernel
theorem dX9_layWorlds_275 : decode cX9_layWorlds 275 = .ok (.getfield 47, 3) := by decide +kernel
theorem dX9_layWorlds_278 : decode cX9_layWorlds 278 = .ok (.iload 6, 2) := by decide +kernel
theorem dX9_layWorlds_280 : decode cX9_layWorlds 280 = .ok (.iaload, 1) := by decide +kernel
theorem dX9_layWorlds_281 : decode cX9_layWorlds 281 = .ok (.iastore, 1) := by decide +kernel
theorem dX9_layWorlds_282 : decode cX9_layWorlds 282 = .ok (.aload_n 0, 1) := by decide +kernel
theorem dX9_layWorlds_283 : decode cX9_layWorlds 283 = .ok (.getfield 50, 3) := by decide +kernel
theorem dX9_layWorlds_286 : decode cX9_layWorlds 286 = .ok (.iload 6, 2) := by decide +kernel
theorem dX9_layWorlds_288 : decode cX9_layWorlds 288 = .ok (.aload_n 0, 1) := by decide +kernel
theorem dX9_layWorlds_289 : decode cX9_layWorlds 289 = .ok (.getfield 32, 3) := by decide +kernel
theorem dX9_layWorlds_292 : decode cX9_layWorlds 292 = .ok (.iload 6, 2) := by decide +kernel
theorem dX9_layWorlds_294 : decode cX9_layWorlds 294 = .ok (.iaload, 1) := by decide +kernel
theorem dX9_layWorlds_295 : decode cX9_layWorlds 295 = .ok (.aload_n 0, 1) := by decide +kernel
theorem dX9_layWorlds_296 : decode cX9_layWorlds 296 = .ok (.getfield 50, 3) := by decide +kernel
theorem dX9_layWorlds_299 : decode cX9_layWorlds 299 = .ok (.iload 6, 2) := by decide +kernel
theorem dX9_layWorlds_301 : decode cX9_layWorlds 301 = .ok (.iaload, 1) := by decide +kernel
theorem dX9_layWorlds_302 : decode cX9_layWorlds 302 = .ok (.if_icmp .le 13, 3) := by decide +kernel
theorem dX9_layWorlds_305 : decode cX9_layWorlds 305 = .ok (.aload_n 0, 1) := by decide +kernel
theorem dX9_layWorlds_306 : decode cX9_layWorlds 306 = .ok (.getfield 32, 3) := by decide +kernel
theorem dX9_layWorlds_309 : decode cX9_layWorlds 309 = .ok (.iload 6, 2) := by decide +kernel
theorem dX9_layWorlds_311 : decode cX9_layWorlds 311 = .ok (.iaload, 1) := by decide +kernel
theorem dX9_layWorlds_312 : decode cX9_layWorlds 312 = .ok (.goto 10, 3) := by decide +kernel
theorem dX9_layWorlds_315 : decode cX9_layWorlds 315 = .ok (.aload_n 0, 1) := by decide +kernel
theorem dX9_layWorlds_316 : decode cX9_layWorlds 316 = .ok (.getfield 50, 3) := by decide +kernel
theorem dX9_layWorlds_319 : decode cX9_layWorlds 319 = .ok (.iload 6, 2) := by decide +kernel
theorem dX9_layWorlds_321 : decode cX9_layWorlds 321 = .ok (.iaload, 1) := by decide +kernel
theorem dX9_layWorlds_322 : decode cX9_layWorlds 322 = .ok (.iastore, 1) := by decide +kernel
theorem dX9_layWorlds_323 : decode cX9_layWorlds 323 = .ok (.iinc 6 1, 3) := by decide +kernel
theorem dX9_layWorlds_326 : decode cX9_layWorlds 326 = .ok (.goto (-92), 3) := by decide +kernel
theorem dX9_layWorlds_329 : decode cX9_layWorlds 329 = .ok (.iconst 1, 1) := by decide +kernel
theorem dX9_layWorlds_330 : decode cX9_layWorlds 330 = .ok (.istore 6, 2) := by decide +kernel
theorem dX9_layWorlds_332 : decode cX9_layWorlds 332 = .ok (.iload 6, 2) := by decide +kernel
theorem dX9_layWorlds_334 : decode cX9_layWorlds 334 = .ok (.bipush 10, 2) := by decide +kernel
theorem dX9_layWorlds_336 : decode cX9_layWorlds 336 = .ok (.if_icmp .ge 32, 3) := by decide +kernel
theorem dX9_layWorlds_339 : decode cX9_layWorlds 339 = .ok (.aload_n 0, 1) := by decide +kernel
theorem dX9_layWorlds_340 : decode cX9_layWorlds 340 = .ok (.getfield 53, 3) := by decide +kernel
theorem dX9_layWorlds_343 : decode cX9_layWorlds 343 = .ok (.bipush 64, 2) := by decide +kernel
theorem dX9_layWorlds_345 : decode cX9_layWorlds 345 = .ok (.iload 6, 2) := by decide +kernel
theorem dX9_layWorlds_347 : decode cX9_layWorlds 347 = .ok (.imul, 1) := by decide +kernel
theorem dX9_layWorlds_348 : decode cX9_layWorlds 348 = .ok (.aload_n 0, 1) := by decide +kernel
theorem dX9_layWorlds_349 : decode cX9_layWorlds 349 = .ok (.iconst 0, 1) := by decide +kernel
theorem dX9_layWorlds_350 : decode cX9_layWorlds 350 = .ok (.iload 6, 2) := by decide +kernel
theorem dX9_layWorlds_352 : decode cX9_layWorlds 352 = .ok (.iconst 0, 1) := by decide +kernel
theorem dX9_layWorlds_353 : decode cX9_layWorlds 353 = .ok (.invokevirtual 111, 3) := by decide +kernel
theorem dX9_layWorlds_356 : decode cX9_layWorlds 356 = .ok (.iadd, 1) := by decide +kernel
theorem dX9_layWorlds_357 : decode cX9_layWorlds 357 = .ok (.dup2, 1) := by decide +kernel
theorem dX9_layWorlds_358 : decode cX9_layWorlds 358 = .ok (.iaload, 1) := by decide +kernel
theorem dX9_layWorlds_359 : decode cX9_layWorlds 359 = .ok (.iconst 1, 1) := by decide +kernel
theorem dX9_layWorlds_360 : decode cX9_layWorlds 360 = .ok (.iadd, 1) := by decide +kernel
theorem dX9_layWorlds_361 : decode cX9_layWorlds 361 = .ok (.iastore, 1) := by decide +kernel
theorem dX9_layWorlds_362 : decode cX9_layWorlds 362 = .ok (.iinc 6 1, 3) := by decide +kernel
theorem dX9_layWorlds_365 : decode cX9_layWorlds 365 = .ok (.goto (-33), 3) := by decide +kernel
theorem dX9_layWorlds_368 : decode cX9_layWorlds 368 = .ok (.iinc 3 1, 3) := by decide +kernel
theorem dX9_layWorlds_371 : decode cX9_layWorlds 371 = .ok (.goto (-269), 3) := by decide +kernel
theorem dX9_layWorlds_374 : decode cX9_layWorlds 374 = .ok (.iconst 1, 1) := by decide +kernel
theorem dX9_layWorlds_375 : decode cX9_layWorlds 375 = .ok (.ireturn, 1) := by decide +kernel
set_option maxRecDepth 20000 in
theorem ggX9_worlds_X9_isThere : GoodIn wsX9_worlds wsX9_isThere := goodIn_r _ [9, 10, 11, 12, 8, 13, 14, 15, 16, 64, 65, 66, 67, 68, 69, 70, 71, 72, 73, 74, 75, 76, 77, 78, 79, 80, 81, 82, 83, 84, 85, 86, 87, 88, 89, 90] (by decide +kernel) (by decide +kernel)
set_option maxRecDepth 20000 in
theorem gX9_worlds_X9_isThere : GoodIn wsX9_worlds (wsV RX9 84 RX9 yX9_isThere wsX9_isThere) := goodIn_app (goodIn_of _ (by decide +kernel)) ggX9_worlds_X9_isThere
set_option maxRecDepth 20000 in
theorem ggX9_worlds_X9_in : GoodIn wsX9_worlds wsX9_in := goodIn_r _ [13] (by decide +kernel) (by decide +kernel)
set_option maxRecDepth 20000 in
theorem gX9_worlds_X9_in : GoodIn wsX9_worlds (va_wsS RX9 72 yX9_in wsX9_in) := goodIn_app (goodIn_of _ (by decide +kernel)) ggX9_worlds_X9_in
set_option maxRecDepth 20000 in
theorem ggX9_worlds_X9_layWorlds : GoodIn wsX9_worlds wsX9_layWorlds := goodIn_r _ [20, 2, 21, 3, 22, 4, 23, 24, 25, 26, 27, 28, 8, 29, 30, 31, 32, 33, 1, 34, 35, 36, 37, 38, 39, 40, 41, 42, 43, 10, 14, 15, 16, 44, 45, 46, 47, 48, 49, 50, 51, 52, 53, 54, 55, 56, 57, 58, 59, 60, 61, 62, 63, 64, 65, 66, 67, 68, 69, 70, 71, 72, 73, 74, 75, 76, 77, 78, 79, 80, 81, 82, 83, 84, 85, 86, 87, 88, 89, 90] (by decide +kernel) (by decide +kernel)
set_option maxRecDepth 20000 in
theorem gX9_worlds_X9_layWorlds : GoodIn wsX9_worlds (wsV RX9 169 RX9 yX9_layWorlds wsX9_layWorlds) := goodIn_app (goodIn_of _ (by decide +kernel)) ggX9_worlds_X9_layWorlds
theorem dX9_worlds_0 : decode cX9_worlds 0 = .ok (.iload_n 1, 1) := by decide +kernel
theorem dX9_worlds_1 : decode cX9_worlds 1 = .ok (.iconst (-1), 1) := by decide +kernel
theorem dX9_worlds_2 : decode cX9_worlds 2 = .ok (.if_icmp .eq 22, 3) := by decide +kernel
theorem dX9_worlds_5 : decode cX9_worlds 5 = .ok (.aload_n 0, 1) := by decide +kernel
theorem dX9_worlds_6 : decode cX9_worlds 6 = .ok (.iload_n 1, 1) := by decide +kernel
theorem dX9_worlds_7 : decode cX9_worlds 7 = .ok (.invokevirtual 84, 3) := by decide +kernel
theorem dX9_worlds_10 : decode cX9_worlds 10 = .ok (.ifCond .eq 12, 3) := by decide +kernel
theorem dX9_worlds_13 : decode cX9_worlds 13 = .ok (.aload_n 0, 1) := by decide +kernel
theorem dX9_worlds_14 : decode cX9_worlds 14 = .ok (.getfield 16, 3) := by decide +kernel
theorem dX9_worlds_17 : decode cX9_worlds 17 = .ok (.iload_n 1, 1) := by decide +kernel
theorem dX9_worlds_18 : decode cX9_worlds 18 = .ok (.iaload, 1) := by decide +kernel
theorem dX9_worlds_19 : decode cX9_worlds 19 = .ok (.ifCond .eq 5, 3) := by decide +kernel
theorem dX9_worlds_22 : decode cX9_worlds 22 = .ok (.iconst (-1), 1) := by decide +kernel
theorem dX9_worlds_23 : decode cX9_worlds 23 = .ok (.ireturn, 1) := by decide +kernel
theorem dX9_worlds_24 : decode cX9_worlds 24 = .ok (.iload_n 2, 1) := by decide +kernel
theorem dX9_worlds_25 : decode cX9_worlds 25 = .ok (.iconst 0, 1) := by decide +kernel
theorem dX9_worlds_26 : decode cX9_worlds 26 = .ok (.iconst 1, 1) := by decide +kernel
theorem dX9_worlds_27 : decode cX9_worlds 27 = .ok (.invokestatic 72, 3) := by decide +kernel
theorem dX9_worlds_30 : decode cX9_worlds 30 = .ok (.ifCond .ne 6, 3) := by decide +kernel
theorem dX9_worlds_33 : decode cX9_worlds 33 = .ok (.bipush (-2), 2) := by decide +kernel
theorem dX9_worlds_35 : decode cX9_worlds 35 = .ok (.ireturn, 1) := by decide +kernel
theorem dX9_worlds_36 : decode cX9_worlds 36 = .ok (.aload_n 0, 1) := by decide +kernel
theorem dX9_worlds_37 : decode cX9_worlds 37 = .ok (.invokevirtual 169, 3) := by decide +kernel
theorem dX9_worlds_40 : decode cX9_worlds 40 = .ok (.ifCond .ne 6, 3) := by decide +kernel
theorem dX9_worlds_43 : decode cX9_worlds 43 = .ok (.bipush (-4), 2) := by decide +kernel
theorem dX9_worlds_45 : decode cX9_worlds 45 = .ok (.ireturn, 1) := by decide +kernel
theorem dX9_worlds_46 : decode cX9_worlds 46 = .ok (.iload_n 1, 1) := by decide +kernel
theorem dX9_worlds_47 : decode cX9_worlds 47 = .ok (.ifCond .ge 8, 3) := by decide +kernel
theorem dX9_worlds_50 : decode cX9_worlds 50 = .ok (.aload_n 0, 1) := by decide +kernel
theorem dX9_worlds_51 : decode cX9_worlds 51 = .ok (.getfield 166, 3) := by decide +kernel
theorem dX9_worlds_54 : decode cX9_worlds 54 = .ok (.ireturn, 1) := by decide +kernel
theorem dX9_worlds_55 : decode cX9_worlds 55 = .ok (.aload_n 0, 1) := by decide +kernel
theorem dX9_worlds_56 : decode cX9_worlds 56 = .ok (.getfield 166, 3) := by decide +kernel
theorem dX9_worlds_59 : decode cX9_worlds 59 = .ok (.ifCond .ne 8, 3) := by decide +kernel
theorem dX9_worlds_62 : decode cX9_worlds 62 = .ok (.bipush (-6), 2) := by decide +kernel
theorem dX9_worlds_64 : decode cX9_worlds 64 = .ok (.goto 22, 3) := by decide +kernel
theorem dX9_worlds_67 : decode cX9_worlds 67 = .ok (.iload_n 2, 1) := by decide +kernel
theorem dX9_worlds_68 : decode cX9_worlds 68 = .ok (.ifCond .ne 12, 3) := by decide +kernel
theorem dX9_worlds_71 : decode cX9_worlds 71 = .ok (.aload_n 0, 1) := by decide +kernel
theorem dX9_worlds_72 : decode cX9_worlds 72 = .ok (.getfield 47, 3) := by decide +kernel
theorem dX9_worlds_75 : decode cX9_worlds 75 = .ok (.iload_n 1, 1) := by decide +kernel
theorem dX9_worlds_76 : decode cX9_worlds 76 = .ok (.iaload, 1) := by decide +kernel
theorem dX9_worlds_77 : decode cX9_worlds 77 = .ok (.goto 9, 3) := by decide +kernel
theorem dX9_worlds_80 : decode cX9_worlds 80 = .ok (.aload_n 0, 1) := by decide +kernel
theorem dX9_worlds_81 : decode cX9_worlds 81 = .ok (.getfield 50, 3) := by decide +kernel
theorem dX9_worlds_84 : decode cX9_worlds 84 = .ok (.iload_n 1, 1) := by decide +kernel
theorem dX9_worlds_85 : decode cX9_worlds 85 = .ok (.iaload, 1) := by decide +kernel
theorem dX9_worlds_86 : decode cX9_worlds 86 = .ok (.ireturn, 1) := by decide +kernel
set_option maxRecDepth 20000 in
theorem ggX9_tells_X9_in : GoodIn wsX9_tells wsX9_in := goodIn_r _ [7] (by decide +kernel) (by decide +kernel)
set_option maxRecDepth 20000 in
theorem gX9_tells_X9_in : GoodIn wsX9_tells (va_wsS RX9 72 yX9_in wsX9_in) := goodIn_app (goodIn_of _ (by decide +kernel)) ggX9_tells_X9_in
set_option maxRecDepth 20000 in
theorem ggX9_tells_X9_layWorlds : GoodIn wsX9_tells wsX9_layWorlds := goodIn_r _ [11, 2, 3, 12, 1, 13, 14, 15, 16, 17, 18, 19, 6, 20, 21, 22, 23, 24, 25, 26, 27, 28, 29, 30, 31, 32, 33, 34, 35, 36, 37, 38, 39, 40, 41, 42, 43, 44, 45, 46, 47, 48, 49, 50, 51, 52, 53, 54, 55, 56, 57, 58, 59, 60, 61, 62, 63, 64, 65, 66, 67, 68, 69, 70, 71, 72, 73, 74, 75, 76, 77, 78, 79, 80, 81, 82, 83, 84, 85, 86] (by decide +kernel) (by decide +kernel)
set_option maxRecDepth 20000 in
theorem gX9_tells_X9_layWorlds : GoodIn wsX9_tells (wsV RX9 169 RX9 yX9_layWorlds wsX9_layWorlds) := goodIn_app (goodIn_of _ (by decide +kernel)) ggX9_tells_X9_layWorlds
theorem dX9_tells_0 : decode cX9_tells 0 = .ok (.iload_n 1, 1) := by decide +kernel
theorem dX9_tells_1 : decode cX9_tells 1 = .ok (.iconst 0, 1) := by decide +kernel
theorem dX9_tells_2 : decode cX9_tells 2 = .ok (.iconst 1, 1) := by decide +kernel
theorem dX9_tells_3 : decode cX9_tells 3 = .ok (.invokestatic 72, 3) := by decide +kernel
theorem dX9_tells_6 : decode cX9_tells 6 = .ok (.ifCond .ne 6, 3) := by decide +kernel
theorem dX9_tells_9 : decode cX9_tells 9 = .ok (.bipush (-2), 2) := by decide +kernel
theorem dX9_tells_11 : decode cX9_tells 11 = .ok (.ireturn, 1) := by decide +kernel
theorem dX9_tells_12 : decode cX9_tells 12 = .ok (.aload_n 0, 1) := by decide +kernel
theorem dX9_tells_13 : decode cX9_tells 13 = .ok (.invokevirtual 169, 3) := by decide +kernel
theorem dX9_tells_16 : decode cX9_tells 16 = .ok (.ifCond .ne 6, 3) := by decide +kernel
theorem dX9_tells_19 : decode cX9_tells 19 = .ok (.bipush (-4), 2) := by decide +kernel
theorem dX9_tells_21 : decode cX9_tells 21 = .ok (.ireturn, 1) := by decide +kernel
theorem dX9_tells_22 : decode cX9_tells 22 = .ok (.ldc 162, 2) := by decide +kernel
theorem dX9_tells_24 : decode cX9_tells 24 = .ok (.istore_n 2, 1) := by decide +kernel
theorem dX9_tells_25 : decode cX9_tells 25 = .ok (.bipush (-6), 2) := by decide +kernel
theorem dX9_tells_27 : decode cX9_tells 27 = .ok (.istore_n 3, 1) := by decide +kernel
theorem dX9_tells_28 : decode cX9_tells 28 = .ok (.iconst 1, 1) := by decide +kernel
theorem dX9_tells_29 : decode cX9_tells 29 = .ok (.istore 4, 2) := by decide +kernel
theorem dX9_tells_31 : decode cX9_tells 31 = .ok (.iload 4, 2) := by decide +kernel
theorem dX9_tells_33 : decode cX9_tells 33 = .ok (.bipush 10, 2) := by decide +kernel
theorem dX9_tells_35 : decode cX9_tells 35 = .ok (.if_icmp .ge 99, 3) := by decide +kernel
theorem dX9_tells_38 : decode cX9_tells 38 = .ok (.aload_n 0, 1) := by decide +kernel
theorem dX9_tells_39 : decode cX9_tells 39 = .ok (.getfield 166, 3) := by decide +kernel
theorem dX9_tells_42 : decode cX9_tells 42 = .ok (.ifCond .le 92, 3) := by decide +kernel
theorem dX9_tells_45 : decode cX9_tells 45 = .ok (.iconst 0, 1) := by decide +kernel
theorem dX9_tells_46 : decode cX9_tells 46 = .ok (.istore 5, 2) := by decide +kernel
theorem dX9_tells_48 : decode cX9_tells 48 = .ok (.iconst 0, 1) := by decide +kernel
theorem dX9_tells_49 : decode cX9_tells 49 = .ok (.istore 6, 2) := by decide +kernel
theorem dX9_tells_51 : decode cX9_tells 51 = .ok (.iload 6, 2) := by decide +kernel
theorem dX9_tells_53 : decode cX9_tells 53 = .ok (.bipush 64, 2) := by decide +kernel
theorem dX9_tells_55 : decode cX9_tells 55 = .ok (.if_icmp .ge 47, 3) := by decide +kernel
theorem dX9_tells_58 : decode cX9_tells 58 = .ok (.aload_n 0, 1) := by decide +kernel
theorem dX9_tells_59 : decode cX9_tells 59 = .ok (.getfield 53, 3) := by decide +kernel
theorem dX9_tells_62 : decode cX9_tells 62 = .ok (.bipush 64, 2) := by decide +kernel
theorem dX9_tells_64 : decode cX9_tells 64 = .ok (.iload 4, 2) := by decide +kernel
theorem dX9_tells_66 : decode cX9_tells 66 = .ok (.imul, 1) := by decide +kernel
theorem dX9_tells_67 : decode cX9_tells 67 = .ok (.iload 6, 2) := by decide +kernel
theorem dX9_tells_69 : decode cX9_tells 69 = .ok (.iadd, 1) := by decide +kernel
theorem dX9_tells_70 : decode cX9_tells 70 = .ok (.iaload, 1) := by decide +kernel
theorem dX9_tells_71 : decode cX9_tells 71 = .ok (.iload 5, 2) := by decide +kernel
theorem dX9_tells_73 : decode cX9_tells 73 = .ok (.if_icmp .le 19, 3) := by decide +kernel
theorem dX9_tells_76 : decode cX9_tells 76 = .ok (.aload_n 0, 1) := by decide +kernel
theorem dX9_tells_77 : decode cX9_tells 77 = .ok (.getfield 53, 3) := by decide +kernel
theorem dX9_tells_80 : decode cX9_tells 80 = .ok (.bipush 64, 2) := by decide +kernel
theorem dX9_tells_82 : decode cX9_tells 82 = .ok (.iload 4, 2) := by decide +kernel
theorem dX9_tells_84 : decode cX9_tells 84 = .ok (.imul, 1) := by decide +kernel
theorem dX9_tells_85 : decode cX9_tells 85 = .ok (.iload 6, 2) := by decide +kernel
theorem dX9_tells_87 : decode cX9_tells 87 = .ok (.iadd, 1) := by decide +kernel
theorem dX9_tells_88 : decode cX9_tells 88 = .ok (.iaload, 1) := by decide +kernel
theorem dX9_tells_89 : decode cX9_tells 89 = .ok (.goto 5, 3) := by decide +kernel
theorem dX9_tells_92 : decode cX9_tells 92 = .ok (.iload 5, 2) := by decide +kernel
theorem dX9_tells_94 : decode cX9_tells 94 = .ok (.istore 5, 2) := by decide +kernel
theorem dX9_tells_96 : decode cX9_tells 96 = .ok (.iinc 6 1, 3) := by decide +kernel
theorem dX9_tells_99 : decode cX9_tells 99 = .ok (.goto (-48), 3) := by decide +kernel
theorem dX9_tells_102 : decode cX9_tells 102 = .ok (.iload 5, 2) := by decide +kernel
theorem dX9_tells_104 : decode cX9_tells 104 = .ok (.iload_n 2, 1) := by decide +kernel
theorem dX9_tells_105 : decode cX9_tells 105 = .ok (.if_icmp .ge 8, 3) := by decide +kernel
theorem dX9_tells_108 : decode cX9_tells 108 = .ok (.iload 4, 2) := by decide +kernel
theorem dX9_tells_110 : decode cX9_tells 110 = .ok (.goto 4, 3) := by decide +kernel
theorem dX9_tells_113 : decode cX9_tells 113 = .ok (.iload_n 3, 1) := by decide +kernel
theorem dX9_tells_114 : decode cX9_tells 114 = .ok (.istore_n 3, 1) := by decide +kernel
theorem dX9_tells_115 : decode cX9_tells 115 = .ok (.iload 5, 2) := by decide +kernel
theorem dX9_tells_117 : decode cX9_tells 117 = .ok (.iload_n 2, 1) := by decide +kernel
theorem dX9_tells_118 : decode cX9_tells 118 = .ok (.if_icmp .ge 8, 3) := by decide +kernel
theorem dX9_tells_121 : decode cX9_tells 121 = .ok (.iload 5, 2) := by decide +kernel
theorem dX9_tells_123 : decode cX9_tells 123 = .ok (.goto 4, 3) := by decide +kernel
theorem dX9_tells_126 : decode cX9_tells 126 = .ok (.iload_n 2, 1) := by decide +kernel
theorem dX9_tells_127 : decode cX9_tells 127 = .ok (.istore_n 2, 1) := by decide +kernel
theorem dX9_tells_128 : decode cX9_tells 128 = .ok (.iinc 4 1, 3) := by decide +kernel
theorem dX9_tells_131 : decode cX9_tells 131 = .ok (.goto (-100), 3) := by decide +kernel
theorem dX9_tells_134 : decode cX9_tells 134 = .ok (.iload_n 3, 1) := by decide +kernel
theorem dX9_tells_135 : decode cX9_tells 135 = .ok (.ifCond .lt 7, 3) := by decide +kernel
theorem dX9_tells_138 : decode cX9_tells 138 = .ok (.iload_n 1, 1) := by decide +kernel
theorem dX9_tells_139 : decode cX9_tells 139 = .ok (.ifCond .ne 7, 3) := by decide +kernel
theorem dX9_tells_142 : decode cX9_tells 142 = .ok (.iload_n 3, 1) := by decide +kernel
theorem dX9_tells_143 : decode cX9_tells 143 = .ok (.goto 4, 3) := by decide +kernel
theorem dX9_tells_146 : decode cX9_tells 146 = .ok (.iload_n 2, 1) := by decide +kernel
theorem dX9_tells_147 : decode cX9_tells 147 = .ok (.ireturn, 1) := by decide +kernel
theorem dX9_digit_0 : decode cX9_digit 0 = .ok (.iload_n 0, 1) := by decide +kernel
theorem dX9_digit_1 : decode cX9_digit 1 = .ok (.istore_n 2, 1) := by decide +kernel
theorem dX9_digit_2 : decode cX9_digit 2 = .ok (.iload_n 1, 1) := by decide +kernel
theorem dX9_digit_3 : decode cX9_digit 3 = .ok (.istore_n 3, 1) := by decide +kernel
theorem dX9_digit_4 : decode cX9_digit 4 = .ok (.iload_n 3, 1) := by decide +kernel
theorem dX9_digit_5 : decode cX9_digit 5 = .ok (.iconst 5, 1) := by decide +kernel
theorem dX9_digit_6 : decode cX9_digit 6 = .ok (.if_icmp .ge 14, 3) := by decide +kernel
theorem dX9_digit_9 : decode cX9_digit 9 = .ok (.iload_n 2, 1) := by decide +kernel
theorem dX9_digit_10 : decode cX9_digit 10 = .ok (.bipush 10, 2) := by decide +kernel
theorem dX9_digit_12 : decode cX9_digit 12 = .ok (.idiv, 1) := by decide +kernel
theorem dX9_digit_13 : decode cX9_digit 13 = .ok (.istore_n 2, 1) := by decide +kernel
theorem dX9_digit_14 : decode cX9_digit 14 = .ok (.iinc 3 1, 3) := by decide +kernel
theorem dX9_digit_17 : decode cX9_digit 17 = .ok (.goto (-13), 3) := by decide +kernel
theorem dX9_digit_20 : decode cX9_digit 20 = .ok (.iload_n 2, 1) := by decide +kernel
theorem dX9_digit_21 : decode cX9_digit 21 = .ok (.bipush 10, 2) := by decide +kernel
theorem dX9_digit_23 : decode cX9_digit 23 = .ok (.irem, 1) := by decide +kernel
theorem dX9_digit_24 : decode cX9_digit 24 = .ok (.ireturn, 1) := by decide +kernel
set_option maxRecDepth 20000 in
theorem ggX9_byPlace_X9_turn : GoodIn wsX9_byPlace wsX9_turn := goodIn_r _ [6, 1, 7, 8, 9, 5, 10, 11, 24, 25, 26, 27, 28, 29, 30, 31, 32, 33, 34, 35, 36, 37, 38, 39, 40, 41, 42, 43, 44, 45, 46, 47, 48, 49, 50] (by decide +kernel) (by decide +kernel)
set_option maxRecDepth 20000 in
theorem gX9_byPlace_X9_turn : GoodIn wsX9_byPlace (wsV RX9 107 RX9 yX9_turn wsX9_turn) := goodIn_app (goodIn_of _ (by decide +kernel)) ggX9_byPlace_X9_turn
set_option maxRecDepth 20000 in
theorem ggX9_byPlace_X9_isIn : GoodIn wsX9_byPlace wsX9_isIn := goodIn_r _ [15, 16, 17, 18, 19, 5, 20, 24, 25, 26, 27, 28, 29, 30, 31, 32, 33, 34, 35, 36, 37, 38, 39, 40, 41, 42, 43, 44, 45, 46, 47, 48, 49, 50] (by decide +kernel) (by decide +kernel)
set_option maxRecDepth 20000 in
theorem gX9_byPlace_X9_isIn : GoodIn wsX9_byPlace (wsV RX9 98 RX9 yX9_isIn wsX9_isIn) := goodIn_app (goodIn_of _ (by decide +kernel)) ggX9_byPlace_X9_isIn
set_option maxRecDepth 20000 in
theorem ggX9_byPlace_X9_digit : GoodIn wsX9_byPlace wsX9_digit := goodIn_r _ [23] (by decide +kernel) (by decide +kernel)
set_option maxRecDepth 20000 in
theorem gX9_byPlace_X9_digit : GoodIn wsX9_byPlace (va_wsS RX9 173 yX9_digit wsX9_digit) := goodIn_app (goodIn_of _ (by decide +kernel)) ggX9_byPlace_X9_digit
theorem dX9_byPlace_0 : decode cX9_byPlace 0 = .ok (.iconst 0, 1) := by decide +kernel
theorem dX9_byPlace_1 : decode cX9_byPlace 1 = .ok (.istore_n 3, 1) := by decide +kernel
theorem dX9_byPlace_2 : decode cX9_byPlace 2 = .ok (.iconst 0, 1) := by decide +kernel
theorem dX9_byPlace_3 : decode cX9_byPlace 3 = .ok (.istore 4, 2) := by decide +kernel
theorem dX9_byPlace_5 : decode cX9_byPlace 5 = .ok (.iload 4, 2) := by decide +kernel
theorem dX9_byPlace_7 : decode cX9_byPlace 7 = .ok (.bipush 6, 2) := by decide +kernel
theorem dX9_byPlace_9 : decode cX9_byPlace 9 = .ok (.if_icmp .ge 93, 3) := by decide +kernel
theorem dX9_byPlace_12 : decode cX9_byPlace 12 = .ok (.aload_n 0, 1) := by decide +kernel
theorem dX9_byPlace_13 : decode cX9_byPlace 13 = .ok (.iload 4, 2) := by decide +kernel
theorem dX9_byPlace_15 : decode cX9_byPlace 15 = .ok (.iconst 0, 1) := by decide +kernel
theorem dX9_byPlace_16 : decode cX9_byPlace 16 = .ok (.invokevirtual 107, 3) := by decide +kernel
theorem dX9_byPlace_19 : decode cX9_byPlace 19 = .ok (.aload_n 0, 1) := by decide +kernel
theorem dX9_byPlace_20 : decode cX9_byPlace 20 = .ok (.iload_n 1, 1) := by decide +kernel
theorem dX9_byPlace_21 : decode cX9_byPlace 21 = .ok (.iconst 0, 1) := by decide +kernel
theorem dX9_byPlace_22 : decode cX9_byPlace 22 = .ok (.invokevirtual 107, 3) := by decide +kernel
theorem dX9_byPlace_25 : decode cX9_byPlace 25 = .ok (.if_icmp .lt 25, 3) := by decide +kernel
theorem dX9_byPlace_28 : decode cX9_byPlace 28 = .ok (.aload_n 0, 1) := by decide +kernel
theorem dX9_byPlace_29 : decode cX9_byPlace 29 = .ok (.iload 4, 2) := by decide +kernel
theorem dX9_byPlace_31 : decode cX9_byPlace 31 = .ok (.iconst 0, 1) := by decide +kernel
theorem dX9_byPlace_32 : decode cX9_byPlace 32 = .ok (.invokevirtual 107, 3) := by decide +kernel
theorem dX9_byPlace_35 : decode cX9_byPlace 35 = .ok (.aload_n 0, 1) := by decide +kernel
theorem dX9_byPlace_36 : decode cX9_byPlace 36 = .ok (.iload_n 1, 1) := by decide +kernel
theorem dX9_byPlace_37 : decode cX9_byPlace 37 = .ok (.iconst 0, 1) := by decide +kernel
theorem dX9_byPlace_38 : decode cX9_byPlace 38 = .ok (.invokevirtual 107, 3) := by decide +kernel
theorem dX9_byPlace_41 : decode cX9_byPlace 41 = .ok (.if_icmp .ne 13, 3) := by decide +kernel
theorem dX9_byPlace_44 : decode cX9_byPlace 44 = .ok (.iload 4, 2) := by decide +kernel
theorem dX9_byPlace_46 : decode cX9_byPlace 46 = .ok (.iload_n 1, 1) := by decide +kernel
theorem dX9_byPlace_47 : decode cX9_byPlace 47 = .ok (.if_icmp .ge 7, 3) := by decide +kernel
theorem dX9_byPlace_50 : decode cX9_byPlace 50 = .ok (.iconst 1, 1) := by decide +kernel
theorem dX9_byPlace_51 : decode cX9_byPlace 51 = .ok (.goto 4, 3) := by decide +kernel
theorem dX9_byPlace_54 : decode cX9_byPlace 54 = .ok (.iconst 0, 1) := by decide +kernel
theorem dX9_byPlace_55 : decode cX9_byPlace 55 = .ok (.istore 5, 2) := by decide +kernel
theorem dX9_byPlace_57 : decode cX9_byPlace 57 = .ok (.iload_n 3, 1) := by decide +kernel
theorem dX9_byPlace_58 : decode cX9_byPlace 58 = .ok (.aload_n 0, 1) := by decide +kernel
theorem dX9_byPlace_59 : decode cX9_byPlace 59 = .ok (.iload 4, 2) := by decide +kernel
theorem dX9_byPlace_61 : decode cX9_byPlace 61 = .ok (.iconst 0, 1) := by decide +kernel
theorem dX9_byPlace_62 : decode cX9_byPlace 62 = .ok (.invokevirtual 98, 3) := by decide +kernel
theorem dX9_byPlace_65 : decode cX9_byPlace 65 = .ok (.ifCond .eq 28, 3) := by decide +kernel
theorem dX9_byPlace_68 : decode cX9_byPlace 68 = .ok (.aload_n 0, 1) := by decide +kernel
theorem dX9_byPlace_69 : decode cX9_byPlace 69 = .ok (.getfield 32, 3) := by decide +kernel
theorem dX9_byPlace_72 : decode cX9_byPlace 72 = .ok (.iload 4, 2) := by decide +kernel
theorem dX9_byPlace_74 : decode cX9_byPlace 74 = .ok (.iaload, 1) := by decide +kernel
theorem dX9_byPlace_75 : decode cX9_byPlace 75 = .ok (.ifCond .le 18, 3) := by decide +kernel
theorem dX9_byPlace_78 : decode cX9_byPlace 78 = .ok (.iload 4, 2) := by decide +kernel
theorem dX9_byPlace_80 : decode cX9_byPlace 80 = .ok (.iload_n 1, 1) := by decide +kernel
theorem dX9_byPlace_81 : decode cX9_byPlace 81 = .ok (.if_icmp .eq 12, 3) := by decide +kernel
theorem dX9_byPlace_84 : decode cX9_byPlace 84 = .ok (.iload 5, 2) := by decide +kernel
theorem dX9_byPlace_86 : decode cX9_byPlace 86 = .ok (.ifCond .eq 7, 3) := by decide +kernel
theorem dX9_byPlace_89 : decode cX9_byPlace 89 = .ok (.iconst 1, 1) := by decide +kernel
theorem dX9_byPlace_90 : decode cX9_byPlace 90 = .ok (.goto 4, 3) := by decide +kernel
theorem dX9_byPlace_93 : decode cX9_byPlace 93 = .ok (.iconst 0, 1) := by decide +kernel
theorem dX9_byPlace_94 : decode cX9_byPlace 94 = .ok (.iadd, 1) := by decide +kernel
theorem dX9_byPlace_95 : decode cX9_byPlace 95 = .ok (.istore_n 3, 1) := by decide +kernel
theorem dX9_byPlace_96 : decode cX9_byPlace 96 = .ok (.iinc 4 1, 3) := by decide +kernel
theorem dX9_byPlace_99 : decode cX9_byPlace 99 = .ok (.goto (-94), 3) := by decide +kernel
theorem dX9_byPlace_102 : decode cX9_byPlace 102 = .ok (.iload_n 2, 1) := by decide +kernel
theorem dX9_byPlace_103 : decode cX9_byPlace 103 = .ok (.iload_n 3, 1) := by decide +kernel
theorem dX9_byPlace_104 : decode cX9_byPlace 104 = .ok (.invokestatic 173, 3) := by decide +kernel
theorem dX9_byPlace_107 : decode cX9_byPlace 107 = .ok (.ireturn, 1) := by decide +kernel
set_option maxRecDepth 20000 in
theorem ggX9_portions_X9_in : GoodIn wsX9_portions wsX9_in := goodIn_r _ [7] (by decide +kernel) (by decide +kernel)
set_option maxRecDepth 20000 in
theorem gX9_portions_X9_in : GoodIn wsX9_portions (va_wsS RX9 72 yX9_in wsX9_in) := goodIn_app (goodIn_of _ (by decide +kernel)) ggX9_portions_X9_in
set_option maxRecDepth 20000 in
theorem ggX9_portions_X9_asNow : GoodIn wsX9_portions wsX9_asNow := goodIn_r _ [11, 3, 12, 2, 13, 14, 15, 16, 17, 41, 42, 43, 44, 45, 46, 47, 48, 49, 50, 51, 52, 53, 54, 55, 56, 57, 58, 59, 60, 61, 62, 63, 64, 65, 66, 67] (by decide +kernel) (by decide +kernel)
set_option maxRecDepth 20000 in
theorem gX9_portions_X9_asNow : GoodIn wsX9_portions (wsV RX9 122 RX9 yX9_asNow wsX9_asNow) := goodIn_app (goodIn_of _ (by decide +kernel)) ggX9_portions_X9_asNow
set_option maxRecDepth 20000 in
theorem ggX9_portions_X9_isIn : GoodIn wsX9_portions wsX9_isIn := goodIn_r _ [21, 22, 14, 23, 24, 6, 25, 41, 42, 43, 44, 45, 46, 47, 48, 49, 50, 51, 52, 53, 54, 55, 56, 57, 58, 59, 60, 61, 62, 63, 64, 65, 66, 67] (by decide +kernel) (by decide +kernel)
set_option maxRecDepth 20000 in
theorem gX9_portions_X9_isIn : GoodIn wsX9_portions (wsV RX9 98 RX9 yX9_isIn wsX9_isIn) := goodIn_app (goodIn_of _ (by decide +kernel)) ggX9_portions_X9_isIn
set_option maxRecDepth 20000 in
theorem ggX9_portions_X9_byPlace : GoodIn wsX9_portions wsX9_byPlace := goodIn_r _ [29, 3, 30, 31, 32, 6, 33, 34, 35, 36, 37, 2, 18, 19, 20, 21, 22, 14, 23, 24, 25, 38, 39, 40, 41, 42, 43, 44, 45, 46, 47, 48, 49, 50, 51, 52, 53, 54, 55, 56, 57, 58, 59, 60, 61, 62, 63, 64, 65, 66, 67] (by decide +kernel) (by decide +kernel)
set_option maxRecDepth 20000 in
theorem gX9_portions_X9_byPlace : GoodIn wsX9_portions (wsV RX9 177 RX9 yX9_byPlace wsX9_byPlace) := goodIn_app (goodIn_of _ (by decide +kernel)) ggX9_portions_X9_byPlace
theorem dX9_portions_0 : decode cX9_portions 0 = .ok (.iload_n 1, 1) := by decide +kernel
theorem dX9_portions_1 : decode cX9_portions 1 = .ok (.iconst 0, 1) := by decide +kernel
theorem dX9_portions_2 : decode cX9_portions 2 = .ok (.ldc 176, 2) := by decide +kernel
theorem dX9_portions_4 : decode cX9_portions 4 = .ok (.invokestatic 72, 3) := by decide +kernel
theorem dX9_portions_7 : decode cX9_portions 7 = .ok (.ifCond .eq 12, 3) := by decide +kernel
theorem dX9_portions_10 : decode cX9_portions 10 = .ok (.iload_n 2, 1) := by decide +kernel
theorem dX9_portions_11 : decode cX9_portions 11 = .ok (.iconst 0, 1) := by decide +kernel
theorem dX9_portions_12 : decode cX9_portions 12 = .ok (.iconst 1, 1) := by decide +kernel
theorem dX9_portions_13 : decode cX9_portions 13 = .ok (.invokestatic 72, 3) := by decide +kernel
theorem dX9_portions_16 : decode cX9_portions 16 = .ok (.ifCond .ne 6, 3) := by decide +kernel
theorem dX9_portions_19 : decode cX9_portions 19 = .ok (.bipush (-2), 2) := by decide +kernel
theorem dX9_portions_21 : decode cX9_portions 21 = .ok (.ireturn, 1) := by decide +kernel
theorem dX9_portions_22 : decode cX9_portions 22 = .ok (.aload_n 0, 1) := by decide +kernel
theorem dX9_portions_23 : decode cX9_portions 23 = .ok (.invokevirtual 122, 3) := by decide +kernel
theorem dX9_portions_26 : decode cX9_portions 26 = .ok (.iconst 0, 1) := by decide +kernel
theorem dX9_portions_27 : decode cX9_portions 27 = .ok (.istore_n 3, 1) := by decide +kernel
theorem dX9_portions_28 : decode cX9_portions 28 = .ok (.iload_n 3, 1) := by decide +kernel
theorem dX9_portions_29 : decode cX9_portions 29 = .ok (.bipush 6, 2) := by decide +kernel
theorem dX9_portions_31 : decode cX9_portions 31 = .ok (.if_icmp .ge 16, 3) := by decide +kernel
theorem dX9_portions_34 : decode cX9_portions 34 = .ok (.aload_n 0, 1) := by decide +kernel
theorem dX9_portions_35 : decode cX9_portions 35 = .ok (.getfield 35, 3) := by decide +kernel
theorem dX9_portions_38 : decode cX9_portions 38 = .ok (.iload_n 3, 1) := by decide +kernel
theorem dX9_portions_39 : decode cX9_portions 39 = .ok (.iconst 0, 1) := by decide +kernel
theorem dX9_portions_40 : decode cX9_portions 40 = .ok (.iastore, 1) := by decide +kernel
theorem dX9_portions_41 : decode cX9_portions 41 = .ok (.iinc 3 1, 3) := by decide +kernel
theorem dX9_portions_44 : decode cX9_portions 44 = .ok (.goto (-16), 3) := by decide +kernel
theorem dX9_portions_47 : decode cX9_portions 47 = .ok (.iconst 0, 1) := by decide +kernel
theorem dX9_portions_48 : decode cX9_portions 48 = .ok (.istore_n 3, 1) := by decide +kernel
theorem dX9_portions_49 : decode cX9_portions 49 = .ok (.iload_n 3, 1) := by decide +kernel
theorem dX9_portions_50 : decode cX9_portions 50 = .ok (.bipush 6, 2) := by decide +kernel
theorem dX9_portions_52 : decode cX9_portions 52 = .ok (.if_icmp .ge 87, 3) := by decide +kernel
theorem dX9_portions_55 : decode cX9_portions 55 = .ok (.aload_n 0, 1) := by decide +kernel
theorem dX9_portions_56 : decode cX9_portions 56 = .ok (.iload_n 3, 1) := by decide +kernel
theorem dX9_portions_57 : decode cX9_portions 57 = .ok (.iconst 0, 1) := by decide +kernel
theorem dX9_portions_58 : decode cX9_portions 58 = .ok (.invokevirtual 98, 3) := by decide +kernel
theorem dX9_portions_61 : decode cX9_portions 61 = .ok (.ifCond .eq 72, 3) := by decide +kernel
theorem dX9_portions_64 : decode cX9_portions 64 = .ok (.aload_n 0, 1) := by decide +kernel
theorem dX9_portions_65 : decode cX9_portions 65 = .ok (.getfield 32, 3) := by decide +kernel
theorem dX9_portions_68 : decode cX9_portions 68 = .ok (.iload_n 3, 1) := by decide +kernel
theorem dX9_portions_69 : decode cX9_portions 69 = .ok (.iaload, 1) := by decide +kernel
theorem dX9_portions_70 : decode cX9_portions 70 = .ok (.ifCond .le 63, 3) := by decide +kernel
theorem dX9_portions_73 : decode cX9_portions 73 = .ok (.aload_n 0, 1) := by decide +kernel
theorem dX9_portions_74 : decode cX9_portions 74 = .ok (.iload_n 3, 1) := by decide +kernel
theorem dX9_portions_75 : decode cX9_portions 75 = .ok (.iload_n 1, 1) := by decide +kernel
theorem dX9_portions_76 : decode cX9_portions 76 = .ok (.invokevirtual 177, 3) := by decide +kernel
theorem dX9_portions_79 : decode cX9_portions 79 = .ok (.istore 4, 2) := by decide +kernel
theorem dX9_portions_81 : decode cX9_portions 81 = .ok (.iconst 1, 1) := by decide +kernel
theorem dX9_portions_82 : decode cX9_portions 82 = .ok (.istore 5, 2) := by decide +kernel
theorem dX9_portions_84 : decode cX9_portions 84 = .ok (.iload 5, 2) := by decide +kernel
theorem dX9_portions_86 : decode cX9_portions 86 = .ok (.bipush 10, 2) := by decide +kernel
theorem dX9_portions_88 : decode cX9_portions 88 = .ok (.if_icmp .ge 38, 3) := by decide +kernel
theorem dX9_portions_91 : decode cX9_portions 91 = .ok (.aload_n 0, 1) := by decide +kernel
theorem dX9_portions_92 : decode cX9_portions 92 = .ok (.getfield 35, 3) := by decide +kernel
theorem dX9_portions_95 : decode cX9_portions 95 = .ok (.iload_n 3, 1) := by decide +kernel
theorem dX9_portions_96 : decode cX9_portions 96 = .ok (.iload 5, 2) := by decide +kernel
theorem dX9_portions_98 : decode cX9_portions 98 = .ok (.iastore, 1) := by decide +kernel
theorem dX9_portions_99 : decode cX9_portions 99 = .ok (.aload_n 0, 1) := by decide +kernel
theorem dX9_portions_100 : decode cX9_portions 100 = .ok (.iload_n 3, 1) := by decide +kernel
theorem dX9_portions_101 : decode cX9_portions 101 = .ok (.iload_n 1, 1) := by decide +kernel
theorem dX9_portions_102 : decode cX9_portions 102 = .ok (.invokevirtual 177, 3) := by decide +kernel
theorem dX9_portions_105 : decode cX9_portions 105 = .ok (.iload 4, 2) := by decide +kernel
theorem dX9_portions_107 : decode cX9_portions 107 = .ok (.if_icmp .le 13, 3) := by decide +kernel
theorem dX9_portions_110 : decode cX9_portions 110 = .ok (.iload_n 2, 1) := by decide +kernel
theorem dX9_portions_111 : decode cX9_portions 111 = .ok (.ifCond .ne 7, 3) := by decide +kernel
theorem dX9_portions_114 : decode cX9_portions 114 = .ok (.iconst 0, 1) := by decide +kernel
theorem dX9_portions_115 : decode cX9_portions 115 = .ok (.goto 4, 3) := by decide +kernel
theorem dX9_portions_118 : decode cX9_portions 118 = .ok (.iload_n 3, 1) := by decide +kernel
theorem dX9_portions_119 : decode cX9_portions 119 = .ok (.ireturn, 1) := by decide +kernel
theorem dX9_portions_120 : decode cX9_portions 120 = .ok (.iinc 5 1, 3) := by decide +kernel
theorem dX9_portions_123 : decode cX9_portions 123 = .ok (.goto (-39), 3) := by decide +kernel
theorem dX9_portions_126 : decode cX9_portions 126 = .ok (.aload_n 0, 1) := by decide +kernel
theorem dX9_portions_127 : decode cX9_portions 127 = .ok (.getfield 35, 3) := by decide +kernel
theorem dX9_portions_130 : decode cX9_portions 130 = .ok (.iload_n 3, 1) := by decide +kernel
theorem dX9_portions_131 : decode cX9_portions 131 = .ok (.iconst 0, 1) := by decide +kernel
theorem dX9_portions_132 : decode cX9_portions 132 = .ok (.iastore, 1) := by decide +kernel
theorem dX9_portions_133 : decode cX9_portions 133 = .ok (.iinc 3 1, 3) := by decide +kernel
theorem dX9_portions_136 : decode cX9_portions 136 = .ok (.goto (-87), 3) := by decide +kernel
theorem dX9_portions_139 : decode cX9_portions 139 = .ok (.iload_n 2, 1) := by decide +kernel
theorem dX9_portions_140 : decode cX9_portions 140 = .ok (.ifCond .ne 7, 3) := by decide +kernel
theorem dX9_portions_143 : decode cX9_portions 143 = .ok (.iconst 1, 1) := by decide +kernel
theorem dX9_portions_144 : decode cX9_portions 144 = .ok (.goto 5, 3) := by decide +kernel
theorem dX9_portions_147 : decode cX9_portions 147 = .ok (.bipush (-6), 2) := by decide +kernel
theorem dX9_portions_149 : decode cX9_portions 149 = .ok (.ireturn, 1) := by decide +kernel
set_option maxRecDepth 20000 in
theorem ggX9_seats_X9_in : GoodIn wsX9_seats wsX9_in := goodIn_r _ [7] (by decide +kernel) (by decide +kernel)
set_option maxRecDepth 20000 in
theorem gX9_seats_X9_in : GoodIn wsX9_seats (va_wsS RX9 72 yX9_in wsX9_in) := goodIn_app (goodIn_of _ (by decide +kernel)) ggX9_seats_X9_in
set_option maxRecDepth 20000 in
theorem ggX9_seats_X9_asNow : GoodIn wsX9_seats wsX9_asNow := goodIn_r _ [11, 12, 13, 14, 15, 16, 17, 18, 19, 35, 36, 37, 38, 39, 40, 41, 42, 43, 44, 45, 46, 47, 48, 49, 50, 51, 52, 53, 54, 55, 56, 57, 58, 59, 60, 61] (by decide +kernel) (by decide +kernel)
set_option maxRecDepth 20000 in
theorem gX9_seats_X9_asNow : GoodIn wsX9_seats (wsV RX9 122 RX9 yX9_asNow wsX9_asNow) := goodIn_app (goodIn_of _ (by decide +kernel)) ggX9_seats_X9_asNow
set_option maxRecDepth 20000 in
theorem ggX9_seats_X9_inHouse : GoodIn wsX9_seats wsX9_inHouse := goodIn_r _ [23, 24, 25, 26, 6, 27, 28, 16, 29, 30, 31, 35, 36, 37, 38, 39, 40, 41, 42, 43, 44, 45, 46, 47, 48, 49, 50, 51, 52, 53, 54, 55, 56, 57, 58, 59, 60, 61] (by decide +kernel) (by decide +kernel)
set_option maxRecDepth 20000 in
theorem gX9_seats_X9_inHouse : GoodIn wsX9_seats (wsV RX9 137 RX9 yX9_inHouse wsX9_inHouse) := goodIn_app (goodIn_of _ (by decide +kernel)) ggX9_seats_X9_inHouse
set_option maxRecDepth 20000 in
theorem ggX9_seats_X9_bits : GoodIn wsX9_seats wsX9_bits := goodIn_r _ [34] (by decide +kernel) (by decide +kernel)
set_option maxRecDepth 20000 in
theorem gX9_seats_X9_bits : GoodIn wsX9_seats (va_wsS RX9 80 yX9_bits wsX9_bits) := goodIn_app (goodIn_of _ (by decide +kernel)) ggX9_seats_X9_bits
set_option maxRecDepth 20000 in
theorem ggX9_seats_X9_has : GoodIn wsX9_seats wsX9_has := goodIn_r _ [31] (by decide +kernel) (by decide +kernel)
set_option maxRecDepth 20000 in
theorem gX9_seats_X9_has : GoodIn wsX9_seats (va_wsS RX9 76 yX9_has wsX9_has) := goodIn_app (goodIn_of _ (by decide +kernel)) ggX9_seats_X9_has
theorem dX9_seats_0 : decode cX9_seats 0 = .ok (.iload_n 1, 1) := by decide +kernel
theorem dX9_seats_1 : decode cX9_seats 1 = .ok (.iconst 0, 1) := by decide +kernel
theorem dX9_seats_2 : decode cX9_seats 2 = .ok (.iconst 2, 1) := by decide +kernel
theorem dX9_seats_3 : decode cX9_seats 3 = .ok (.invokestatic 72, 3) := by decide +kernel
theorem dX9_seats_6 : decode cX9_seats 6 = .ok (.ifCond .ne 5, 3) := by decide +kernel
theorem dX9_seats_9 : decode cX9_seats 9 = .ok (.iconst (-1), 1) := by decide +kernel
theorem dX9_seats_10 : decode cX9_seats 10 = .ok (.ireturn, 1) := by decide +kernel
theorem dX9_seats_11 : decode cX9_seats 11 = .ok (.aload_n 0, 1) := by decide +kernel
theorem dX9_seats_12 : decode cX9_seats 12 = .ok (.invokevirtual 122, 3) := by decide +kernel
theorem dX9_seats_15 : decode cX9_seats 15 = .ok (.aload_n 0, 1) := by decide +kernel
theorem dX9_seats_16 : decode cX9_seats 16 = .ok (.iload_n 1, 1) := by decide +kernel
theorem dX9_seats_17 : decode cX9_seats 17 = .ok (.invokevirtual 137, 3) := by decide +kernel
theorem dX9_seats_20 : decode cX9_seats 20 = .ok (.istore_n 3, 1) := by decide +kernel
theorem dX9_seats_21 : decode cX9_seats 21 = .ok (.iload_n 3, 1) := by decide +kernel
theorem dX9_seats_22 : decode cX9_seats 22 = .ok (.invokestatic 80, 3) := by decide +kernel
theorem dX9_seats_25 : decode cX9_seats 25 = .ok (.istore 4, 2) := by decide +kernel
theorem dX9_seats_27 : decode cX9_seats 27 = .ok (.iconst 1, 1) := by decide +kernel
theorem dX9_seats_28 : decode cX9_seats 28 = .ok (.istore 5, 2) := by decide +kernel
theorem dX9_seats_30 : decode cX9_seats 30 = .ok (.iconst 0, 1) := by decide +kernel
theorem dX9_seats_31 : decode cX9_seats 31 = .ok (.istore 6, 2) := by decide +kernel
theorem dX9_seats_33 : decode cX9_seats 33 = .ok (.iload 6, 2) := by decide +kernel
theorem dX9_seats_35 : decode cX9_seats 35 = .ok (.iload 4, 2) := by decide +kernel
theorem dX9_seats_37 : decode cX9_seats 37 = .ok (.if_icmp .ge 16, 3) := by decide +kernel
theorem dX9_seats_40 : decode cX9_seats 40 = .ok (.iload 5, 2) := by decide +kernel
theorem dX9_seats_42 : decode cX9_seats 42 = .ok (.bipush 6, 2) := by decide +kernel
theorem dX9_seats_44 : decode cX9_seats 44 = .ok (.imul, 1) := by decide +kernel
theorem dX9_seats_45 : decode cX9_seats 45 = .ok (.istore 5, 2) := by decide +kernel
theorem dX9_seats_47 : decode cX9_seats 47 = .ok (.iinc 6 1, 3) := by decide +kernel
theorem dX9_seats_50 : decode cX9_seats 50 = .ok (.goto (-17), 3) := by decide +kernel
theorem dX9_seats_53 : decode cX9_seats 53 = .ok (.iconst 0, 1) := by decide +kernel
theorem dX9_seats_54 : decode cX9_seats 54 = .ok (.istore 6, 2) := by decide +kernel
theorem dX9_seats_56 : decode cX9_seats 56 = .ok (.iconst 0, 1) := by decide +kernel
theorem dX9_seats_57 : decode cX9_seats 57 = .ok (.istore 7, 2) := by decide +kernel
theorem dX9_seats_59 : decode cX9_seats 59 = .ok (.iload 7, 2) := by decide +kernel
theorem dX9_seats_61 : decode cX9_seats 61 = .ok (.iload 5, 2) := by decide +kernel
theorem dX9_seats_63 : decode cX9_seats 63 = .ok (.if_icmp .ge 187, 3) := by decide +kernel
theorem dX9_seats_66 : decode cX9_seats 66 = .ok (.iload 5, 2) := by decide +kernel
theorem dX9_seats_68 : decode cX9_seats 68 = .ok (.istore 8, 2) := by decide +kernel
theorem dX9_seats_70 : decode cX9_seats 70 = .ok (.iconst 0, 1) := by decide +kernel
theorem dX9_seats_71 : decode cX9_seats 71 = .ok (.istore 9, 2) := by decide +kernel
theorem dX9_seats_73 : decode cX9_seats 73 = .ok (.iconst 1, 1) := by decide +kernel
theorem dX9_seats_74 : decode cX9_seats 74 = .ok (.istore 10, 2) := by decide +kernel
theorem dX9_seats_76 : decode cX9_seats 76 = .ok (.iconst 0, 1) := by decide +kernel
theorem dX9_seats_77 : decode cX9_seats 77 = .ok (.istore 11, 2) := by decide +kernel
theorem dX9_seats_79 : decode cX9_seats 79 = .ok (.iload 11, 2) := by decide +kernel
theorem dX9_seats_81 : decode cX9_seats 81 = .ok (.iload 4, 2) := by decide +kernel
theorem dX9_seats_83 : decode cX9_seats 83 = .ok (.if_icmp .ge 118, 3) := by decide +kernel
theorem dX9_seats_86 : decode cX9_seats 86 = .ok (.iload 10, 2) := by decide +kernel
theorem dX9_seats_88 : decode cX9_seats 88 = .ok (.ifCond .eq 113, 3) := by decide +kernel
theorem dX9_seats_91 : decode cX9_seats 91 = .ok (.iload 8, 2) := by decide +kernel
theorem dX9_seats_93 : decode cX9_seats 93 = .ok (.bipush 6, 2) := by decide +kernel
theorem dX9_seats_95 : decode cX9_seats 95 = .ok (.idiv, 1) := by decide +kernel
theorem dX9_seats_96 : decode cX9_seats 96 = .ok (.istore 8, 2) := by decide +kernel
theorem dX9_seats_98 : decode cX9_seats 98 = .ok (.aload_n 0, 1) := by decide +kernel
theorem dX9_seats_99 : decode cX9_seats 99 = .ok (.getfield 56, 3) := by decide +kernel
theorem dX9_seats_102 : decode cX9_seats 102 = .ok (.iload 11, 2) := by decide +kernel
theorem dX9_seats_104 : decode cX9_seats 104 = .ok (.iload 7, 2) := by decide +kernel
theorem dX9_seats_106 : decode cX9_seats 106 = .ok (.iload 8, 2) := by decide +kernel
theorem dX9_seats_108 : decode cX9_seats 108 = .ok (.idiv, 1) := by decide +kernel
theorem dX9_seats_109 : decode cX9_seats 109 = .ok (.bipush 6, 2) := by decide +kernel
theorem dX9_seats_111 : decode cX9_seats 111 = .ok (.irem, 1) := by decide +kernel
theorem dX9_seats_112 : decode cX9_seats 112 = .ok (.iastore, 1) := by decide +kernel
theorem dX9_seats_113 : decode cX9_seats 113 = .ok (.iload_n 3, 1) := by decide +kernel
theorem dX9_seats_114 : decode cX9_seats 114 = .ok (.aload_n 0, 1) := by decide +kernel
theorem dX9_seats_115 : decode cX9_seats 115 = .ok (.getfield 56, 3) := by decide +kernel
theorem dX9_seats_118 : decode cX9_seats 118 = .ok (.iload 11, 2) := by decide +kernel
theorem dX9_seats_120 : decode cX9_seats 120 = .ok (.iaload, 1) := by decide +kernel
theorem dX9_seats_121 : decode cX9_seats 121 = .ok (.invokestatic 76, 3) := by decide +kernel
theorem dX9_seats_124 : decode cX9_seats 124 = .ok (.ifCond .eq 54, 3) := by decide +kernel
theorem dX9_seats_127 : decode cX9_seats 127 = .ok (.iload 9, 2) := by decide +kernel
theorem dX9_seats_129 : decode cX9_seats 129 = .ok (.aload_n 0, 1) := by decide +kernel
theorem dX9_seats_130 : decode cX9_seats 130 = .ok (.getfield 56, 3) := by decide +kernel
theorem dX9_seats_133 : decode cX9_seats 133 = .ok (.iload 11, 2) := by decide +kernel
theorem dX9_seats_135 : decode cX9_seats 135 = .ok (.iaload, 1) := by decide +kernel
theorem dX9_seats_136 : decode cX9_seats 136 = .ok (.invokestatic 76, 3) := by decide +kernel
theorem dX9_seats_139 : decode cX9_seats 139 = .ok (.ifCond .ne 39, 3) := by decide +kernel
theorem dX9_seats_142 : decode cX9_seats 142 = .ok (.iload 11, 2) := by decide +kernel
theorem dX9_seats_144 : decode cX9_seats 144 = .ok (.ifCond .eq 30, 3) := by decide +kernel
theorem dX9_seats_147 : decode cX9_seats 147 = .ok (.aload_n 0, 1) := by decide +kernel
theorem dX9_seats_148 : decode cX9_seats 148 = .ok (.getfield 23, 3) := by decide +kernel
theorem dX9_seats_151 : decode cX9_seats 151 = .ok (.aload_n 0, 1) := by decide +kernel
theorem dX9_seats_152 : decode cX9_seats 152 = .ok (.getfield 56, 3) := by decide +kernel
theorem dX9_seats_155 : decode cX9_seats 155 = .ok (.iload 11, 2) := by decide +kernel
theorem dX9_seats_157 : decode cX9_seats 157 = .ok (.iaload, 1) := by decide +kernel
theorem dX9_seats_158 : decode cX9_seats 158 = .ok (.iaload, 1) := by decide +kernel
theorem dX9_seats_159 : decode cX9_seats 159 = .ok (.aload_n 0, 1) := by decide +kernel
theorem dX9_seats_160 : decode cX9_seats 160 = .ok (.getfield 56, 3) := by decide +kernel
theorem dX9_seats_163 : decode cX9_seats 163 = .ok (.iload 11, 2) := by decide +kernel
theorem dX9_seats_165 : decode cX9_seats 165 = .ok (.iconst 1, 1) := by decide +kernel
theorem dX9_seats_166 : decode cX9_seats 166 = .ok (.isub, 1) := by decide +kernel
theorem dX9_seats_167 : decode cX9_seats 167 = .ok (.iaload, 1) := by decide +kernel
theorem dX9_seats_168 : decode cX9_seats 168 = .ok (.invokestatic 76, 3) := by decide +kernel
theorem dX9_seats_171 : decode cX9_seats 171 = .ok (.ifCond .ne 7, 3) := by decide +kernel
theorem dX9_seats_174 : decode cX9_seats 174 = .ok (.iconst 1, 1) := by decide +kernel
theorem dX9_seats_175 : decode cX9_seats 175 = .ok (.goto 4, 3) := by decide +kernel
theorem dX9_seats_178 : decode cX9_seats 178 = .ok (.iconst 0, 1) := by decide +kernel
theorem dX9_seats_179 : decode cX9_seats 179 = .ok (.istore 10, 2) := by decide +kernel
theorem dX9_seats_181 : decode cX9_seats 181 = .ok (.iload 9, 2) := by decide +kernel
theorem dX9_seats_183 : decode cX9_seats 183 = .ok (.iconst 1, 1) := by decide +kernel
theorem dX9_seats_184 : decode cX9_seats 184 = .ok (.aload_n 0, 1) := by decide +kernel
theorem dX9_seats_185 : decode cX9_seats 185 = .ok (.getfield 56, 3) := by decide +kernel
theorem dX9_seats_188 : decode cX9_seats 188 = .ok (.iload 11, 2) := by decide +kernel
theorem dX9_seats_190 : decode cX9_seats 190 = .ok (.iaload, 1) := by decide +kernel
theorem dX9_seats_191 : decode cX9_seats 191 = .ok (.ishl, 1) := by decide +kernel
theorem dX9_seats_192 : decode cX9_seats 192 = .ok (.ior, 1) := by decide +kernel
theorem dX9_seats_193 : decode cX9_seats 193 = .ok (.istore 9, 2) := by decide +kernel
theorem dX9_seats_195 : decode cX9_seats 195 = .ok (.iinc 11 1, 3) := by decide +kernel
theorem dX9_seats_198 : decode cX9_seats 198 = .ok (.goto (-119), 3) := by decide +kernel
theorem dX9_seats_201 : decode cX9_seats 201 = .ok (.iload 10, 2) := by decide +kernel
theorem dX9_seats_203 : decode cX9_seats 203 = .ok (.ifCond .eq 41, 3) := by decide +kernel
theorem dX9_seats_206 : decode cX9_seats 206 = .ok (.iconst 0, 1) := by decide +kernel
theorem dX9_seats_207 : decode cX9_seats 207 = .ok (.istore 11, 2) := by decide +kernel
theorem dX9_seats_209 : decode cX9_seats 209 = .ok (.iload 11, 2) := by decide +kernel
theorem dX9_seats_211 : decode cX9_seats 211 = .ok (.iload 4, 2) := by decide +kernel
theorem dX9_seats_213 : decode cX9_seats 213 = .ok (.if_icmp .ge 28, 3) := by decide +kernel
theorem dX9_seats_216 : decode cX9_seats 216 = .ok (.iload 6, 2) := by decide +kernel
theorem dX9_seats_218 : decode cX9_seats 218 = .ok (.ifCond .ne 23, 3) := by decide +kernel
theorem dX9_seats_221 : decode cX9_seats 221 = .ok (.aload_n 0, 1) := by decide +kernel
theorem dX9_seats_222 : decode cX9_seats 222 = .ok (.getfield 59, 3) := by decide +kernel
theorem dX9_seats_225 : decode cX9_seats 225 = .ok (.iload 11, 2) := by decide +kernel
theorem dX9_seats_227 : decode cX9_seats 227 = .ok (.aload_n 0, 1) := by decide +kernel
theorem dX9_seats_228 : decode cX9_seats 228 = .ok (.getfield 56, 3) := by decide +kernel
theorem dX9_seats_231 : decode cX9_seats 231 = .ok (.iload 11, 2) := by decide +kernel
theorem dX9_seats_233 : decode cX9_seats 233 = .ok (.iaload, 1) := by decide +kernel
theorem dX9_seats_234 : decode cX9_seats 234 = .ok (.iastore, 1) := by decide +kernel
theorem dX9_seats_235 : decode cX9_seats 235 = .ok (.iinc 11 1, 3) := by decide +kernel
theorem dX9_seats_238 : decode cX9_seats 238 = .ok (.goto (-29), 3) := by decide +kernel
theorem dX9_seats_241 : decode cX9_seats 241 = .ok (.iinc 6 1, 3) := by decide +kernel
theorem dX9_seats_244 : decode cX9_seats 244 = .ok (.iinc 7 1, 3) := by decide +kernel
theorem dX9_seats_247 : decode cX9_seats 247 = .ok (.goto (-188), 3) := by decide +kernel
theorem dX9_seats_250 : decode cX9_seats 250 = .ok (.iload_n 2, 1) := by decide +kernel
theorem dX9_seats_251 : decode cX9_seats 251 = .ok (.iconst (-1), 1) := by decide +kernel
theorem dX9_seats_252 : decode cX9_seats 252 = .ok (.if_icmp .ne 6, 3) := by decide +kernel
theorem dX9_seats_255 : decode cX9_seats 255 = .ok (.iload 6, 2) := by decide +kernel
theorem dX9_seats_257 : decode cX9_seats 257 = .ok (.ireturn, 1) := by decide +kernel
theorem dX9_seats_258 : decode cX9_seats 258 = .ok (.iload 6, 2) := by decide +kernel
theorem dX9_seats_260 : decode cX9_seats 260 = .ok (.ifCond .le 24, 3) := by decide +kernel
theorem dX9_seats_263 : decode cX9_seats 263 = .ok (.iload_n 2, 1) := by decide +kernel
theorem dX9_seats_264 : decode cX9_seats 264 = .ok (.iconst 0, 1) := by decide +kernel
theorem dX9_seats_265 : decode cX9_seats 265 = .ok (.iload 4, 2) := by decide +kernel
theorem dX9_seats_267 : decode cX9_seats 267 = .ok (.iconst 1, 1) := by decide +kernel
theorem dX9_seats_268 : decode cX9_seats 268 = .ok (.isub, 1) := by decide +kernel
theorem dX9_seats_269 : decode cX9_seats 269 = .ok (.invokestatic 72, 3) := by decide +kernel
theorem dX9_seats_272 : decode cX9_seats 272 = .ok (.ifCond .eq 12, 3) := by decide +kernel
theorem dX9_seats_275 : decode cX9_seats 275 = .ok (.aload_n 0, 1) := by decide +kernel
theorem dX9_seats_276 : decode cX9_seats 276 = .ok (.getfield 59, 3) := by decide +kernel
theorem dX9_seats_279 : decode cX9_seats 279 = .ok (.iload_n 2, 1) := by decide +kernel
theorem dX9_seats_280 : decode cX9_seats 280 = .ok (.iaload, 1) := by decide +kernel
theorem dX9_seats_281 : decode cX9_seats 281 = .ok (.goto 5, 3) := by decide +kernel
theorem dX9_seats_284 : decode cX9_seats 284 = .ok (.bipush (-6), 2) := by decide +kernel
theorem dX9_seats_286 : decode cX9_seats 286 = .ok (.ireturn, 1) := by decide +kernel
set_option maxRecDepth 20000 in
theorem ggX9_belch_X9_isThere : GoodIn wsX9_belch wsX9_isThere := goodIn_r _ [13, 5, 14, 15, 12, 16, 17, 18, 19, 52, 53, 54, 55, 56, 57, 58, 59, 60, 61, 62, 63, 64, 65, 66, 67, 68, 69, 70, 71, 72, 73, 74, 75, 76, 77, 78] (by decide +kernel) (by decide +kernel)
set_option maxRecDepth 20000 in
theorem gX9_belch_X9_isThere : GoodIn wsX9_belch (wsV RX9 84 RX9 yX9_isThere wsX9_isThere) := goodIn_app (goodIn_of _ (by decide +kernel)) ggX9_belch_X9_isThere
set_option maxRecDepth 20000 in
theorem ggX9_belch_X9_in : GoodIn wsX9_belch wsX9_in := goodIn_r _ [16] (by decide +kernel) (by decide +kernel)
set_option maxRecDepth 20000 in
theorem gX9_belch_X9_in : GoodIn wsX9_belch (va_wsS RX9 72 yX9_in wsX9_in) := goodIn_app (goodIn_of _ (by decide +kernel)) ggX9_belch_X9_in
set_option maxRecDepth 20000 in
theorem ggX9_belch_X9_has : GoodIn wsX9_belch wsX9_has := goodIn_r _ [19] (by decide +kernel) (by decide +kernel)
set_option maxRecDepth 20000 in
theorem gX9_belch_X9_has : GoodIn wsX9_belch (va_wsS RX9 76 yX9_has wsX9_has) := goodIn_app (goodIn_of _ (by decide +kernel)) ggX9_belch_X9_has
set_option maxRecDepth 20000 in
theorem ggX9_belch_X9_bits : GoodIn wsX9_belch wsX9_bits := goodIn_r _ [22] (by decide +kernel) (by decide +kernel)
set_option maxRecDepth 20000 in
theorem gX9_belch_X9_bits : GoodIn wsX9_belch (va_wsS RX9 80 yX9_bits wsX9_bits) := goodIn_app (goodIn_of _ (by decide +kernel)) ggX9_belch_X9_bits
set_option maxRecDepth 20000 in
theorem ggX9_belch_X9_asNow : GoodIn wsX9_belch wsX9_asNow := goodIn_r _ [26, 27, 28, 8, 6, 29, 3, 30, 31, 52, 53, 54, 55, 56, 57, 58, 59, 60, 61, 62, 63, 64, 65, 66, 67, 68, 69, 70, 71, 72, 73, 74, 75, 76, 77, 78] (by decide +kernel) (by decide +kernel)
set_option maxRecDepth 20000 in
theorem gX9_belch_X9_asNow : GoodIn wsX9_belch (wsV RX9 122 RX9 yX9_asNow wsX9_asNow) := goodIn_app (goodIn_of _ (by decide +kernel)) ggX9_belch_X9_asNow
set_option maxRecDepth 20000 in
theorem ggX9_belch_X9_servedBy : GoodIn wsX9_belch wsX9_servedBy := goodIn_r _ [35, 27, 36, 37, 38, 12, 39, 5, 29, 17, 18, 19, 40, 41, 42, 43, 4, 44, 45, 46, 47, 8, 48, 49, 50, 51, 52, 53, 54, 55, 56, 57, 58, 59, 60, 61, 62, 63, 64, 65, 66, 67, 68, 69, 70, 71, 72, 73, 74, 75, 76, 77, 78] (by decide +kernel) (by decide +kernel)
set_option maxRecDepth 20000 in
theorem gX9_belch_X9_servedBy : GoodIn wsX9_belch (wsV RX9 111 RX9 yX9_servedBy wsX9_servedBy) := goodIn_app (goodIn_of _ (by decide +kernel)) ggX9_belch_X9_servedBy
theorem dX9_belch_0 : decode cX9_belch 0 = .ok (.aload_n 0, 1) := by decide +kernel
theorem dX9_belch_1 : decode cX9_belch 1 = .ok (.iload_n 1, 1) := by decide +kernel
theorem dX9_belch_2 : decode cX9_belch 2 = .ok (.invokevirtual 84, 3) := by decide +kernel
theorem dX9_belch_5 : decode cX9_belch 5 = .ok (.ifCond .ne 7, 3) := by decide +kernel
theorem dX9_belch_8 : decode cX9_belch 8 = .ok (.ldc2_w 180, 3) := by decide +kernel
theorem dX9_belch_11 : decode cX9_belch 11 = .ok (.lreturn, 1) := by decide +kernel
theorem dX9_belch_12 : decode cX9_belch 12 = .ok (.iload_n 2, 1) := by decide +kernel
theorem dX9_belch_13 : decode cX9_belch 13 = .ok (.iconst 1, 1) := by decide +kernel
theorem dX9_belch_14 : decode cX9_belch 14 = .ok (.bipush 9, 2) := by decide +kernel
theorem dX9_belch_16 : decode cX9_belch 16 = .ok (.invokestatic 72, 3) := by decide +kernel
theorem dX9_belch_19 : decode cX9_belch 19 = .ok (.ifCond .eq 23, 3) := by decide +kernel
theorem dX9_belch_22 : decode cX9_belch 22 = .ok (.iload_n 3, 1) := by decide +kernel
theorem dX9_belch_23 : decode cX9_belch 23 = .ok (.iconst 0, 1) := by decide +kernel
theorem dX9_belch_24 : decode cX9_belch 24 = .ok (.bipush 10, 2) := by decide +kernel
theorem dX9_belch_26 : decode cX9_belch 26 = .ok (.invokestatic 72, 3) := by decide +kernel
theorem dX9_belch_29 : decode cX9_belch 29 = .ok (.ifCond .eq 13, 3) := by decide +kernel
theorem dX9_belch_32 : decode cX9_belch 32 = .ok (.iload 4, 2) := by decide +kernel
theorem dX9_belch_34 : decode cX9_belch 34 = .ok (.iconst 0, 1) := by decide +kernel
theorem dX9_belch_35 : decode cX9_belch 35 = .ok (.iconst 1, 1) := by decide +kernel
theorem dX9_belch_36 : decode cX9_belch 36 = .ok (.invokestatic 72, 3) := by decide +kernel
theorem dX9_belch_39 : decode cX9_belch 39 = .ok (.ifCond .ne 7, 3) := by decide +kernel
theorem dX9_belch_42 : decode cX9_belch 42 = .ok (.ldc2_w 182, 3) := by decide +kernel
theorem dX9_belch_45 : decode cX9_belch 45 = .ok (.lreturn, 1) := by decide +kernel
theorem dX9_belch_46 : decode cX9_belch 46 = .ok (.aload_n 0, 1) := by decide +kernel
theorem dX9_belch_47 : decode cX9_belch 47 = .ok (.getfield 16, 3) := by decide +kernel
theorem dX9_belch_50 : decode cX9_belch 50 = .ok (.iload_n 1, 1) := by decide +kernel
theorem dX9_belch_51 : decode cX9_belch 51 = .ok (.iaload, 1) := by decide +kernel
theorem dX9_belch_52 : decode cX9_belch 52 = .ok (.istore 5, 2) := by decide +kernel
theorem dX9_belch_54 : decode cX9_belch 54 = .ok (.aload_n 0, 1) := by decide +kernel
theorem dX9_belch_55 : decode cX9_belch 55 = .ok (.getfield 19, 3) := by decide +kernel
theorem dX9_belch_58 : decode cX9_belch 58 = .ok (.istore 6, 2) := by decide +kernel
theorem dX9_belch_60 : decode cX9_belch 60 = .ok (.iconst 0, 1) := by decide +kernel
theorem dX9_belch_61 : decode cX9_belch 61 = .ok (.istore 7, 2) := by decide +kernel
theorem dX9_belch_63 : decode cX9_belch 63 = .ok (.iconst 0, 1) := by decide +kernel
theorem dX9_belch_64 : decode cX9_belch 64 = .ok (.istore 8, 2) := by decide +kernel
theorem dX9_belch_66 : decode cX9_belch 66 = .ok (.iload 8, 2) := by decide +kernel
theorem dX9_belch_68 : decode cX9_belch 68 = .ok (.bipush 6, 2) := by decide +kernel
theorem dX9_belch_70 : decode cX9_belch 70 = .ok (.if_icmp .ge 56, 3) := by decide +kernel
theorem dX9_belch_73 : decode cX9_belch 73 = .ok (.iload 7, 2) := by decide +kernel
theorem dX9_belch_75 : decode cX9_belch 75 = .ok (.aload_n 0, 1) := by decide +kernel
theorem dX9_belch_76 : decode cX9_belch 76 = .ok (.getfield 69, 3) := by decide +kernel
theorem dX9_belch_79 : decode cX9_belch 79 = .ok (.iload 8, 2) := by decide +kernel
theorem dX9_belch_81 : decode cX9_belch 81 = .ok (.invokestatic 76, 3) := by decide +kernel
theorem dX9_belch_84 : decode cX9_belch 84 = .ok (.ifCond .eq 32, 3) := by decide +kernel
theorem dX9_belch_87 : decode cX9_belch 87 = .ok (.aload_n 0, 1) := by decide +kernel
theorem dX9_belch_88 : decode cX9_belch 88 = .ok (.getfield 16, 3) := by decide +kernel
theorem dX9_belch_91 : decode cX9_belch 91 = .ok (.iload 8, 2) := by decide +kernel
theorem dX9_belch_93 : decode cX9_belch 93 = .ok (.iaload, 1) := by decide +kernel
theorem dX9_belch_94 : decode cX9_belch 94 = .ok (.iload 5, 2) := by decide +kernel
theorem dX9_belch_96 : decode cX9_belch 96 = .ok (.if_icmp .ne 20, 3) := by decide +kernel
theorem dX9_belch_99 : decode cX9_belch 99 = .ok (.aload_n 0, 1) := by decide +kernel
theorem dX9_belch_100 : decode cX9_belch 100 = .ok (.getfield 13, 3) := by decide +kernel
theorem dX9_belch_103 : decode cX9_belch 103 = .ok (.iload 8, 2) := by decide +kernel
theorem dX9_belch_105 : decode cX9_belch 105 = .ok (.iaload, 1) := by decide +kernel
theorem dX9_belch_106 : decode cX9_belch 106 = .ok (.ifCond .le 10, 3) := by decide +kernel
theorem dX9_belch_109 : decode cX9_belch 109 = .ok (.iconst 1, 1) := by decide +kernel
theorem dX9_belch_110 : decode cX9_belch 110 = .ok (.iload 8, 2) := by decide +kernel
theorem dX9_belch_112 : decode cX9_belch 112 = .ok (.ishl, 1) := by decide +kernel
theorem dX9_belch_113 : decode cX9_belch 113 = .ok (.goto 4, 3) := by decide +kernel
theorem dX9_belch_116 : decode cX9_belch 116 = .ok (.iconst 0, 1) := by decide +kernel
theorem dX9_belch_117 : decode cX9_belch 117 = .ok (.ior, 1) := by decide +kernel
theorem dX9_belch_118 : decode cX9_belch 118 = .ok (.istore 7, 2) := by decide +kernel
theorem dX9_belch_120 : decode cX9_belch 120 = .ok (.iinc 8 1, 3) := by decide +kernel
theorem dX9_belch_123 : decode cX9_belch 123 = .ok (.goto (-57), 3) := by decide +kernel
theorem dX9_belch_126 : decode cX9_belch 126 = .ok (.lconst 0, 1) := by decide +kernel
theorem dX9_belch_127 : decode cX9_belch 127 = .ok (.lstore 8, 2) := by decide +kernel
theorem dX9_belch_129 : decode cX9_belch 129 = .ok (.lconst 1, 1) := by decide +kernel
theorem dX9_belch_130 : decode cX9_belch 130 = .ok (.lstore 10, 2) := by decide +kernel
theorem dX9_belch_132 : decode cX9_belch 132 = .ok (.iconst 0, 1) := by decide +kernel
theorem dX9_belch_133 : decode cX9_belch 133 = .ok (.istore 12, 2) := by decide +kernel
theorem dX9_belch_135 : decode cX9_belch 135 = .ok (.iload 12, 2) := by decide +kernel
theorem dX9_belch_137 : decode cX9_belch 137 = .ok (.iload 7, 2) := by decide +kernel
theorem dX9_belch_139 : decode cX9_belch 139 = .ok (.invokestatic 80, 3) := by decide +kernel
theorem dX9_belch_142 : decode cX9_belch 142 = .ok (.if_icmp .ge 17, 3) := by decide +kernel
theorem dX9_belch_145 : decode cX9_belch 145 = .ok (.lload 10, 2) := by decide +kernel
theorem dX9_belch_147 : decode cX9_belch 147 = .ok (.ldc2_w 184, 3) := by decide +kernel
theorem dX9_belch_150 : decode cX9_belch 150 = .ok (.lmul, 1) := by decide +kernel
theorem dX9_belch_151 : decode cX9_belch 151 = .ok (.lstore 10, 2) := by decide +kernel
theorem dX9_belch_153 : decode cX9_belch 153 = .ok (.iinc 12 1, 3) := by decide +kernel
theorem dX9_belch_156 : decode cX9_belch 156 = .ok (.goto (-21), 3) := by decide +kernel
theorem dX9_belch_159 : decode cX9_belch 159 = .ok (.aload_n 0, 1) := by decide +kernel
theorem dX9_belch_160 : decode cX9_belch 160 = .ok (.bipush 9, 2) := by decide +kernel
theorem dX9_belch_162 : decode cX9_belch 162 = .ok (.putfield 19, 3) := by decide +kernel
theorem dX9_belch_165 : decode cX9_belch 165 = .ok (.iconst 0, 1) := by decide +kernel
theorem dX9_belch_166 : decode cX9_belch 166 = .ok (.istore 12, 2) := by decide +kernel
theorem dX9_belch_168 : decode cX9_belch 168 = .ok (.iload 12, 2) := by decide +kernel
theorem dX9_belch_170 : decode cX9_belch 170 = .ok (.bipush 64, 2) := by decide +kernel
theorem dX9_belch_172 : decode cX9_belch 172 = .ok (.if_icmp .ge 135, 3) := by decide +kernel
theorem dX9_belch_175 : decode cX9_belch 175 = .ok (.iload 12, 2) := by decide +kernel
theorem dX9_belch_177 : decode cX9_belch 177 = .ok (.iload 7, 2) := by decide +kernel
theorem dX9_belch_179 : decode cX9_belch 179 = .ok (.iconst (-1), 1) := by decide +kernel
theorem dX9_belch_180 : decode cX9_belch 180 = .ok (.ixor, 1) := by decide +kernel
theorem dX9_belch_181 : decode cX9_belch 181 = .ok (.iand, 1) := by decide +kernel
theorem dX9_belch_182 : decode cX9_belch 182 = .ok (.ifCond .ne 119, 3) := by decide +kernel
theorem dX9_belch_185 : decode cX9_belch 185 = .ok (.lconst 1, 1) := by decide +kernel
theorem dX9_belch_186 : decode cX9_belch 186 = .ok (.lstore 13, 2) := by decide +kernel
theorem dX9_belch_188 : decode cX9_belch 188 = .ok (.aload_n 0, 1) := by decide +kernel
theorem dX9_belch_189 : decode cX9_belch 189 = .ok (.invokevirtual 122, 3) := by decide +kernel
theorem dX9_belch_192 : decode cX9_belch 192 = .ok (.iconst 0, 1) := by decide +kernel
theorem dX9_belch_193 : decode cX9_belch 193 = .ok (.istore 15, 2) := by decide +kernel
theorem dX9_belch_195 : decode cX9_belch 195 = .ok (.iload 15, 2) := by decide +kernel
theorem dX9_belch_197 : decode cX9_belch 197 = .ok (.bipush 6, 2) := by decide +kernel
theorem dX9_belch_199 : decode cX9_belch 199 = .ok (.if_icmp .ge 76, 3) := by decide +kernel
theorem dX9_belch_202 : decode cX9_belch 202 = .ok (.lload 13, 2) := by decide +kernel
theorem dX9_belch_204 : decode cX9_belch 204 = .ok (.iload 7, 2) := by decide +kernel
theorem dX9_belch_206 : decode cX9_belch 206 = .ok (.iload 15, 2) := by decide +kernel
theorem dX9_belch_208 : decode cX9_belch 208 = .ok (.invokestatic 76, 3) := by decide +kernel
theorem dX9_belch_211 : decode cX9_belch 211 = .ok (.ifCond .ne 7, 3) := by decide +kernel
theorem dX9_belch_214 : decode cX9_belch 214 = .ok (.lconst 1, 1) := by decide +kernel
theorem dX9_belch_215 : decode cX9_belch 215 = .ok (.goto 23, 3) := by decide +kernel
theorem dX9_belch_218 : decode cX9_belch 218 = .ok (.iload 12, 2) := by decide +kernel
theorem dX9_belch_220 : decode cX9_belch 220 = .ok (.iload 15, 2) := by decide +kernel
theorem dX9_belch_222 : decode cX9_belch 222 = .ok (.invokestatic 76, 3) := by decide +kernel
theorem dX9_belch_225 : decode cX9_belch 225 = .ok (.ifCond .eq 8, 3) := by decide +kernel
theorem dX9_belch_228 : decode cX9_belch 228 = .ok (.iload_n 3, 1) := by decide +kernel
theorem dX9_belch_229 : decode cX9_belch 229 = .ok (.i2l, 1) := by decide +kernel
theorem dX9_belch_230 : decode cX9_belch 230 = .ok (.goto 8, 3) := by decide +kernel
theorem dX9_belch_233 : decode cX9_belch 233 = .ok (.bipush 10, 2) := by decide +kernel
theorem dX9_belch_235 : decode cX9_belch 235 = .ok (.iload_n 3, 1) := by decide +kernel
theorem dX9_belch_236 : decode cX9_belch 236 = .ok (.isub, 1) := by decide +kernel
theorem dX9_belch_237 : decode cX9_belch 237 = .ok (.i2l, 1) := by decide +kernel
theorem dX9_belch_238 : decode cX9_belch 238 = .ok (.lmul, 1) := by decide +kernel
theorem dX9_belch_239 : decode cX9_belch 239 = .ok (.lstore 13, 2) := by decide +kernel
theorem dX9_belch_241 : decode cX9_belch 241 = .ok (.aload_n 0, 1) := by decide +kernel
theorem dX9_belch_242 : decode cX9_belch 242 = .ok (.getfield 35, 3) := by decide +kernel
theorem dX9_belch_245 : decode cX9_belch 245 = .ok (.iload 15, 2) := by decide +kernel
theorem dX9_belch_247 : decode cX9_belch 247 = .ok (.iload 12, 2) := by decide +kernel
theorem dX9_belch_249 : decode cX9_belch 249 = .ok (.iload 15, 2) := by decide +kernel
theorem dX9_belch_251 : decode cX9_belch 251 = .ok (.invokestatic 76, 3) := by decide +kernel
theorem dX9_belch_254 : decode cX9_belch 254 = .ok (.ifCond .eq 7, 3) := by decide +kernel
theorem dX9_belch_257 : decode cX9_belch 257 = .ok (.iconst 0, 1) := by decide +kernel
theorem dX9_belch_258 : decode cX9_belch 258 = .ok (.goto 10, 3) := by decide +kernel
theorem dX9_belch_261 : decode cX9_belch 261 = .ok (.aload_n 0, 1) := by decide +kernel
theorem dX9_belch_262 : decode cX9_belch 262 = .ok (.getfield 35, 3) := by decide +kernel
theorem dX9_belch_265 : decode cX9_belch 265 = .ok (.iload 15, 2) := by decide +kernel
theorem dX9_belch_267 : decode cX9_belch 267 = .ok (.iaload, 1) := by decide +kernel
theorem dX9_belch_268 : decode cX9_belch 268 = .ok (.iastore, 1) := by decide +kernel
theorem dX9_belch_269 : decode cX9_belch 269 = .ok (.iinc 15 1, 3) := by decide +kernel
theorem dX9_belch_272 : decode cX9_belch 272 = .ok (.goto (-77), 3) := by decide +kernel
theorem dX9_belch_275 : decode cX9_belch 275 = .ok (.lload 8, 2) := by decide +kernel
theorem dX9_belch_277 : decode cX9_belch 277 = .ok (.aload_n 0, 1) := by decide +kernel
theorem dX9_belch_278 : decode cX9_belch 278 = .ok (.iload 5, 2) := by decide +kernel
theorem dX9_belch_280 : decode cX9_belch 280 = .ok (.iload_n 2, 1) := by decide +kernel
theorem dX9_belch_281 : decode cX9_belch 281 = .ok (.iconst 0, 1) := by decide +kernel
theorem dX9_belch_282 : decode cX9_belch 282 = .ok (.invokevirtual 111, 3) := by decide +kernel
theorem dX9_belch_285 : decode cX9_belch 285 = .ok (.iload_n 1, 1) := by decide +kernel
theorem dX9_belch_286 : decode cX9_belch 286 = .ok (.invokestatic 76, 3) := by decide +kernel
theorem dX9_belch_289 : decode cX9_belch 289 = .ok (.ifCond .eq 8, 3) := by decide +kernel
theorem dX9_belch_292 : decode cX9_belch 292 = .ok (.lload 13, 2) := by decide +kernel
theorem dX9_belch_294 : decode cX9_belch 294 = .ok (.goto 4, 3) := by decide +kernel
theorem dX9_belch_297 : decode cX9_belch 297 = .ok (.lconst 0, 1) := by decide +kernel
theorem dX9_belch_298 : decode cX9_belch 298 = .ok (.ladd, 1) := by decide +kernel
theorem dX9_belch_299 : decode cX9_belch 299 = .ok (.lstore 8, 2) := by decide +kernel
theorem dX9_belch_301 : decode cX9_belch 301 = .ok (.iinc 12 1, 3) := by decide +kernel
theorem dX9_belch_304 : decode cX9_belch 304 = .ok (.goto (-136), 3) := by decide +kernel
theorem dX9_belch_307 : decode cX9_belch 307 = .ok (.aload_n 0, 1) := by decide +kernel
theorem dX9_belch_308 : decode cX9_belch 308 = .ok (.iload 6, 2) := by decide +kernel
theorem dX9_belch_310 : decode cX9_belch 310 = .ok (.putfield 19, 3) := by decide +kernel
theorem dX9_belch_313 : decode cX9_belch 313 = .ok (.lload 8, 2) := by decide +kernel
theorem dX9_belch_315 : decode cX9_belch 315 = .ok (.lstore 12, 2) := by decide +kernel
theorem dX9_belch_317 : decode cX9_belch 317 = .ok (.lload 10, 2) := by decide +kernel
theorem dX9_belch_319 : decode cX9_belch 319 = .ok (.lstore 14, 2) := by decide +kernel
theorem dX9_belch_321 : decode cX9_belch 321 = .ok (.lload 14, 2) := by decide +kernel
theorem dX9_belch_323 : decode cX9_belch 323 = .ok (.lconst 0, 1) := by decide +kernel
theorem dX9_belch_324 : decode cX9_belch 324 = .ok (.lcmp, 1) := by decide +kernel
theorem dX9_belch_325 : decode cX9_belch 325 = .ok (.ifCond .eq 21, 3) := by decide +kernel
theorem dX9_belch_328 : decode cX9_belch 328 = .ok (.lload 12, 2) := by decide +kernel
theorem dX9_belch_330 : decode cX9_belch 330 = .ok (.lload 14, 2) := by decide +kernel
theorem dX9_belch_332 : decode cX9_belch 332 = .ok (.lrem, 1) := by decide +kernel
theorem dX9_belch_333 : decode cX9_belch 333 = .ok (.lstore 16, 2) := by decide +kernel
theorem dX9_belch_335 : decode cX9_belch 335 = .ok (.lload 14, 2) := by decide +kernel
theorem dX9_belch_337 : decode cX9_belch 337 = .ok (.lstore 12, 2) := by decide +kernel
theorem dX9_belch_339 : decode cX9_belch 339 = .ok (.lload 16, 2) := by decide +kernel
theorem dX9_belch_341 : decode cX9_belch 341 = .ok (.lstore 14, 2) := by decide +kernel
theorem dX9_belch_343 : decode cX9_belch 343 = .ok (.goto (-22), 3) := by decide +kernel
theorem dX9_belch_346 : decode cX9_belch 346 = .ok (.iload 4, 2) := by decide +kernel
theorem dX9_belch_348 : decode cX9_belch 348 = .ok (.ifCond .ne 11, 3) := by decide +kernel
theorem dX9_belch_351 : decode cX9_belch 351 = .ok (.lload 8, 2) := by decide +kernel
theorem dX9_belch_353 : decode cX9_belch 353 = .ok (.lload 12, 2) := by decide +kernel
theorem dX9_belch_355 : decode cX9_belch 355 = .ok (.ldiv, 1) := by decide +kernel
theorem dX9_belch_356 : decode cX9_belch 356 = .ok (.goto 8, 3) := by decide +kernel
theorem dX9_belch_359 : decode cX9_belch 359 = .ok (.lload 10, 2) := by decide +kernel
theorem dX9_belch_361 : decode cX9_belch 361 = .ok (.lload 12, 2) := by decide +kernel
theorem dX9_belch_363 : decode cX9_belch 363 = .ok (.ldiv, 1) := by decide +kernel
theorem dX9_belch_364 : decode cX9_belch 364 = .ok (.lreturn, 1) := by decide +kernel
set_option maxRecDepth 20000 in
theorem ggX9_host_X9_barOfNight : GoodIn wsX9_host wsX9_barOfNight := goodIn_r _ [5, 6, 7, 8, 4, 9, 10, 11, 12, 13, 14, 15, 16, 17, 18, 19, 20, 21, 22, 23, 24, 25, 26, 27, 28, 29, 30, 31, 32, 33, 34, 35, 36, 37, 38, 39, 40, 41, 42, 43, 44, 45, 46, 47, 48, 49, 50, 51, 52, 53, 54, 55, 56, 57, 58, 59, 60, 61, 62, 63, 64, 65, 66, 67, 68, 69, 70, 71, 72, 73, 74, 75, 76, 77, 78, 79, 80, 81, 82, 83, 84, 85, 86, 87, 88, 89, 90, 95, 96, 97, 98, 99, 100, 101, 102, 103, 104, 105, 106, 107, 108, 109, 110, 111, 112, 113, 114, 115, 116, 117, 118, 119, 120, 121] (by decide +kernel) (by decide +kernel)
set_option maxRecDepth 20000 in
theorem gX9_host_X9_barOfNight : GoodIn wsX9_host (wsV RX9 153 RX9 yX9_barOfNight wsX9_barOfNight) := goodIn_app (goodIn_of _ (by decide +kernel)) ggX9_host_X9_barOfNight
set_option maxRecDepth 20000 in
theorem ggX9_host_X9_starved : GoodIn wsX9_host wsX9_starved := goodIn_r _ [94, 39, 28, 40, 41, 4, 42, 95, 96, 97, 98, 99, 100, 101, 102, 103, 104, 105, 106, 107, 108, 109, 110, 111, 112, 113, 114, 115, 116, 117, 118, 119, 120, 121] (by decide +kernel) (by decide +kernel)
set_option maxRecDepth 20000 in
theorem gX9_host_X9_starved : GoodIn wsX9_host (wsV RX9 156 RX9 yX9_starved wsX9_starved) := goodIn_app (goodIn_of _ (by decide +kernel)) ggX9_host_X9_starved
set_option maxRecDepth 20000 in
theorem ggX9_host_X9_goNight : GoodIn wsX9_host wsX9_goNight := goodIn_r _ [18, 19, 20, 21, 10, 11, 22, 23, 24, 25, 26, 4, 27, 28, 29, 30, 31, 32, 33, 34, 35, 36, 37, 38, 39, 40, 41, 42, 43, 44, 45, 46, 47, 48, 49, 50, 51, 52, 53, 54, 55, 56, 57, 58, 59, 60, 61, 62, 63, 64, 65, 66, 67, 68, 69, 70, 71, 72, 73, 74, 75, 76, 77, 78, 79, 80, 81, 82, 83, 84, 85, 86, 12, 13, 14, 87, 88, 89, 90, 95, 96, 97, 98, 99, 100, 101, 102, 103, 104, 105, 106, 107, 108, 109, 110, 111, 112, 113, 114, 115, 116, 117, 118, 119, 120, 121] (by decide +kernel) (by decide +kernel)
set_option maxRecDepth 20000 in
theorem gX9_host_X9_goNight : GoodIn wsX9_host (wsV RX9 150 RX9 yX9_goNight wsX9_goNight) := goodIn_app (goodIn_of _ (by decide +kernel)) ggX9_host_X9_goNight
theorem dX9_host_0 : decode cX9_host 0 = .ok (.aload_n 0, 1) := by decide +kernel
theorem dX9_host_1 : decode cX9_host 1 = .ok (.invokevirtual 153, 3) := by decide +kernel
theorem dX9_host_4 : decode cX9_host 4 = .ok (.ifCond .ge 6, 3) := by decide +kernel
theorem dX9_host_7 : decode cX9_host 7 = .ok (.bipush (-5), 2) := by decide +kernel
theorem dX9_host_9 : decode cX9_host 9 = .ok (.ireturn, 1) := by decide +kernel
theorem dX9_host_10 : decode cX9_host 10 = .ok (.aload_n 0, 1) := by decide +kernel
theorem dX9_host_11 : decode cX9_host 11 = .ok (.invokevirtual 156, 3) := by decide +kernel
theorem dX9_host_14 : decode cX9_host 14 = .ok (.istore_n 1, 1) := by decide +kernel
theorem dX9_host_15 : decode cX9_host 15 = .ok (.bipush 9, 2) := by decide +kernel
theorem dX9_host_17 : decode cX9_host 17 = .ok (.istore_n 2, 1) := by decide +kernel
theorem dX9_host_18 : decode cX9_host 18 = .ok (.iload_n 2, 1) := by decide +kernel
theorem dX9_host_19 : decode cX9_host 19 = .ok (.ifCond .le 28, 3) := by decide +kernel
theorem dX9_host_22 : decode cX9_host 22 = .ok (.aload_n 0, 1) := by decide +kernel
theorem dX9_host_23 : decode cX9_host 23 = .ok (.iload_n 2, 1) := by decide +kernel
theorem dX9_host_24 : decode cX9_host 24 = .ok (.invokevirtual 150, 3) := by decide +kernel
theorem dX9_host_27 : decode cX9_host 27 = .ok (.pop, 1) := by decide +kernel
theorem dX9_host_28 : decode cX9_host 28 = .ok (.aload_n 0, 1) := by decide +kernel
theorem dX9_host_29 : decode cX9_host 29 = .ok (.invokevirtual 156, 3) := by decide +kernel
theorem dX9_host_32 : decode cX9_host 32 = .ok (.iload_n 1, 1) := by decide +kernel
theorem dX9_host_33 : decode cX9_host 33 = .ok (.iconst (-1), 1) := by decide +kernel
theorem dX9_host_34 : decode cX9_host 34 = .ok (.ixor, 1) := by decide +kernel
theorem dX9_host_35 : decode cX9_host 35 = .ok (.iand, 1) := by decide +kernel
theorem dX9_host_36 : decode cX9_host 36 = .ok (.ifCond .ne 5, 3) := by decide +kernel
theorem dX9_host_39 : decode cX9_host 39 = .ok (.iload_n 2, 1) := by decide +kernel
theorem dX9_host_40 : decode cX9_host 40 = .ok (.ireturn, 1) := by decide +kernel
theorem dX9_host_41 : decode cX9_host 41 = .ok (.iinc 2 (-1), 3) := by decide +kernel
theorem dX9_host_44 : decode cX9_host 44 = .ok (.goto (-26), 3) := by decide +kernel
theorem dX9_host_47 : decode cX9_host 47 = .ok (.iconst 0, 1) := by decide +kernel
theorem dX9_host_48 : decode cX9_host 48 = .ok (.ireturn, 1) := by decide +kernel
set_option maxRecDepth 20000 in
theorem ggX9_year_X9_in : GoodIn wsX9_year wsX9_in := goodIn_r _ [9] (by decide +kernel) (by decide +kernel)
set_option maxRecDepth 20000 in
theorem gX9_year_X9_in : GoodIn wsX9_year (va_wsS RX9 72 yX9_in wsX9_in) := goodIn_app (goodIn_of _ (by decide +kernel)) ggX9_year_X9_in
set_option maxRecDepth 20000 in
theorem ggX9_year_X9_asNow : GoodIn wsX9_year wsX9_asNow := goodIn_r _ [13, 5, 14, 3, 15, 16, 17, 18, 19, 75, 76, 77, 78, 79, 80, 81, 82, 83, 84, 85, 86, 87, 88, 89, 90, 91, 92, 93, 94, 95, 96, 97, 98, 99, 100, 101] (by decide +kernel) (by decide +kernel)
set_option maxRecDepth 20000 in
theorem gX9_year_X9_asNow : GoodIn wsX9_year (wsV RX9 122 RX9 yX9_asNow wsX9_asNow) := goodIn_app (goodIn_of _ (by decide +kernel)) ggX9_year_X9_asNow
set_option maxRecDepth 20000 in
theorem ggX9_year_X9_hour : GoodIn wsX9_year wsX9_hour := goodIn_r _ [23, 4, 24, 25, 8, 26, 27, 28, 29, 30, 5, 75, 76, 77, 78, 79, 80, 81, 82, 83, 84, 85, 86, 87, 88, 89, 90, 91, 92, 93, 94, 95, 96, 97, 98, 99, 100, 101] (by decide +kernel) (by decide +kernel)
set_option maxRecDepth 20000 in
theorem gX9_year_X9_hour : GoodIn wsX9_year (wsV RX9 134 RX9 yX9_hour wsX9_hour) := goodIn_app (goodIn_of _ (by decide +kernel)) ggX9_year_X9_hour
set_option maxRecDepth 20000 in
theorem ggX9_year_X9_whyNotGo : GoodIn wsX9_year wsX9_whyNotGo := goodIn_r _ [34, 16, 35, 36, 37, 8, 38, 4, 6, 7, 9, 24, 25, 26, 75, 76, 77, 78, 79, 80, 81, 82, 83, 84, 85, 86, 87, 88, 89, 90, 91, 92, 93, 94, 95, 96, 97, 98, 99, 100, 101] (by decide +kernel) (by decide +kernel)
set_option maxRecDepth 20000 in
theorem gX9_year_X9_whyNotGo : GoodIn wsX9_year (wsV RX9 143 RX9 yX9_whyNotGo wsX9_whyNotGo) := goodIn_app (goodIn_of _ (by decide +kernel)) ggX9_year_X9_whyNotGo
set_option maxRecDepth 20000 in
theorem ggX9_year_X9_go : GoodIn wsX9_year wsX9_go := goodIn_r _ [42, 16, 27, 28, 29, 8, 30, 5, 75, 76, 77, 78, 79, 80, 81, 82, 83, 84, 85, 86, 87, 88, 89, 90, 91, 92, 93, 94, 95, 96, 97, 98, 99, 100, 101] (by decide +kernel) (by decide +kernel)
set_option maxRecDepth 20000 in
theorem gX9_year_X9_go : GoodIn wsX9_year (wsV RX9 146 RX9 yX9_go wsX9_go) := goodIn_app (goodIn_of _ (by decide +kernel)) ggX9_year_X9_go
set_option maxRecDepth 20000 in
theorem ggX9_year_X9_isThere : GoodIn wsX9_year wsX9_isThere := goodIn_r _ [38, 4, 6, 7, 8, 9, 24, 25, 26, 75, 76, 77, 78, 79, 80, 81, 82, 83, 84, 85, 86, 87, 88, 89, 90, 91, 92, 93, 94, 95, 96, 97, 98, 99, 100, 101] (by decide +kernel) (by decide +kernel)
set_option maxRecDepth 20000 in
theorem gX9_year_X9_isThere : GoodIn wsX9_year (wsV RX9 84 RX9 yX9_isThere wsX9_isThere) := goodIn_app (goodIn_of _ (by decide +kernel)) ggX9_year_X9_isThere
set_option maxRecDepth 20000 in
theorem ggX9_year_X9_inHouse : GoodIn wsX9_year wsX9_inHouse := goodIn_r _ [46, 47, 48, 49, 8, 50, 4, 16, 24, 25, 26, 75, 76, 77, 78, 79, 80, 81, 82, 83, 84, 85, 86, 87, 88, 89, 90, 91, 92, 93, 94, 95, 96, 97, 98, 99, 100, 101] (by decide +kernel) (by decide +kernel)
set_option maxRecDepth 20000 in
theorem gX9_year_X9_inHouse : GoodIn wsX9_year (wsV RX9 137 RX9 yX9_inHouse wsX9_inHouse) := goodIn_app (goodIn_of _ (by decide +kernel)) ggX9_year_X9_inHouse
set_option maxRecDepth 20000 in
theorem ggX9_year_X9_dish : GoodIn wsX9_year wsX9_dish := goodIn_r _ [54, 19, 5, 18, 1, 55, 56, 57, 8, 58, 47, 48, 49, 50, 4, 16, 24, 25, 26, 59, 60, 61, 62, 63, 64, 65, 66, 67, 3, 68, 69, 70, 71, 72, 73, 74, 75, 76, 77, 78, 79, 80, 81, 82, 83, 84, 85, 86, 87, 88, 89, 90, 91, 92, 93, 94, 95, 96, 97, 98, 99, 100, 101] (by decide +kernel) (by decide +kernel)
set_option maxRecDepth 20000 in
theorem gX9_year_X9_dish : GoodIn wsX9_year (wsV RX9 140 RX9 yX9_dish wsX9_dish) := goodIn_app (goodIn_of _ (by decide +kernel)) ggX9_year_X9_dish
set_option maxRecDepth 20000 in
theorem ggX9_year_X9_has : GoodIn wsX9_year wsX9_has := goodIn_r _ [26] (by decide +kernel) (by decide +kernel)
set_option maxRecDepth 20000 in
theorem gX9_year_X9_has : GoodIn wsX9_year (va_wsS RX9 76 yX9_has wsX9_has) := goodIn_app (goodIn_of _ (by decide +kernel)) ggX9_year_X9_has
theorem dX9_year_0 : decode cX9_year 0 = .ok (.iload_n 1, 1) := by decide +kernel
theorem dX9_year_1 : decode cX9_year 1 = .ok (.iconst 0, 1) := by decide +kernel
theorem dX9_year_2 : decode cX9_year 2 = .ok (.sipush 9999, 3) := by decide +kernel
theorem dX9_year_5 : decode cX9_year 5 = .ok (.invokestatic 72, 3) := by decide +kernel
theorem dX9_year_8 : decode cX9_year 8 = .ok (.ifCond .eq 22, 3) := by decide +kernel
theorem dX9_year_11 : decode cX9_year 11 = .ok (.iload_n 2, 1) := by decide +kernel
theorem dX9_year_12 : decode cX9_year 12 = .ok (.iconst 1, 1) := by decide +kernel
theorem dX9_year_13 : decode cX9_year 13 = .ok (.bipush 99, 2) := by decide +kernel
theorem dX9_year_15 : decode cX9_year 15 = .ok (.invokestatic 72, 3) := by decide +kernel
theorem dX9_year_18 : decode cX9_year 18 = .ok (.ifCond .eq 12, 3) := by decide +kernel
theorem dX9_year_21 : decode cX9_year 21 = .ok (.iload_n 3, 1) := by decide +kernel
theorem dX9_year_22 : decode cX9_year 22 = .ok (.iconst 0, 1) := by decide +kernel
theorem dX9_year_23 : decode cX9_year 23 = .ok (.iconst 2, 1) := by decide +kernel
theorem dX9_year_24 : decode cX9_year 24 = .ok (.invokestatic 72, 3) := by decide +kernel
theorem dX9_year_27 : decode cX9_year 27 = .ok (.ifCond .ne 6, 3) := by decide +kernel
theorem dX9_year_30 : decode cX9_year 30 = .ok (.bipush (-2), 2) := by decide +kernel
theorem dX9_year_32 : decode cX9_year 32 = .ok (.ireturn, 1) := by decide +kernel
theorem dX9_year_33 : decode cX9_year 33 = .ok (.aload_n 0, 1) := by decide +kernel
theorem dX9_year_34 : decode cX9_year 34 = .ok (.invokevirtual 122, 3) := by decide +kernel
theorem dX9_year_37 : decode cX9_year 37 = .ok (.iload_n 1, 1) := by decide +kernel
theorem dX9_year_38 : decode cX9_year 38 = .ok (.istore 4, 2) := by decide +kernel
theorem dX9_year_40 : decode cX9_year 40 = .ok (.iconst 0, 1) := by decide +kernel
theorem dX9_year_41 : decode cX9_year 41 = .ok (.istore 5, 2) := by decide +kernel
theorem dX9_year_43 : decode cX9_year 43 = .ok (.aload_n 0, 1) := by decide +kernel
theorem dX9_year_44 : decode cX9_year 44 = .ok (.iconst 0, 1) := by decide +kernel
theorem dX9_year_45 : decode cX9_year 45 = .ok (.putfield 115, 3) := by decide +kernel
theorem dX9_year_48 : decode cX9_year 48 = .ok (.iconst 0, 1) := by decide +kernel
theorem dX9_year_49 : decode cX9_year 49 = .ok (.istore 6, 2) := by decide +kernel
theorem dX9_year_51 : decode cX9_year 51 = .ok (.iload 6, 2) := by decide +kernel
theorem dX9_year_53 : decode cX9_year 53 = .ok (.iload_n 2, 1) := by decide +kernel
theorem dX9_year_54 : decode cX9_year 54 = .ok (.if_icmp .ge 165, 3) := by decide +kernel
theorem dX9_year_57 : decode cX9_year 57 = .ok (.bipush 75, 2) := by decide +kernel
theorem dX9_year_59 : decode cX9_year 59 = .ok (.iload 4, 2) := by decide +kernel
theorem dX9_year_61 : decode cX9_year 61 = .ok (.imul, 1) := by decide +kernel
theorem dX9_year_62 : decode cX9_year 62 = .ok (.bipush 74, 2) := by decide +kernel
theorem dX9_year_64 : decode cX9_year 64 = .ok (.iadd, 1) := by decide +kernel
theorem dX9_year_65 : decode cX9_year 65 = .ok (.ldc 186, 2) := by decide +kernel
theorem dX9_year_67 : decode cX9_year 67 = .ok (.irem, 1) := by decide +kernel
theorem dX9_year_68 : decode cX9_year 68 = .ok (.istore 4, 2) := by decide +kernel
theorem dX9_year_70 : decode cX9_year 70 = .ok (.iload 4, 2) := by decide +kernel
theorem dX9_year_72 : decode cX9_year 72 = .ok (.iconst 4, 1) := by decide +kernel
theorem dX9_year_73 : decode cX9_year 73 = .ok (.irem, 1) := by decide +kernel
theorem dX9_year_74 : decode cX9_year 74 = .ok (.istore 7, 2) := by decide +kernel
theorem dX9_year_76 : decode cX9_year 76 = .ok (.iload 4, 2) := by decide +kernel
theorem dX9_year_78 : decode cX9_year 78 = .ok (.iconst 4, 1) := by decide +kernel
theorem dX9_year_79 : decode cX9_year 79 = .ok (.idiv, 1) := by decide +kernel
theorem dX9_year_80 : decode cX9_year 80 = .ok (.bipush 6, 2) := by decide +kernel
theorem dX9_year_82 : decode cX9_year 82 = .ok (.irem, 1) := by decide +kernel
theorem dX9_year_83 : decode cX9_year 83 = .ok (.istore 8, 2) := by decide +kernel
theorem dX9_year_85 : decode cX9_year 85 = .ok (.iload 7, 2) := by decide +kernel
theorem dX9_year_87 : decode cX9_year 87 = .ok (.ifCond .ne 10, 3) := by decide +kernel
theorem dX9_year_90 : decode cX9_year 90 = .ok (.aload_n 0, 1) := by decide +kernel
theorem dX9_year_91 : decode cX9_year 91 = .ok (.invokevirtual 134, 3) := by decide +kernel
theorem dX9_year_94 : decode cX9_year 94 = .ok (.goto 119, 3) := by decide +kernel
theorem dX9_year_97 : decode cX9_year 97 = .ok (.iload 7, 2) := by decide +kernel
theorem dX9_year_99 : decode cX9_year 99 = .ok (.iconst 1, 1) := by decide +kernel
theorem dX9_year_100 : decode cX9_year 100 = .ok (.if_icmp .ne 35, 3) := by decide +kernel
theorem dX9_year_103 : decode cX9_year 103 = .ok (.aload_n 0, 1) := by decide +kernel
theorem dX9_year_104 : decode cX9_year 104 = .ok (.iload 8, 2) := by decide +kernel
theorem dX9_year_106 : decode cX9_year 106 = .ok (.iload 4, 2) := by decide +kernel
theorem dX9_year_108 : decode cX9_year 108 = .ok (.bipush 32, 2) := by decide +kernel
theorem dX9_year_110 : decode cX9_year 110 = .ok (.idiv, 1) := by decide +kernel
theorem dX9_year_111 : decode cX9_year 111 = .ok (.iconst 3, 1) := by decide +kernel
theorem dX9_year_112 : decode cX9_year 112 = .ok (.irem, 1) := by decide +kernel
theorem dX9_year_113 : decode cX9_year 113 = .ok (.invokevirtual 143, 3) := by decide +kernel
theorem dX9_year_116 : decode cX9_year 116 = .ok (.ifCond .ne 19, 3) := by decide +kernel
theorem dX9_year_119 : decode cX9_year 119 = .ok (.aload_n 0, 1) := by decide +kernel
theorem dX9_year_120 : decode cX9_year 120 = .ok (.iload 8, 2) := by decide +kernel
theorem dX9_year_122 : decode cX9_year 122 = .ok (.iload 4, 2) := by decide +kernel
theorem dX9_year_124 : decode cX9_year 124 = .ok (.bipush 32, 2) := by decide +kernel
theorem dX9_year_126 : decode cX9_year 126 = .ok (.idiv, 1) := by decide +kernel
theorem dX9_year_127 : decode cX9_year 127 = .ok (.iconst 3, 1) := by decide +kernel
theorem dX9_year_128 : decode cX9_year 128 = .ok (.irem, 1) := by decide +kernel
theorem dX9_year_129 : decode cX9_year 129 = .ok (.invokevirtual 146, 3) := by decide +kernel
theorem dX9_year_132 : decode cX9_year 132 = .ok (.goto 81, 3) := by decide +kernel
theorem dX9_year_135 : decode cX9_year 135 = .ok (.iload 7, 2) := by decide +kernel
theorem dX9_year_137 : decode cX9_year 137 = .ok (.iconst 2, 1) := by decide +kernel
theorem dX9_year_138 : decode cX9_year 138 = .ok (.if_icmp .ne 30, 3) := by decide +kernel
theorem dX9_year_141 : decode cX9_year 141 = .ok (.aload_n 0, 1) := by decide +kernel
theorem dX9_year_142 : decode cX9_year 142 = .ok (.iload 8, 2) := by decide +kernel
theorem dX9_year_144 : decode cX9_year 144 = .ok (.invokevirtual 84, 3) := by decide +kernel
theorem dX9_year_147 : decode cX9_year 147 = .ok (.ifCond .eq 21, 3) := by decide +kernel
theorem dX9_year_150 : decode cX9_year 150 = .ok (.aload_n 0, 1) := by decide +kernel
theorem dX9_year_151 : decode cX9_year 151 = .ok (.getfield 35, 3) := by decide +kernel
theorem dX9_year_154 : decode cX9_year 154 = .ok (.iload 8, 2) := by decide +kernel
theorem dX9_year_156 : decode cX9_year 156 = .ok (.iload 4, 2) := by decide +kernel
theorem dX9_year_158 : decode cX9_year 158 = .ok (.bipush 32, 2) := by decide +kernel
theorem dX9_year_160 : decode cX9_year 160 = .ok (.idiv, 1) := by decide +kernel
theorem dX9_year_161 : decode cX9_year 161 = .ok (.bipush 10, 2) := by decide +kernel
theorem dX9_year_163 : decode cX9_year 163 = .ok (.irem, 1) := by decide +kernel
theorem dX9_year_164 : decode cX9_year 164 = .ok (.iastore, 1) := by decide +kernel
theorem dX9_year_165 : decode cX9_year 165 = .ok (.goto 48, 3) := by decide +kernel
theorem dX9_year_168 : decode cX9_year 168 = .ok (.iload 7, 2) := by decide +kernel
theorem dX9_year_170 : decode cX9_year 170 = .ok (.iconst 3, 1) := by decide +kernel
theorem dX9_year_171 : decode cX9_year 171 = .ok (.if_icmp .ne 42, 3) := by decide +kernel
theorem dX9_year_174 : decode cX9_year 174 = .ok (.aload_n 0, 1) := by decide +kernel
theorem dX9_year_175 : decode cX9_year 175 = .ok (.iload 4, 2) := by decide +kernel
theorem dX9_year_177 : decode cX9_year 177 = .ok (.bipush 64, 2) := by decide +kernel
theorem dX9_year_179 : decode cX9_year 179 = .ok (.idiv, 1) := by decide +kernel
theorem dX9_year_180 : decode cX9_year 180 = .ok (.iconst 3, 1) := by decide +kernel
theorem dX9_year_181 : decode cX9_year 181 = .ok (.irem, 1) := by decide +kernel
theorem dX9_year_182 : decode cX9_year 182 = .ok (.invokevirtual 137, 3) := by decide +kernel
theorem dX9_year_185 : decode cX9_year 185 = .ok (.ifCond .eq 28, 3) := by decide +kernel
theorem dX9_year_188 : decode cX9_year 188 = .ok (.iload 5, 2) := by decide +kernel
theorem dX9_year_190 : decode cX9_year 190 = .ok (.aload_n 0, 1) := by decide +kernel
theorem dX9_year_191 : decode cX9_year 191 = .ok (.iload 4, 2) := by decide +kernel
theorem dX9_year_193 : decode cX9_year 193 = .ok (.bipush 64, 2) := by decide +kernel
theorem dX9_year_195 : decode cX9_year 195 = .ok (.idiv, 1) := by decide +kernel
theorem dX9_year_196 : decode cX9_year 196 = .ok (.iconst 3, 1) := by decide +kernel
theorem dX9_year_197 : decode cX9_year 197 = .ok (.irem, 1) := by decide +kernel
theorem dX9_year_198 : decode cX9_year 198 = .ok (.iconst 1, 1) := by decide +kernel
theorem dX9_year_199 : decode cX9_year 199 = .ok (.iload 4, 2) := by decide +kernel
theorem dX9_year_201 : decode cX9_year 201 = .ok (.iconst 4, 1) := by decide +kernel
theorem dX9_year_202 : decode cX9_year 202 = .ok (.idiv, 1) := by decide +kernel
theorem dX9_year_203 : decode cX9_year 203 = .ok (.bipush 9, 2) := by decide +kernel
theorem dX9_year_205 : decode cX9_year 205 = .ok (.irem, 1) := by decide +kernel
theorem dX9_year_206 : decode cX9_year 206 = .ok (.iadd, 1) := by decide +kernel
theorem dX9_year_207 : decode cX9_year 207 = .ok (.invokevirtual 140, 3) := by decide +kernel
theorem dX9_year_210 : decode cX9_year 210 = .ok (.iadd, 1) := by decide +kernel
theorem dX9_year_211 : decode cX9_year 211 = .ok (.istore 5, 2) := by decide +kernel
theorem dX9_year_213 : decode cX9_year 213 = .ok (.iinc 6 1, 3) := by decide +kernel
theorem dX9_year_216 : decode cX9_year 216 = .ok (.goto (-165), 3) := by decide +kernel
theorem dX9_year_219 : decode cX9_year 219 = .ok (.iconst 0, 1) := by decide +kernel
theorem dX9_year_220 : decode cX9_year 220 = .ok (.istore 6, 2) := by decide +kernel
theorem dX9_year_222 : decode cX9_year 222 = .ok (.iconst 0, 1) := by decide +kernel
theorem dX9_year_223 : decode cX9_year 223 = .ok (.istore 7, 2) := by decide +kernel
theorem dX9_year_225 : decode cX9_year 225 = .ok (.iload 7, 2) := by decide +kernel
theorem dX9_year_227 : decode cX9_year 227 = .ok (.bipush 6, 2) := by decide +kernel
theorem dX9_year_229 : decode cX9_year 229 = .ok (.if_icmp .ge 37, 3) := by decide +kernel
theorem dX9_year_232 : decode cX9_year 232 = .ok (.iload 6, 2) := by decide +kernel
theorem dX9_year_234 : decode cX9_year 234 = .ok (.aload_n 0, 1) := by decide +kernel
theorem dX9_year_235 : decode cX9_year 235 = .ok (.getfield 69, 3) := by decide +kernel
theorem dX9_year_238 : decode cX9_year 238 = .ok (.iload 7, 2) := by decide +kernel
theorem dX9_year_240 : decode cX9_year 240 = .ok (.invokestatic 76, 3) := by decide +kernel
theorem dX9_year_243 : decode cX9_year 243 = .ok (.ifCond .eq 13, 3) := by decide +kernel
theorem dX9_year_246 : decode cX9_year 246 = .ok (.aload_n 0, 1) := by decide +kernel
theorem dX9_year_247 : decode cX9_year 247 = .ok (.getfield 32, 3) := by decide +kernel
theorem dX9_year_250 : decode cX9_year 250 = .ok (.iload 7, 2) := by decide +kernel
theorem dX9_year_252 : decode cX9_year 252 = .ok (.iaload, 1) := by decide +kernel
theorem dX9_year_253 : decode cX9_year 253 = .ok (.goto 4, 3) := by decide +kernel
theorem dX9_year_256 : decode cX9_year 256 = .ok (.iconst 0, 1) := by decide +kernel
theorem dX9_year_257 : decode cX9_year 257 = .ok (.iadd, 1) := by decide +kernel
theorem dX9_year_258 : decode cX9_year 258 = .ok (.istore 6, 2) := by decide +kernel
theorem dX9_year_260 : decode cX9_year 260 = .ok (.iinc 7 1, 3) := by decide +kernel
theorem dX9_year_263 : decode cX9_year 263 = .ok (.goto (-38), 3) := by decide +kernel
theorem dX9_year_266 : decode cX9_year 266 = .ok (.iload_n 3, 1) := by decide +kernel
theorem dX9_year_267 : decode cX9_year 267 = .ok (.ifCond .ne 8, 3) := by decide +kernel
theorem dX9_year_270 : decode cX9_year 270 = .ok (.iload 5, 2) := by decide +kernel
theorem dX9_year_272 : decode cX9_year 272 = .ok (.goto 17, 3) := by decide +kernel
theorem dX9_year_275 : decode cX9_year 275 = .ok (.iload_n 3, 1) := by decide +kernel
theorem dX9_year_276 : decode cX9_year 276 = .ok (.iconst 1, 1) := by decide +kernel
theorem dX9_year_277 : decode cX9_year 277 = .ok (.if_icmp .ne 10, 3) := by decide +kernel
theorem dX9_year_280 : decode cX9_year 280 = .ok (.aload_n 0, 1) := by decide +kernel
theorem dX9_year_281 : decode cX9_year 281 = .ok (.getfield 115, 3) := by decide +kernel
theorem dX9_year_284 : decode cX9_year 284 = .ok (.goto 5, 3) := by decide +kernel
theorem dX9_year_287 : decode cX9_year 287 = .ok (.iload 6, 2) := by decide +kernel
theorem dX9_year_289 : decode cX9_year 289 = .ok (.ireturn, 1) := by decide +kernel
set_option maxRecDepth 20000 in
theorem ggX9_image_X9_in : GoodIn wsX9_image wsX9_in := goodIn_r _ [14] (by decide +kernel) (by decide +kernel)
set_option maxRecDepth 20000 in
theorem gX9_image_X9_in : GoodIn wsX9_image (va_wsS RX9 72 yX9_in wsX9_in) := goodIn_app (goodIn_of _ (by decide +kernel)) ggX9_image_X9_in
theorem dX9_image_0 : decode cX9_image 0 = .ok (.iload_n 1, 1) := by decide +kernel
theorem dX9_image_1 : decode cX9_image 1 = .ok (.iconst 0, 1) := by decide +kernel
theorem dX9_image_2 : decode cX9_image 2 = .ok (.iconst 1, 1) := by decide +kernel
theorem dX9_image_3 : decode cX9_image 3 = .ok (.invokestatic 72, 3) := by decide +kernel
theorem dX9_image_6 : decode cX9_image 6 = .ok (.ifCond .ne 6, 3) := by decide +kernel
theorem dX9_image_9 : decode cX9_image 9 = .ok (.bipush (-2), 2) := by decide +kernel
theorem dX9_image_11 : decode cX9_image 11 = .ok (.ireturn, 1) := by decide +kernel
theorem dX9_image_12 : decode cX9_image 12 = .ok (.bipush 50, 2) := by decide +kernel
theorem dX9_image_14 : decode cX9_image 14 = .ok (.iload_n 1, 1) := by decide +kernel
theorem dX9_image_15 : decode cX9_image 15 = .ok (.imul, 1) := by decide +kernel
theorem dX9_image_16 : decode cX9_image 16 = .ok (.istore_n 2, 1) := by decide +kernel
theorem dX9_image_17 : decode cX9_image 17 = .ok (.iconst 0, 1) := by decide +kernel
theorem dX9_image_18 : decode cX9_image 18 = .ok (.istore_n 3, 1) := by decide +kernel
theorem dX9_image_19 : decode cX9_image 19 = .ok (.iload_n 3, 1) := by decide +kernel
theorem dX9_image_20 : decode cX9_image 20 = .ok (.bipush 6, 2) := by decide +kernel
theorem dX9_image_22 : decode cX9_image 22 = .ok (.if_icmp .ge 74, 3) := by decide +kernel
theorem dX9_image_25 : decode cX9_image 25 = .ok (.aload_n 0, 1) := by decide +kernel
theorem dX9_image_26 : decode cX9_image 26 = .ok (.getfield 62, 3) := by decide +kernel
theorem dX9_image_29 : decode cX9_image 29 = .ok (.iload_n 2, 1) := by decide +kernel
theorem dX9_image_30 : decode cX9_image 30 = .ok (.iload_n 3, 1) := by decide +kernel
theorem dX9_image_31 : decode cX9_image 31 = .ok (.iadd, 1) := by decide +kernel
theorem dX9_image_32 : decode cX9_image 32 = .ok (.aload_n 0, 1) := by decide +kernel
theorem dX9_image_33 : decode cX9_image 33 = .ok (.getfield 7, 3) := by decide +kernel
theorem dX9_image_36 : decode cX9_image 36 = .ok (.iload_n 3, 1) := by decide +kernel
theorem dX9_image_37 : decode cX9_image 37 = .ok (.iaload, 1) := by decide +kernel
theorem dX9_image_38 : decode cX9_image 38 = .ok (.iastore, 1) := by decide +kernel
theorem dX9_image_39 : decode cX9_image 39 = .ok (.aload_n 0, 1) := by decide +kernel
theorem dX9_image_40 : decode cX9_image 40 = .ok (.getfield 62, 3) := by decide +kernel
theorem dX9_image_43 : decode cX9_image 43 = .ok (.iload_n 2, 1) := by decide +kernel
theorem dX9_image_44 : decode cX9_image 44 = .ok (.bipush 6, 2) := by decide +kernel
theorem dX9_image_46 : decode cX9_image 46 = .ok (.iadd, 1) := by decide +kernel
theorem dX9_image_47 : decode cX9_image 47 = .ok (.iload_n 3, 1) := by decide +kernel
theorem dX9_image_48 : decode cX9_image 48 = .ok (.iadd, 1) := by decide +kernel
theorem dX9_image_49 : decode cX9_image 49 = .ok (.aload_n 0, 1) := by decide +kernel
theorem dX9_image_50 : decode cX9_image 50 = .ok (.getfield 13, 3) := by decide +kernel
theorem dX9_image_53 : decode cX9_image 53 = .ok (.iload_n 3, 1) := by decide +kernel
theorem dX9_image_54 : decode cX9_image 54 = .ok (.iaload, 1) := by decide +kernel
theorem dX9_image_55 : decode cX9_image 55 = .ok (.iastore, 1) := by decide +kernel
theorem dX9_image_56 : decode cX9_image 56 = .ok (.aload_n 0, 1) := by decide +kernel
theorem dX9_image_57 : decode cX9_image 57 = .ok (.getfield 62, 3) := by decide +kernel
theorem dX9_image_60 : decode cX9_image 60 = .ok (.iload_n 2, 1) := by decide +kernel
theorem dX9_image_61 : decode cX9_image 61 = .ok (.bipush 12, 2) := by decide +kernel
theorem dX9_image_63 : decode cX9_image 63 = .ok (.iadd, 1) := by decide +kernel
theorem dX9_image_64 : decode cX9_image 64 = .ok (.iload_n 3, 1) := by decide +kernel
theorem dX9_image_65 : decode cX9_image 65 = .ok (.iadd, 1) := by decide +kernel
theorem dX9_image_66 : decode cX9_image 66 = .ok (.aload_n 0, 1) := by decide +kernel
theorem dX9_image_67 : decode cX9_image 67 = .ok (.getfield 16, 3) := by decide +kernel
theorem dX9_image_70 : decode cX9_image 70 = .ok (.iload_n 3, 1) := by decide +kernel
theorem dX9_image_71 : decode cX9_image 71 = .ok (.iaload, 1) := by decide +kernel
theorem dX9_image_72 : decode cX9_image 72 = .ok (.iastore, 1) := by decide +kernel
theorem dX9_image_73 : decode cX9_image 73 = .ok (.aload_n 0, 1) := by decide +kernel
theorem dX9_image_74 : decode cX9_image 74 = .ok (.getfield 62, 3) := by decide +kernel
theorem dX9_image_77 : decode cX9_image 77 = .ok (.iload_n 2, 1) := by decide +kernel
theorem dX9_image_78 : decode cX9_image 78 = .ok (.bipush 18, 2) := by decide +kernel
theorem dX9_image_80 : decode cX9_image 80 = .ok (.iadd, 1) := by decide +kernel
theorem dX9_image_81 : decode cX9_image 81 = .ok (.iload_n 3, 1) := by decide +kernel
theorem dX9_image_82 : decode cX9_image 82 = .ok (.iadd, 1) := by decide +kernel
theorem dX9_image_83 : decode cX9_image 83 = .ok (.aload_n 0, 1) := by decide +kernel
theorem dX9_image_84 : decode cX9_image 84 = .ok (.getfield 23, 3) := by decide +kernel
theorem dX9_image_87 : decode cX9_image 87 = .ok (.iload_n 3, 1) := by decide +kernel
theorem dX9_image_88 : decode cX9_image 88 = .ok (.iaload, 1) := by decide +kernel
theorem dX9_image_89 : decode cX9_image 89 = .ok (.iastore, 1) := by decide +kernel
theorem dX9_image_90 : decode cX9_image 90 = .ok (.iinc 3 1, 3) := by decide +kernel
theorem dX9_image_93 : decode cX9_image 93 = .ok (.goto (-74), 3) := by decide +kernel
theorem dX9_image_96 : decode cX9_image 96 = .ok (.iconst 0, 1) := by decide +kernel
theorem dX9_image_97 : decode cX9_image 97 = .ok (.istore_n 3, 1) := by decide +kernel
theorem dX9_image_98 : decode cX9_image 98 = .ok (.iload_n 3, 1) := by decide +kernel
theorem dX9_image_99 : decode cX9_image 99 = .ok (.bipush 16, 2) := by decide +kernel
theorem dX9_image_101 : decode cX9_image 101 = .ok (.if_icmp .ge 26, 3) := by decide +kernel
theorem dX9_image_104 : decode cX9_image 104 = .ok (.aload_n 0, 1) := by decide +kernel
theorem dX9_image_105 : decode cX9_image 105 = .ok (.getfield 62, 3) := by decide +kernel
theorem dX9_image_108 : decode cX9_image 108 = .ok (.iload_n 2, 1) := by decide +kernel
theorem dX9_image_109 : decode cX9_image 109 = .ok (.bipush 24, 2) := by decide +kernel
theorem dX9_image_111 : decode cX9_image 111 = .ok (.iadd, 1) := by decide +kernel
theorem dX9_image_112 : decode cX9_image 112 = .ok (.iload_n 3, 1) := by decide +kernel
theorem dX9_image_113 : decode cX9_image 113 = .ok (.iadd, 1) := by decide +kernel
theorem dX9_image_114 : decode cX9_image 114 = .ok (.aload_n 0, 1) := by decide +kernel
theorem dX9_image_115 : decode cX9_image 115 = .ok (.getfield 26, 3) := by decide +kernel
theorem dX9_image_118 : decode cX9_image 118 = .ok (.iload_n 3, 1) := by decide +kernel
theorem dX9_image_119 : decode cX9_image 119 = .ok (.iaload, 1) := by decide +kernel
theorem dX9_image_120 : decode cX9_image 120 = .ok (.iastore, 1) := by decide +kernel
theorem dX9_image_121 : decode cX9_image 121 = .ok (.iinc 3 1, 3) := by decide +kernel
theorem dX9_image_124 : decode cX9_image 124 = .ok (.goto (-26), 3) := by decide +kernel
theorem dX9_image_127 : decode cX9_image 127 = .ok (.aload_n 0, 1) := by decide +kernel
theorem dX9_image_128 : decode cX9_image 128 = .ok (.getfield 62, 3) := by decide +kernel
theorem dX9_image_131 : decode cX9_image 131 = .ok (.iload_n 2, 1) := by decide +kernel
theorem dX9_image_132 : decode cX9_image 132 = .ok (.bipush 40, 2) := by decide +kernel
theorem dX9_image_134 : decode cX9_image 134 = .ok (.iadd, 1) := by decide +kernel
theorem dX9_image_135 : decode cX9_image 135 = .ok (.aload_n 0, 1) := by decide +kernel
theorem dX9_image_136 : decode cX9_image 136 = .ok (.getfield 69, 3) := by decide +kernel
theorem dX9_image_139 : decode cX9_image 139 = .ok (.iastore, 1) := by decide +kernel
theorem dX9_image_140 : decode cX9_image 140 = .ok (.aload_n 0, 1) := by decide +kernel
theorem dX9_image_141 : decode cX9_image 141 = .ok (.getfield 62, 3) := by decide +kernel
theorem dX9_image_144 : decode cX9_image 144 = .ok (.iload_n 2, 1) := by decide +kernel
theorem dX9_image_145 : decode cX9_image 145 = .ok (.bipush 41, 2) := by decide +kernel
theorem dX9_image_147 : decode cX9_image 147 = .ok (.iadd, 1) := by decide +kernel
theorem dX9_image_148 : decode cX9_image 148 = .ok (.aload_n 0, 1) := by decide +kernel
theorem dX9_image_149 : decode cX9_image 149 = .ok (.getfield 19, 3) := by decide +kernel
theorem dX9_image_152 : decode cX9_image 152 = .ok (.iastore, 1) := by decide +kernel
theorem dX9_image_153 : decode cX9_image 153 = .ok (.aload_n 0, 1) := by decide +kernel
theorem dX9_image_154 : decode cX9_image 154 = .ok (.getfield 62, 3) := by decide +kernel
theorem dX9_image_157 : decode cX9_image 157 = .ok (.iload_n 2, 1) := by decide +kernel
theorem dX9_image_158 : decode cX9_image 158 = .ok (.bipush 42, 2) := by decide +kernel
theorem dX9_image_160 : decode cX9_image 160 = .ok (.iadd, 1) := by decide +kernel
theorem dX9_image_161 : decode cX9_image 161 = .ok (.aload_n 0, 1) := by decide +kernel
theorem dX9_image_162 : decode cX9_image 162 = .ok (.getfield 163, 3) := by decide +kernel
theorem dX9_image_165 : decode cX9_image 165 = .ok (.iastore, 1) := by decide +kernel
theorem dX9_image_166 : decode cX9_image 166 = .ok (.aload_n 0, 1) := by decide +kernel
theorem dX9_image_167 : decode cX9_image 167 = .ok (.getfield 65, 3) := by decide +kernel
theorem dX9_image_170 : decode cX9_image 170 = .ok (.iload_n 1, 1) := by decide +kernel
theorem dX9_image_171 : decode cX9_image 171 = .ok (.iconst 1, 1) := by decide +kernel
theorem dX9_image_172 : decode cX9_image 172 = .ok (.bastore, 1) := by decide +kernel
theorem dX9_image_173 : decode cX9_image 173 = .ok (.iconst 1, 1) := by decide +kernel
theorem dX9_image_174 : decode cX9_image 174 = .ok (.ireturn, 1) := by decide +kernel
set_option maxRecDepth 20000 in
theorem ggX9_restore_X9_in : GoodIn wsX9_restore wsX9_in := goodIn_r _ [14] (by decide +kernel) (by decide +kernel)
set_option maxRecDepth 20000 in
theorem gX9_restore_X9_in : GoodIn wsX9_restore (va_wsS RX9 72 yX9_in wsX9_in) := goodIn_app (goodIn_of _ (by decide +kernel)) ggX9_restore_X9_in
theorem dX9_restore_0 : decode cX9_restore 0 = .ok (.iload_n 1, 1) := by decide +kernel
theorem dX9_restore_1 : decode cX9_restore 1 = .ok (.iconst 0, 1) := by decide +kernel
theorem dX9_restore_2 : decode cX9_restore 2 = .ok (.iconst 1, 1) := by decide +kernel
theorem dX9_restore_3 : decode cX9_restore 3 = .ok (.invokestatic 72, 3) := by decide +kernel
theorem dX9_restore_6 : decode cX9_restore 6 = .ok (.ifCond .ne 6, 3) := by decide +kernel
theorem dX9_restore_9 : decode cX9_restore 9 = .ok (.bipush (-2), 2) := by decide +kernel
theorem dX9_restore_11 : decode cX9_restore 11 = .ok (.ireturn, 1) := by decide +kernel
theorem dX9_restore_12 : decode cX9_restore 12 = .ok (.aload_n 0, 1) := by decide +kernel
theorem dX9_restore_13 : decode cX9_restore 13 = .ok (.getfield 65, 3) := by decide +kernel
theorem dX9_restore_16 : decode cX9_restore 16 = .ok (.iload_n 1, 1) := by decide +kernel
theorem dX9_restore_17 : decode cX9_restore 17 = .ok (.baload, 1) := by decide +kernel
theorem dX9_restore_18 : decode cX9_restore 18 = .ok (.ifCond .ne 6, 3) := by decide +kernel
theorem dX9_restore_21 : decode cX9_restore 21 = .ok (.bipush (-3), 2) := by decide +kernel
theorem dX9_restore_23 : decode cX9_restore 23 = .ok (.ireturn, 1) := by decide +kernel
theorem dX9_restore_24 : decode cX9_restore 24 = .ok (.bipush 50, 2) := by decide +kernel
theorem dX9_restore_26 : decode cX9_restore 26 = .ok (.iload_n 1, 1) := by decide +kernel
theorem dX9_restore_27 : decode cX9_restore 27 = .ok (.imul, 1) := by decide +kernel
theorem dX9_restore_28 : decode cX9_restore 28 = .ok (.istore_n 2, 1) := by decide +kernel
theorem dX9_restore_29 : decode cX9_restore 29 = .ok (.iconst 0, 1) := by decide +kernel
theorem dX9_restore_30 : decode cX9_restore 30 = .ok (.istore_n 3, 1) := by decide +kernel
theorem dX9_restore_31 : decode cX9_restore 31 = .ok (.iload_n 3, 1) := by decide +kernel
theorem dX9_restore_32 : decode cX9_restore 32 = .ok (.bipush 6, 2) := by decide +kernel
theorem dX9_restore_34 : decode cX9_restore 34 = .ok (.if_icmp .ge 74, 3) := by decide +kernel
theorem dX9_restore_37 : decode cX9_restore 37 = .ok (.aload_n 0, 1) := by decide +kernel
theorem dX9_restore_38 : decode cX9_restore 38 = .ok (.getfield 7, 3) := by decide +kernel
theorem dX9_restore_41 : decode cX9_restore 41 = .ok (.iload_n 3, 1) := by decide +kernel
theorem dX9_restore_42 : decode cX9_restore 42 = .ok (.aload_n 0, 1) := by decide +kernel
theorem dX9_restore_43 : decode cX9_restore 43 = .ok (.getfield 62, 3) := by decide +kernel
theorem dX9_restore_46 : decode cX9_restore 46 = .ok (.iload_n 2, 1) := by decide +kernel
theorem dX9_restore_47 : decode cX9_restore 47 = .ok (.iload_n 3, 1) := by decide +kernel
theorem dX9_restore_48 : decode cX9_restore 48 = .ok (.iadd, 1) := by decide +kernel
theorem dX9_restore_49 : decode cX9_restore 49 = .ok (.iaload, 1) := by decide +kernel
theorem dX9_restore_50 : decode cX9_restore 50 = .ok (.iastore, 1) := by decide +kernel
theorem dX9_restore_51 : decode cX9_restore 51 = .ok (.aload_n 0, 1) := by decide +kernel
theorem dX9_restore_52 : decode cX9_restore 52 = .ok (.getfield 13, 3) := by decide +kernel
theorem dX9_restore_55 : decode cX9_restore 55 = .ok (.iload_n 3, 1) := by decide +kernel
theorem dX9_restore_56 : decode cX9_restore 56 = .ok (.aload_n 0, 1) := by decide +kernel
theorem dX9_restore_57 : decode cX9_restore 57 = .ok (.getfield 62, 3) := by decide +kernel
theorem dX9_restore_60 : decode cX9_restore 60 = .ok (.iload_n 2, 1) := by decide +kernel
theorem dX9_restore_61 : decode cX9_restore 61 = .ok (.bipush 6, 2) := by decide +kernel
theorem dX9_restore_63 : decode cX9_restore 63 = .ok (.iadd, 1) := by decide +kernel
theorem dX9_restore_64 : decode cX9_restore 64 = .ok (.iload_n 3, 1) := by decide +kernel
theorem dX9_restore_65 : decode cX9_restore 65 = .ok (.iadd, 1) := by decide +kernel
theorem dX9_restore_66 : decode cX9_restore 66 = .ok (.iaload, 1) := by decide +kernel
theorem dX9_restore_67 : decode cX9_restore 67 = .ok (.iastore, 1) := by decide +kernel
theorem dX9_restore_68 : decode cX9_restore 68 = .ok (.aload_n 0, 1) := by decide +kernel
theorem dX9_restore_69 : decode cX9_restore 69 = .ok (.getfield 16, 3) := by decide +kernel
theorem dX9_restore_72 : decode cX9_restore 72 = .ok (.iload_n 3, 1) := by decide +kernel
theorem dX9_restore_73 : decode cX9_restore 73 = .ok (.aload_n 0, 1) := by decide +kernel
theorem dX9_restore_74 : decode cX9_restore 74 = .ok (.getfield 62, 3) := by decide +kernel
theorem dX9_restore_77 : decode cX9_restore 77 = .ok (.iload_n 2, 1) := by decide +kernel
theorem dX9_restore_78 : decode cX9_restore 78 = .ok (.bipush 12, 2) := by decide +kernel
theorem dX9_restore_80 : decode cX9_restore 80 = .ok (.iadd, 1) := by decide +kernel
theorem dX9_restore_81 : decode cX9_restore 81 = .ok (.iload_n 3, 1) := by decide +kernel
theorem dX9_restore_82 : decode cX9_restore 82 = .ok (.iadd, 1) := by decide +kernel
theorem dX9_restore_83 : decode cX9_restore 83 = .ok (.iaload, 1) := by decide +kernel
theorem dX9_restore_84 : decode cX9_restore 84 = .ok (.iastore, 1) := by decide +kernel
theorem dX9_restore_85 : decode cX9_restore 85 = .ok (.aload_n 0, 1) := by decide +kernel
theorem dX9_restore_86 : decode cX9_restore 86 = .ok (.getfield 23, 3) := by decide +kernel
theorem dX9_restore_89 : decode cX9_restore 89 = .ok (.iload_n 3, 1) := by decide +kernel
theorem dX9_restore_90 : decode cX9_restore 90 = .ok (.aload_n 0, 1) := by decide +kernel
theorem dX9_restore_91 : decode cX9_restore 91 = .ok (.getfield 62, 3) := by decide +kernel
theorem dX9_restore_94 : decode cX9_restore 94 = .ok (.iload_n 2, 1) := by decide +kernel
theorem dX9_restore_95 : decode cX9_restore 95 = .ok (.bipush 18, 2) := by decide +kernel
theorem dX9_restore_97 : decode cX9_restore 97 = .ok (.iadd, 1) := by decide +kernel
theorem dX9_restore_98 : decode cX9_restore 98 = .ok (.iload_n 3, 1) := by decide +kernel
theorem dX9_restore_99 : decode cX9_restore 99 = .ok (.iadd, 1) := by decide +kernel
theorem dX9_restore_100 : decode cX9_restore 100 = .ok (.iaload, 1) := by decide +kernel
theorem dX9_restore_101 : decode cX9_restore 101 = .ok (.iastore, 1) := by decide +kernel
theorem dX9_restore_102 : decode cX9_restore 102 = .ok (.iinc 3 1, 3) := by decide +kernel
theorem dX9_restore_105 : decode cX9_restore 105 = .ok (.goto (-74), 3) := by decide +kernel
theorem dX9_restore_108 : decode cX9_restore 108 = .ok (.iconst 0, 1) := by decide +kernel
theorem dX9_restore_109 : decode cX9_restore 109 = .ok (.istore_n 3, 1) := by decide +kernel
theorem dX9_restore_110 : decode cX9_restore 110 = .ok (.iload_n 3, 1) := by decide +kernel
theorem dX9_restore_111 : decode cX9_restore 111 = .ok (.bipush 16, 2) := by decide +kernel
theorem dX9_restore_113 : decode cX9_restore 113 = .ok (.if_icmp .ge 26, 3) := by decide +kernel
theorem dX9_restore_116 : decode cX9_restore 116 = .ok (.aload_n 0, 1) := by decide +kernel
theorem dX9_restore_117 : decode cX9_restore 117 = .ok (.getfield 26, 3) := by decide +kernel
theorem dX9_restore_120 : decode cX9_restore 120 = .ok (.iload_n 3, 1) := by decide +kernel
theorem dX9_restore_121 : decode cX9_restore 121 = .ok (.aload_n 0, 1) := by decide +kernel
theorem dX9_restore_122 : decode cX9_restore 122 = .ok (.getfield 62, 3) := by decide +kernel
theorem dX9_restore_125 : decode cX9_restore 125 = .ok (.iload_n 2, 1) := by decide +kernel
theorem dX9_restore_126 : decode cX9_restore 126 = .ok (.bipush 24, 2) := by decide +kernel
theorem dX9_restore_128 : decode cX9_restore 128 = .ok (.iadd, 1) := by decide +kernel
theorem dX9_restore_129 : decode cX9_restore 129 = .ok (.iload_n 3, 1) := by decide +kernel
theorem dX9_restore_130 : decode cX9_restore 130 = .ok (.iadd, 1) := by decide +kernel
theorem dX9_restore_131 : decode cX9_restore 131 = .ok (.iaload, 1) := by decide +kernel
theorem dX9_restore_132 : decode cX9_restore 132 = .ok (.iastore, 1) := by decide +kernel
theorem dX9_restore_133 : decode cX9_restore 133 = .ok (.iinc 3 1, 3) := by decide +kernel
theorem dX9_restore_136 : decode cX9_restore 136 = .ok (.goto (-26), 3) := by decide +kernel
theorem dX9_restore_139 : decode cX9_restore 139 = .ok (.aload_n 0, 1) := by decide +kernel
theorem dX9_restore_140 : decode cX9_restore 140 = .ok (.aload_n 0, 1) := by decide +kernel
theorem dX9_restore_141 : decode cX9_restore 141 = .ok (.getfield 62, 3) := by decide +kernel
theorem dX9_restore_144 : decode cX9_restore 144 = .ok (.iload_n 2, 1) := by decide +kernel
theorem dX9_restore_145 : decode cX9_restore 145 = .ok (.bipush 40, 2) := by decide +kernel
theorem dX9_restore_147 : decode cX9_restore 147 = .ok (.iadd, 1) := by decide +kernel
theorem dX9_restore_148 : decode cX9_restore 148 = .ok (.iaload, 1) := by decide +kernel
theorem dX9_restore_149 : decode cX9_restore 149 = .ok (.putfield 69, 3) := by decide +kernel
theorem dX9_restore_152 : decode cX9_restore 152 = .ok (.aload_n 0, 1) := by decide +kernel
theorem dX9_restore_153 : decode cX9_restore 153 = .ok (.aload_n 0, 1) := by decide +kernel
theorem dX9_restore_154 : decode cX9_restore 154 = .ok (.getfield 62, 3) := by decide +kernel
theorem dX9_restore_157 : decode cX9_restore 157 = .ok (.iload_n 2, 1) := by decide +kernel
theorem dX9_restore_158 : decode cX9_restore 158 = .ok (.bipush 41, 2) := by decide +kernel
theorem dX9_restore_160 : decode cX9_restore 160 = .ok (.iadd, 1) := by decide +kernel
theorem dX9_restore_161 : decode cX9_restore 161 = .ok (.iaload, 1) := by decide +kernel
theorem dX9_restore_162 : decode cX9_restore 162 = .ok (.putfield 19, 3) := by decide +kernel
theorem dX9_restore_165 : decode cX9_restore 165 = .ok (.aload_n 0, 1) := by decide +kernel
theorem dX9_restore_166 : decode cX9_restore 166 = .ok (.aload_n 0, 1) := by decide +kernel
theorem dX9_restore_167 : decode cX9_restore 167 = .ok (.getfield 62, 3) := by decide +kernel
theorem dX9_restore_170 : decode cX9_restore 170 = .ok (.iload_n 2, 1) := by decide +kernel
theorem dX9_restore_171 : decode cX9_restore 171 = .ok (.bipush 42, 2) := by decide +kernel
theorem dX9_restore_173 : decode cX9_restore 173 = .ok (.iadd, 1) := by decide +kernel
theorem dX9_restore_174 : decode cX9_restore 174 = .ok (.iaload, 1) := by decide +kernel
theorem dX9_restore_175 : decode cX9_restore 175 = .ok (.putfield 163, 3) := by decide +kernel
theorem dX9_restore_178 : decode cX9_restore 178 = .ok (.iconst 1, 1) := by decide +kernel
theorem dX9_restore_179 : decode cX9_restore 179 = .ok (.ireturn, 1) := by decide +kernel
set_option maxRecDepth 20000 in
theorem ggX9_told_X9_isThere : GoodIn wsX9_told wsX9_isThere := goodIn_r _ [10, 3, 11, 12, 9, 13, 14, 15, 16, 25, 26, 27, 28, 29, 30, 31, 32, 33, 34, 35, 36, 37, 38, 39, 40, 41, 42, 43, 44, 45, 46, 47, 48, 49, 50, 51] (by decide +kernel) (by decide +kernel)
set_option maxRecDepth 20000 in
theorem gX9_told_X9_isThere : GoodIn wsX9_told (wsV RX9 84 RX9 yX9_isThere wsX9_isThere) := goodIn_app (goodIn_of _ (by decide +kernel)) ggX9_told_X9_isThere
set_option maxRecDepth 20000 in
theorem ggX9_told_X9_manyFeuds : GoodIn wsX9_told wsX9_manyFeuds := goodIn_r _ [20, 21, 22, 23, 9, 24, 25, 26, 27, 28, 29, 30, 31, 32, 33, 34, 35, 36, 37, 38, 39, 40, 41, 42, 43, 44, 45, 46, 47, 48, 49, 50, 51] (by decide +kernel) (by decide +kernel)
set_option maxRecDepth 20000 in
theorem gX9_told_X9_manyFeuds : GoodIn wsX9_told (wsV RX9 88 RX9 yX9_manyFeuds wsX9_manyFeuds) := goodIn_app (goodIn_of _ (by decide +kernel)) ggX9_told_X9_manyFeuds
theorem dX9_told_0 : decode cX9_told 0 = .ok (.iload_n 1, 1) := by decide +kernel
theorem dX9_told_1 : decode cX9_told 1 = .ok (.bipush 10, 2) := by decide +kernel
theorem dX9_told_3 : decode cX9_told 3 = .ok (.if_icmp .lt 29, 3) := by decide +kernel
theorem dX9_told_6 : decode cX9_told 6 = .ok (.aload_n 0, 1) := by decide +kernel
theorem dX9_told_7 : decode cX9_told 7 = .ok (.iload_n 1, 1) := by decide +kernel
theorem dX9_told_8 : decode cX9_told 8 = .ok (.bipush 10, 2) := by decide +kernel
theorem dX9_told_10 : decode cX9_told 10 = .ok (.isub, 1) := by decide +kernel
theorem dX9_told_11 : decode cX9_told 11 = .ok (.invokevirtual 84, 3) := by decide +kernel
theorem dX9_told_14 : decode cX9_told 14 = .ok (.ifCond .eq 15, 3) := by decide +kernel
theorem dX9_told_17 : decode cX9_told 17 = .ok (.aload_n 0, 1) := by decide +kernel
theorem dX9_told_18 : decode cX9_told 18 = .ok (.getfield 13, 3) := by decide +kernel
theorem dX9_told_21 : decode cX9_told 21 = .ok (.iload_n 1, 1) := by decide +kernel
theorem dX9_told_22 : decode cX9_told 22 = .ok (.bipush 10, 2) := by decide +kernel
theorem dX9_told_24 : decode cX9_told 24 = .ok (.isub, 1) := by decide +kernel
theorem dX9_told_25 : decode cX9_told 25 = .ok (.iaload, 1) := by decide +kernel
theorem dX9_told_26 : decode cX9_told 26 = .ok (.goto 5, 3) := by decide +kernel
theorem dX9_told_29 : decode cX9_told 29 = .ok (.bipush (-2), 2) := by decide +kernel
theorem dX9_told_31 : decode cX9_told 31 = .ok (.ireturn, 1) := by decide +kernel
theorem dX9_told_32 : decode cX9_told 32 = .ok (.iload_n 1, 1) := by decide +kernel
theorem dX9_told_33 : decode cX9_told 33 = .ok (.tableswitch 51 0 3 #[31, 36, 41, 46], 31) := by decide +kernel
theorem dX9_told_64 : decode cX9_told 64 = .ok (.aload_n 0, 1) := by decide +kernel
theorem dX9_told_65 : decode cX9_told 65 = .ok (.getfield 92, 3) := by decide +kernel
theorem dX9_told_68 : decode cX9_told 68 = .ok (.ireturn, 1) := by decide +kernel
theorem dX9_told_69 : decode cX9_told 69 = .ok (.aload_n 0, 1) := by decide +kernel
theorem dX9_told_70 : decode cX9_told 70 = .ok (.getfield 69, 3) := by decide +kernel
theorem dX9_told_73 : decode cX9_told 73 = .ok (.ireturn, 1) := by decide +kernel
theorem dX9_told_74 : decode cX9_told 74 = .ok (.aload_n 0, 1) := by decide +kernel
theorem dX9_told_75 : decode cX9_told 75 = .ok (.getfield 19, 3) := by decide +kernel
theorem dX9_told_78 : decode cX9_told 78 = .ok (.ireturn, 1) := by decide +kernel
theorem dX9_told_79 : decode cX9_told 79 = .ok (.aload_n 0, 1) := by decide +kernel
theorem dX9_told_80 : decode cX9_told 80 = .ok (.getfield 163, 3) := by decide +kernel
theorem dX9_told_83 : decode cX9_told 83 = .ok (.ireturn, 1) := by decide +kernel
theorem dX9_told_84 : decode cX9_told 84 = .ok (.iload_n 1, 1) := by decide +kernel
theorem dX9_told_85 : decode cX9_told 85 = .ok (.iconst 4, 1) := by decide +kernel
theorem dX9_told_86 : decode cX9_told 86 = .ok (.if_icmp .ne 10, 3) := by decide +kernel
theorem dX9_told_89 : decode cX9_told 89 = .ok (.aload_n 0, 1) := by decide +kernel
theorem dX9_told_90 : decode cX9_told 90 = .ok (.invokevirtual 88, 3) := by decide +kernel
theorem dX9_told_93 : decode cX9_told 93 = .ok (.goto 5, 3) := by decide +kernel
theorem dX9_told_96 : decode cX9_told 96 = .ok (.bipush (-2), 2) := by decide +kernel
theorem dX9_told_98 : decode cX9_told 98 = .ok (.ireturn, 1) := by decide +kernel
theorem dJ6_bitCount_0f7a4_0 : decode cJ6_bitCount_0f7a4 0 = .ok (.iload_n 0, 1) := by decide +kernel
theorem dJ6_bitCount_0f7a4_1 : decode cJ6_bitCount_0f7a4 1 = .ok (.iload_n 0, 1) := by decide +kernel
theorem dJ6_bitCount_0f7a4_2 : decode cJ6_bitCount_0f7a4 2 = .ok (.iconst 1, 1) := by decide +kernel
theorem dJ6_bitCount_0f7a4_3 : decode cJ6_bitCount_0f7a4 3 = .ok (.iushr, 1) := by decide +kernel
theorem dJ6_bitCount_0f7a4_4 : decode cJ6_bitCount_0f7a4 4 = .ok (.ldc_w 265, 3) := by decide +kernel
theorem dJ6_bitCount_0f7a4_7 : decode cJ6_bitCount_0f7a4 7 = .ok (.iand, 1) := by decide +kernel
theorem dJ6_bitCount_0f7a4_8 : decode cJ6_bitCount_0f7a4 8 = .ok (.isub, 1) := by decide +kernel
theorem dJ6_bitCount_0f7a4_9 : decode cJ6_bitCount_0f7a4 9 = .ok (.istore_n 0, 1) := by decide +kernel
theorem dJ6_bitCount_0f7a4_10 : decode cJ6_bitCount_0f7a4 10 = .ok (.iload_n 0, 1) := by decide +kernel
theorem dJ6_bitCount_0f7a4_11 : decode cJ6_bitCount_0f7a4 11 = .ok (.ldc_w 266, 3) := by decide +kernel
theorem dJ6_bitCount_0f7a4_14 : decode cJ6_bitCount_0f7a4 14 = .ok (.iand, 1) := by decide +kernel
theorem dJ6_bitCount_0f7a4_15 : decode cJ6_bitCount_0f7a4 15 = .ok (.iload_n 0, 1) := by decide +kernel
theorem dJ6_bitCount_0f7a4_16 : decode cJ6_bitCount_0f7a4 16 = .ok (.iconst 2, 1) := by decide +kernel
theorem dJ6_bitCount_0f7a4_17 : decode cJ6_bitCount_0f7a4 17 = .ok (.iushr, 1) := by decide +kernel
theorem dJ6_bitCount_0f7a4_18 : decode cJ6_bitCount_0f7a4 18 = .ok (.ldc_w 266, 3) := by decide +kernel
theorem dJ6_bitCount_0f7a4_21 : decode cJ6_bitCount_0f7a4 21 = .ok (.iand, 1) := by decide +kernel
theorem dJ6_bitCount_0f7a4_22 : decode cJ6_bitCount_0f7a4 22 = .ok (.iadd, 1) := by decide +kernel
theorem dJ6_bitCount_0f7a4_23 : decode cJ6_bitCount_0f7a4 23 = .ok (.istore_n 0, 1) := by decide +kernel
theorem dJ6_bitCount_0f7a4_24 : decode cJ6_bitCount_0f7a4 24 = .ok (.iload_n 0, 1) := by decide +kernel
theorem dJ6_bitCount_0f7a4_25 : decode cJ6_bitCount_0f7a4 25 = .ok (.iload_n 0, 1) := by decide +kernel
theorem dJ6_bitCount_0f7a4_26 : decode cJ6_bitCount_0f7a4 26 = .ok (.iconst 4, 1) := by decide +kernel
theorem dJ6_bitCount_0f7a4_27 : decode cJ6_bitCount_0f7a4 27 = .ok (.iushr, 1) := by decide +kernel
theorem dJ6_bitCount_0f7a4_28 : decode cJ6_bitCount_0f7a4 28 = .ok (.iadd, 1) := by decide +kernel
theorem dJ6_bitCount_0f7a4_29 : decode cJ6_bitCount_0f7a4 29 = .ok (.ldc_w 267, 3) := by decide +kernel
theorem dJ6_bitCount_0f7a4_32 : decode cJ6_bitCount_0f7a4 32 = .ok (.iand, 1) := by decide +kernel
theorem dJ6_bitCount_0f7a4_33 : decode cJ6_bitCount_0f7a4 33 = .ok (.istore_n 0, 1) := by decide +kernel
theorem dJ6_bitCount_0f7a4_34 : decode cJ6_bitCount_0f7a4 34 = .ok (.iload_n 0, 1) := by decide +kernel
theorem dJ6_bitCount_0f7a4_35 : decode cJ6_bitCount_0f7a4 35 = .ok (.iload_n 0, 1) := by decide +kernel
theorem dJ6_bitCount_0f7a4_36 : decode cJ6_bitCount_0f7a4 36 = .ok (.bipush 8, 2) := by decide +kernel
theorem dJ6_bitCount_0f7a4_38 : decode cJ6_bitCount_0f7a4 38 = .ok (.iushr, 1) := by decide +kernel
theorem dJ6_bitCount_0f7a4_39 : decode cJ6_bitCount_0f7a4 39 = .ok (.iadd, 1) := by decide +kernel
theorem dJ6_bitCount_0f7a4_40 : decode cJ6_bitCount_0f7a4 40 = .ok (.istore_n 0, 1) := by decide +kernel
theorem dJ6_bitCount_0f7a4_41 : decode cJ6_bitCount_0f7a4 41 = .ok (.iload_n 0, 1) := by decide +kernel
theorem dJ6_bitCount_0f7a4_42 : decode cJ6_bitCount_0f7a4 42 = .ok (.iload_n 0, 1) := by decide +kernel
theorem dJ6_bitCount_0f7a4_43 : decode cJ6_bitCount_0f7a4 43 = .ok (.bipush 16, 2) := by decide +kernel
theorem dJ6_bitCount_0f7a4_45 : decode cJ6_bitCount_0f7a4 45 = .ok (.iushr, 1) := by decide +kernel
theorem dJ6_bitCount_0f7a4_46 : decode cJ6_bitCount_0f7a4 46 = .ok (.iadd, 1) := by decide +kernel
theorem dJ6_bitCount_0f7a4_47 : decode cJ6_bitCount_0f7a4 47 = .ok (.istore_n 0, 1) := by decide +kernel
theorem dJ6_bitCount_0f7a4_48 : decode cJ6_bitCount_0f7a4 48 = .ok (.iload_n 0, 1) := by decide +kernel
theorem dJ6_bitCount_0f7a4_49 : decode cJ6_bitCount_0f7a4 49 = .ok (.bipush 63, 2) := by decide +kernel
theorem dJ6_bitCount_0f7a4_51 : decode cJ6_bitCount_0f7a4 51 = .ok (.iand, 1) := by decide +kernel
theorem dJ6_bitCount_0f7a4_52 : decode cJ6_bitCount_0f7a4 52 = .ok (.ireturn, 1) := by decide +kernel
theorem dJ9_max_7cf53_0 : decode cJ9_max_7cf53 0 = .ok (.iload_n 0, 1) := by decide +kernel
theorem dJ9_max_7cf53_1 : decode cJ9_max_7cf53 1 = .ok (.iload_n 1, 1) := by decide +kernel
theorem dJ9_max_7cf53_2 : decode cJ9_max_7cf53 2 = .ok (.if_icmp .lt 7, 3) := by decide +kernel
theorem dJ9_max_7cf53_5 : decode cJ9_max_7cf53 5 = .ok (.iload_n 0, 1) := by decide +kernel
theorem dJ9_max_7cf53_6 : decode cJ9_max_7cf53 6 = .ok (.goto 4, 3) := by decide +kernel
theorem dJ9_max_7cf53_9 : decode cJ9_max_7cf53 9 = .ok (.iload_n 1, 1) := by decide +kernel
theorem dJ9_max_7cf53_10 : decode cJ9_max_7cf53 10 = .ok (.ireturn, 1) := by decide +kernel
theorem dJ9_min_7cf53_0 : decode cJ9_min_7cf53 0 = .ok (.iload_n 0, 1) := by decide +kernel
theorem dJ9_min_7cf53_1 : decode cJ9_min_7cf53 1 = .ok (.iload_n 1, 1) := by decide +kernel
theorem dJ9_min_7cf53_2 : decode cJ9_min_7cf53 2 = .ok (.if_icmp .gt 7, 3) := by decide +kernel
theorem dJ9_min_7cf53_5 : decode cJ9_min_7cf53 5 = .ok (.iload_n 0, 1) := by decide +kernel
theorem dJ9_min_7cf53_6 : decode cJ9_min_7cf53 6 = .ok (.goto 4, 3) := by decide +kernel
theorem dJ9_min_7cf53_9 : decode cJ9_min_7cf53 9 = .ok (.iload_n 1, 1) := by decide +kernel
theorem dJ9_min_7cf53_10 : decode cJ9_min_7cf53 10 = .ok (.ireturn, 1) := by decide +kernel
theorem dJ7_fill_53178_0 : decode cJ7_fill_53178 0 = .ok (.iconst 0, 1) := by decide +kernel
theorem dJ7_fill_53178_1 : decode cJ7_fill_53178 1 = .ok (.istore_n 2, 1) := by decide +kernel
theorem dJ7_fill_53178_2 : decode cJ7_fill_53178 2 = .ok (.aload_n 0, 1) := by decide +kernel
theorem dJ7_fill_53178_3 : decode cJ7_fill_53178 3 = .ok (.arraylength, 1) := by decide +kernel
theorem dJ7_fill_53178_4 : decode cJ7_fill_53178 4 = .ok (.istore_n 3, 1) := by decide +kernel
theorem dJ7_fill_53178_5 : decode cJ7_fill_53178 5 = .ok (.iload_n 2, 1) := by decide +kernel
theorem dJ7_fill_53178_6 : decode cJ7_fill_53178 6 = .ok (.iload_n 3, 1) := by decide +kernel
theorem dJ7_fill_53178_7 : decode cJ7_fill_53178 7 = .ok (.if_icmp .ge 13, 3) := by decide +kernel
theorem dJ7_fill_53178_10 : decode cJ7_fill_53178 10 = .ok (.aload_n 0, 1) := by decide +kernel
theorem dJ7_fill_53178_11 : decode cJ7_fill_53178 11 = .ok (.iload_n 2, 1) := by decide +kernel
theorem dJ7_fill_53178_12 : decode cJ7_fill_53178 12 = .ok (.iload_n 1, 1) := by decide +kernel
theorem dJ7_fill_53178_13 : decode cJ7_fill_53178 13 = .ok (.iastore, 1) := by decide +kernel
theorem dJ7_fill_53178_14 : decode cJ7_fill_53178 14 = .ok (.iinc 2 1, 3) := by decide +kernel
theorem dJ7_fill_53178_17 : decode cJ7_fill_53178 17 = .ok (.goto (-12), 3) := by decide +kernel
theorem dJ7_fill_53178_20 : decode cJ7_fill_53178 20 = .ok (.return_, 1) := by decide +kernel
