theorem dX6_build_209 : decode cX6_build 209 = .ok (.iload 9, 2) := by decide +kernel
theorem dX6_build_211 : decode cX6_build 211 = .ok (.iconst 1, 1) := by decide +kernel
theorem dX6_build_212 : decode cX6_build 212 = .ok (.iadd, 1) := by decide +kernel
theorem dX6_build_213 : decode cX6_build 213 = .ok (.iload 8, 2) := by decide +kernel
theorem dX6_build_215 : decode cX6_build 215 = .ok (.iadd, 1) := by decide +kernel
theorem dX6_build_216 : decode cX6_build 216 = .ok (.iconst 2, 1) := by decide +kernel
theorem dX6_build_217 : decode cX6_build 217 = .ok (.idiv, 1) := by decide +kernel
theorem dX6_build_218 : decode cX6_build 218 = .ok (.iaload, 1) := by decide +kernel
theorem dX6_build_219 : decode cX6_build 219 = .ok (.goto 4, 3) := by decide +kernel
theorem dX6_build_222 : decode cX6_build 222 = .ok (.iconst (-1), 1) := by decide +kernel
theorem dX6_build_223 : decode cX6_build 223 = .ok (.iastore, 1) := by decide +kernel
theorem dX6_build_224 : decode cX6_build 224 = .ok (.iload 7, 2) := by decide +kernel
theorem dX6_build_226 : decode cX6_build 226 = .ok (.iload 9, 2) := by decide +kernel
theorem dX6_build_228 : decode cX6_build 228 = .ok (.if_icmp .ge 35, 3) := by decide +kernel
theorem dX6_build_231 : decode cX6_build 231 = .ok (.aload_n 0, 1) := by decide +kernel
theorem dX6_build_232 : decode cX6_build 232 = .ok (.getfield 52, 3) := by decide +kernel
theorem dX6_build_235 : decode cX6_build 235 = .ok (.iload 5, 2) := by decide +kernel
theorem dX6_build_237 : decode cX6_build 237 = .ok (.iload 7, 2) := by decide +kernel
theorem dX6_build_239 : decode cX6_build 239 = .ok (.iastore, 1) := by decide +kernel
theorem dX6_build_240 : decode cX6_build 240 = .ok (.aload_n 0, 1) := by decide +kernel
theorem dX6_build_241 : decode cX6_build 241 = .ok (.getfield 55, 3) := by decide +kernel
theorem dX6_build_244 : decode cX6_build 244 = .ok (.iload 5, 2) := by decide +kernel
theorem dX6_build_246 : decode cX6_build 246 = .ok (.iload 9, 2) := by decide +kernel
theorem dX6_build_248 : decode cX6_build 248 = .ok (.iconst 1, 1) := by decide +kernel
theorem dX6_build_249 : decode cX6_build 249 = .ok (.isub, 1) := by decide +kernel
theorem dX6_build_250 : decode cX6_build 250 = .ok (.iastore, 1) := by decide +kernel
theorem dX6_build_251 : decode cX6_build 251 = .ok (.aload_n 0, 1) := by decide +kernel
theorem dX6_build_252 : decode cX6_build 252 = .ok (.getfield 58, 3) := by decide +kernel
theorem dX6_build_255 : decode cX6_build 255 = .ok (.iload 5, 2) := by decide +kernel
theorem dX6_build_257 : decode cX6_build 257 = .ok (.iload 10, 2) := by decide +kernel
theorem dX6_build_259 : decode cX6_build 259 = .ok (.iastore, 1) := by decide +kernel
theorem dX6_build_260 : decode cX6_build 260 = .ok (.iinc 5 1, 3) := by decide +kernel
theorem dX6_build_263 : decode cX6_build 263 = .ok (.iload 9, 2) := by decide +kernel
theorem dX6_build_265 : decode cX6_build 265 = .ok (.iload 8, 2) := by decide +kernel
theorem dX6_build_267 : decode cX6_build 267 = .ok (.if_icmp .ge 35, 3) := by decide +kernel
theorem dX6_build_270 : decode cX6_build 270 = .ok (.aload_n 0, 1) := by decide +kernel
theorem dX6_build_271 : decode cX6_build 271 = .ok (.getfield 52, 3) := by decide +kernel
theorem dX6_build_274 : decode cX6_build 274 = .ok (.iload 5, 2) := by decide +kernel
theorem dX6_build_276 : decode cX6_build 276 = .ok (.iload 9, 2) := by decide +kernel
theorem dX6_build_278 : decode cX6_build 278 = .ok (.iconst 1, 1) := by decide +kernel
theorem dX6_build_279 : decode cX6_build 279 = .ok (.iadd, 1) := by decide +kernel
theorem dX6_build_280 : decode cX6_build 280 = .ok (.iastore, 1) := by decide +kernel
theorem dX6_build_281 : decode cX6_build 281 = .ok (.aload_n 0, 1) := by decide +kernel
theorem dX6_build_282 : decode cX6_build 282 = .ok (.getfield 55, 3) := by decide +kernel
theorem dX6_build_285 : decode cX6_build 285 = .ok (.iload 5, 2) := by decide +kernel
theorem dX6_build_287 : decode cX6_build 287 = .ok (.iload 8, 2) := by decide +kernel
theorem dX6_build_289 : decode cX6_build 289 = .ok (.iastore, 1) := by decide +kernel
theorem dX6_build_290 : decode cX6_build 290 = .ok (.aload_n 0, 1) := by decide +kernel
theorem dX6_build_291 : decode cX6_build 291 = .ok (.getfield 58, 3) := by decide +kernel
theorem dX6_build_294 : decode cX6_build 294 = .ok (.iload 5, 2) := by decide +kernel
theorem dX6_build_296 : decode cX6_build 296 = .ok (.iload 10, 2) := by decide +kernel
theorem dX6_build_298 : decode cX6_build 298 = .ok (.iastore, 1) := by decide +kernel
theorem dX6_build_299 : decode cX6_build 299 = .ok (.iinc 5 1, 3) := by decide +kernel
theorem dX6_build_302 : decode cX6_build 302 = .ok (.iinc 6 1, 3) := by decide +kernel
theorem dX6_build_305 : decode cX6_build 305 = .ok (.goto (-217), 3) := by decide +kernel
theorem dX6_build_308 : decode cX6_build 308 = .ok (.aload_n 0, 1) := by decide +kernel
theorem dX6_build_309 : decode cX6_build 309 = .ok (.getfield 34, 3) := by decide +kernel
theorem dX6_build_312 : decode cX6_build 312 = .ok (.iload_n 1, 1) := by decide +kernel
theorem dX6_build_313 : decode cX6_build 313 = .ok (.dup2, 1) := by decide +kernel
theorem dX6_build_314 : decode cX6_build 314 = .ok (.iaload, 1) := by decide +kernel
theorem dX6_build_315 : decode cX6_build 315 = .ok (.iconst 1, 1) := by decide +kernel
theorem dX6_build_316 : decode cX6_build 316 = .ok (.iadd, 1) := by decide +kernel
theorem dX6_build_317 : decode cX6_build 317 = .ok (.iastore, 1) := by decide +kernel
theorem dX6_build_318 : decode cX6_build 318 = .ok (.aload_n 0, 1) := by decide +kernel
theorem dX6_build_319 : decode cX6_build 319 = .ok (.getfield 37, 3) := by decide +kernel
theorem dX6_build_322 : decode cX6_build 322 = .ok (.iload_n 1, 1) := by decide +kernel
theorem dX6_build_323 : decode cX6_build 323 = .ok (.dup2, 1) := by decide +kernel
theorem dX6_build_324 : decode cX6_build 324 = .ok (.iaload, 1) := by decide +kernel
theorem dX6_build_325 : decode cX6_build 325 = .ok (.aload_n 0, 1) := by decide +kernel
theorem dX6_build_326 : decode cX6_build 326 = .ok (.getfield 171, 3) := by decide +kernel
theorem dX6_build_329 : decode cX6_build 329 = .ok (.iadd, 1) := by decide +kernel
theorem dX6_build_330 : decode cX6_build 330 = .ok (.iastore, 1) := by decide +kernel
theorem dX6_build_331 : decode cX6_build 331 = .ok (.aload_n 0, 1) := by decide +kernel
theorem dX6_build_332 : decode cX6_build 332 = .ok (.iload_n 1, 1) := by decide +kernel
theorem dX6_build_333 : decode cX6_build 333 = .ok (.iconst 0, 1) := by decide +kernel
theorem dX6_build_334 : decode cX6_build 334 = .ok (.aload_n 0, 1) := by decide +kernel
theorem dX6_build_335 : decode cX6_build 335 = .ok (.getfield 171, 3) := by decide +kernel
theorem dX6_build_338 : decode cX6_build 338 = .ok (.isub, 1) := by decide +kernel
theorem dX6_build_339 : decode cX6_build 339 = .ok (.invokevirtual 181, 3) := by decide +kernel
theorem dX6_build_342 : decode cX6_build 342 = .ok (.return_, 1) := by decide +kernel
theorem dX6_pay_0 : decode cX6_pay 0 = .ok (.iload_n 1, 1) := by decide +kernel
theorem dX6_pay_1 : decode cX6_pay 1 = .ok (.ifCond .ne 39, 3) := by decide +kernel
theorem dX6_pay_4 : decode cX6_pay 4 = .ok (.aload_n 0, 1) := by decide +kernel
theorem dX6_pay_5 : decode cX6_pay 5 = .ok (.dup, 1) := by decide +kernel
theorem dX6_pay_6 : decode cX6_pay 6 = .ok (.getfield 184, 3) := by decide +kernel
theorem dX6_pay_9 : decode cX6_pay 9 = .ok (.iload_n 2, 1) := by decide +kernel
theorem dX6_pay_10 : decode cX6_pay 10 = .ok (.iadd, 1) := by decide +kernel
theorem dX6_pay_11 : decode cX6_pay 11 = .ok (.putfield 184, 3) := by decide +kernel
theorem dX6_pay_14 : decode cX6_pay 14 = .ok (.aload_n 0, 1) := by decide +kernel
theorem dX6_pay_15 : decode cX6_pay 15 = .ok (.aload_n 0, 1) := by decide +kernel
theorem dX6_pay_16 : decode cX6_pay 16 = .ok (.getfield 184, 3) := by decide +kernel
theorem dX6_pay_19 : decode cX6_pay 19 = .ok (.aload_n 0, 1) := by decide +kernel
theorem dX6_pay_20 : decode cX6_pay 20 = .ok (.getfield 187, 3) := by decide +kernel
theorem dX6_pay_23 : decode cX6_pay 23 = .ok (.if_icmp .ge 10, 3) := by decide +kernel
theorem dX6_pay_26 : decode cX6_pay 26 = .ok (.aload_n 0, 1) := by decide +kernel
theorem dX6_pay_27 : decode cX6_pay 27 = .ok (.getfield 184, 3) := by decide +kernel
theorem dX6_pay_30 : decode cX6_pay 30 = .ok (.goto 7, 3) := by decide +kernel
theorem dX6_pay_33 : decode cX6_pay 33 = .ok (.aload_n 0, 1) := by decide +kernel
theorem dX6_pay_34 : decode cX6_pay 34 = .ok (.getfield 187, 3) := by decide +kernel
theorem dX6_pay_37 : decode cX6_pay 37 = .ok (.putfield 187, 3) := by decide +kernel
theorem dX6_pay_40 : decode cX6_pay 40 = .ok (.return_, 1) := by decide +kernel
set_option maxRecDepth 20000 in
theorem ggX6_insert_X6_hang : GoodIn wsX6_insert wsX6_hang := goodIn_r _ [11, 12, 1, 13, 14, 15, 16, 17, 18, 19, 20, 21, 22, 23, 24, 25, 26, 27, 28, 29, 30, 31, 32, 33, 34, 35, 36, 37, 38, 39, 40, 41, 42, 43, 44, 45, 46, 47, 48, 49, 50, 51, 52, 53, 54, 55, 56, 57, 58, 59, 60, 61, 62] rfl (by decide +kernel)
set_option maxRecDepth 20000 in
theorem gX6_insert_X6_hang : GoodIn wsX6_insert (wsV RX6 164 RX6 yX6_hang wsX6_hang) := goodIn_app (goodIn_of _ (by decide +kernel)) ggX6_insert_X6_hang
theorem dX6_insert_0 : decode cX6_insert 0 = .ok (.iconst (-1), 1) := by decide +kernel
theorem dX6_insert_1 : decode cX6_insert 1 = .ok (.istore_n 3, 1) := by decide +kernel
theorem dX6_insert_2 : decode cX6_insert 2 = .ok (.aload_n 0, 1) := by decide +kernel
theorem dX6_insert_3 : decode cX6_insert 3 = .ok (.getfield 25, 3) := by decide +kernel
theorem dX6_insert_6 : decode cX6_insert 6 = .ok (.iload_n 1, 1) := by decide +kernel
theorem dX6_insert_7 : decode cX6_insert 7 = .ok (.iaload, 1) := by decide +kernel
theorem dX6_insert_8 : decode cX6_insert 8 = .ok (.istore 4, 2) := by decide +kernel
theorem dX6_insert_10 : decode cX6_insert 10 = .ok (.iload 4, 2) := by decide +kernel
theorem dX6_insert_12 : decode cX6_insert 12 = .ok (.iconst (-1), 1) := by decide +kernel
theorem dX6_insert_13 : decode cX6_insert 13 = .ok (.if_icmp .eq 44, 3) := by decide +kernel
theorem dX6_insert_16 : decode cX6_insert 16 = .ok (.iload 4, 2) := by decide +kernel
theorem dX6_insert_18 : decode cX6_insert 18 = .ok (.istore_n 3, 1) := by decide +kernel
theorem dX6_insert_19 : decode cX6_insert 19 = .ok (.iload_n 2, 1) := by decide +kernel
theorem dX6_insert_20 : decode cX6_insert 20 = .ok (.iload 4, 2) := by decide +kernel
theorem dX6_insert_22 : decode cX6_insert 22 = .ok (.if_icmp .ge 18, 3) := by decide +kernel
theorem dX6_insert_25 : decode cX6_insert 25 = .ok (.aload_n 0, 1) := by decide +kernel
theorem dX6_insert_26 : decode cX6_insert 26 = .ok (.getfield 13, 3) := by decide +kernel
theorem dX6_insert_29 : decode cX6_insert 29 = .ok (.bipush 100, 2) := by decide +kernel
theorem dX6_insert_31 : decode cX6_insert 31 = .ok (.iload_n 1, 1) := by decide +kernel
theorem dX6_insert_32 : decode cX6_insert 32 = .ok (.imul, 1) := by decide +kernel
theorem dX6_insert_33 : decode cX6_insert 33 = .ok (.iload 4, 2) := by decide +kernel
theorem dX6_insert_35 : decode cX6_insert 35 = .ok (.iadd, 1) := by decide +kernel
theorem dX6_insert_36 : decode cX6_insert 36 = .ok (.iaload, 1) := by decide +kernel
theorem dX6_insert_37 : decode cX6_insert 37 = .ok (.goto 15, 3) := by decide +kernel
theorem dX6_insert_40 : decode cX6_insert 40 = .ok (.aload_n 0, 1) := by decide +kernel
theorem dX6_insert_41 : decode cX6_insert 41 = .ok (.getfield 16, 3) := by decide +kernel
theorem dX6_insert_44 : decode cX6_insert 44 = .ok (.bipush 100, 2) := by decide +kernel
theorem dX6_insert_46 : decode cX6_insert 46 = .ok (.iload_n 1, 1) := by decide +kernel
theorem dX6_insert_47 : decode cX6_insert 47 = .ok (.imul, 1) := by decide +kernel
theorem dX6_insert_48 : decode cX6_insert 48 = .ok (.iload 4, 2) := by decide +kernel
theorem dX6_insert_50 : decode cX6_insert 50 = .ok (.iadd, 1) := by decide +kernel
theorem dX6_insert_51 : decode cX6_insert 51 = .ok (.iaload, 1) := by decide +kernel
theorem dX6_insert_52 : decode cX6_insert 52 = .ok (.istore 4, 2) := by decide +kernel
theorem dX6_insert_54 : decode cX6_insert 54 = .ok (.goto (-44), 3) := by decide +kernel
theorem dX6_insert_57 : decode cX6_insert 57 = .ok (.aload_n 0, 1) := by decide +kernel
theorem dX6_insert_58 : decode cX6_insert 58 = .ok (.getfield 13, 3) := by decide +kernel
theorem dX6_insert_61 : decode cX6_insert 61 = .ok (.bipush 100, 2) := by decide +kernel
theorem dX6_insert_63 : decode cX6_insert 63 = .ok (.iload_n 1, 1) := by decide +kernel
theorem dX6_insert_64 : decode cX6_insert 64 = .ok (.imul, 1) := by decide +kernel
theorem dX6_insert_65 : decode cX6_insert 65 = .ok (.iload_n 2, 1) := by decide +kernel
theorem dX6_insert_66 : decode cX6_insert 66 = .ok (.iadd, 1) := by decide +kernel
theorem dX6_insert_67 : decode cX6_insert 67 = .ok (.iconst (-1), 1) := by decide +kernel
theorem dX6_insert_68 : decode cX6_insert 68 = .ok (.iastore, 1) := by decide +kernel
theorem dX6_insert_69 : decode cX6_insert 69 = .ok (.aload_n 0, 1) := by decide +kernel
theorem dX6_insert_70 : decode cX6_insert 70 = .ok (.getfield 16, 3) := by decide +kernel
theorem dX6_insert_73 : decode cX6_insert 73 = .ok (.bipush 100, 2) := by decide +kernel
theorem dX6_insert_75 : decode cX6_insert 75 = .ok (.iload_n 1, 1) := by decide +kernel
theorem dX6_insert_76 : decode cX6_insert 76 = .ok (.imul, 1) := by decide +kernel
theorem dX6_insert_77 : decode cX6_insert 77 = .ok (.iload_n 2, 1) := by decide +kernel
theorem dX6_insert_78 : decode cX6_insert 78 = .ok (.iadd, 1) := by decide +kernel
theorem dX6_insert_79 : decode cX6_insert 79 = .ok (.iconst (-1), 1) := by decide +kernel
theorem dX6_insert_80 : decode cX6_insert 80 = .ok (.iastore, 1) := by decide +kernel
theorem dX6_insert_81 : decode cX6_insert 81 = .ok (.aload_n 0, 1) := by decide +kernel
theorem dX6_insert_82 : decode cX6_insert 82 = .ok (.getfield 22, 3) := by decide +kernel
theorem dX6_insert_85 : decode cX6_insert 85 = .ok (.bipush 100, 2) := by decide +kernel
theorem dX6_insert_87 : decode cX6_insert 87 = .ok (.iload_n 1, 1) := by decide +kernel
theorem dX6_insert_88 : decode cX6_insert 88 = .ok (.imul, 1) := by decide +kernel
theorem dX6_insert_89 : decode cX6_insert 89 = .ok (.iload_n 2, 1) := by decide +kernel
theorem dX6_insert_90 : decode cX6_insert 90 = .ok (.iadd, 1) := by decide +kernel
theorem dX6_insert_91 : decode cX6_insert 91 = .ok (.iconst 1, 1) := by decide +kernel
theorem dX6_insert_92 : decode cX6_insert 92 = .ok (.iastore, 1) := by decide +kernel
theorem dX6_insert_93 : decode cX6_insert 93 = .ok (.iload_n 3, 1) := by decide +kernel
theorem dX6_insert_94 : decode cX6_insert 94 = .ok (.iconst (-1), 1) := by decide +kernel
theorem dX6_insert_95 : decode cX6_insert 95 = .ok (.if_icmp .eq 23, 3) := by decide +kernel
theorem dX6_insert_98 : decode cX6_insert 98 = .ok (.iload_n 2, 1) := by decide +kernel
theorem dX6_insert_99 : decode cX6_insert 99 = .ok (.iload_n 3, 1) := by decide +kernel
theorem dX6_insert_100 : decode cX6_insert 100 = .ok (.if_icmp .ge 18, 3) := by decide +kernel
theorem dX6_insert_103 : decode cX6_insert 103 = .ok (.aload_n 0, 1) := by decide +kernel
theorem dX6_insert_104 : decode cX6_insert 104 = .ok (.getfield 13, 3) := by decide +kernel
theorem dX6_insert_107 : decode cX6_insert 107 = .ok (.bipush 100, 2) := by decide +kernel
theorem dX6_insert_109 : decode cX6_insert 109 = .ok (.iload_n 1, 1) := by decide +kernel
theorem dX6_insert_110 : decode cX6_insert 110 = .ok (.imul, 1) := by decide +kernel
theorem dX6_insert_111 : decode cX6_insert 111 = .ok (.iload_n 3, 1) := by decide +kernel
theorem dX6_insert_112 : decode cX6_insert 112 = .ok (.iadd, 1) := by decide +kernel
theorem dX6_insert_113 : decode cX6_insert 113 = .ok (.iload_n 2, 1) := by decide +kernel
theorem dX6_insert_114 : decode cX6_insert 114 = .ok (.iastore, 1) := by decide +kernel
theorem dX6_insert_115 : decode cX6_insert 115 = .ok (.goto 20, 3) := by decide +kernel
theorem dX6_insert_118 : decode cX6_insert 118 = .ok (.iload_n 3, 1) := by decide +kernel
theorem dX6_insert_119 : decode cX6_insert 119 = .ok (.iconst (-1), 1) := by decide +kernel
theorem dX6_insert_120 : decode cX6_insert 120 = .ok (.if_icmp .eq 15, 3) := by decide +kernel
theorem dX6_insert_123 : decode cX6_insert 123 = .ok (.aload_n 0, 1) := by decide +kernel
theorem dX6_insert_124 : decode cX6_insert 124 = .ok (.getfield 16, 3) := by decide +kernel
theorem dX6_insert_127 : decode cX6_insert 127 = .ok (.bipush 100, 2) := by decide +kernel
theorem dX6_insert_129 : decode cX6_insert 129 = .ok (.iload_n 1, 1) := by decide +kernel
theorem dX6_insert_130 : decode cX6_insert 130 = .ok (.imul, 1) := by decide +kernel
theorem dX6_insert_131 : decode cX6_insert 131 = .ok (.iload_n 3, 1) := by decide +kernel
theorem dX6_insert_132 : decode cX6_insert 132 = .ok (.iadd, 1) := by decide +kernel
theorem dX6_insert_133 : decode cX6_insert 133 = .ok (.iload_n 2, 1) := by decide +kernel
theorem dX6_insert_134 : decode cX6_insert 134 = .ok (.iastore, 1) := by decide +kernel
theorem dX6_insert_135 : decode cX6_insert 135 = .ok (.aload_n 0, 1) := by decide +kernel
theorem dX6_insert_136 : decode cX6_insert 136 = .ok (.iload_n 1, 1) := by decide +kernel
theorem dX6_insert_137 : decode cX6_insert 137 = .ok (.iload_n 2, 1) := by decide +kernel
theorem dX6_insert_138 : decode cX6_insert 138 = .ok (.iload_n 3, 1) := by decide +kernel
theorem dX6_insert_139 : decode cX6_insert 139 = .ok (.invokevirtual 164, 3) := by decide +kernel
theorem dX6_insert_142 : decode cX6_insert 142 = .ok (.aload_n 0, 1) := by decide +kernel
theorem dX6_insert_143 : decode cX6_insert 143 = .ok (.getfield 28, 3) := by decide +kernel
theorem dX6_insert_146 : decode cX6_insert 146 = .ok (.iload_n 1, 1) := by decide +kernel
theorem dX6_insert_147 : decode cX6_insert 147 = .ok (.dup2, 1) := by decide +kernel
theorem dX6_insert_148 : decode cX6_insert 148 = .ok (.iaload, 1) := by decide +kernel
theorem dX6_insert_149 : decode cX6_insert 149 = .ok (.iconst 1, 1) := by decide +kernel
theorem dX6_insert_150 : decode cX6_insert 150 = .ok (.iadd, 1) := by decide +kernel
theorem dX6_insert_151 : decode cX6_insert 151 = .ok (.iastore, 1) := by decide +kernel
theorem dX6_insert_152 : decode cX6_insert 152 = .ok (.aload_n 0, 1) := by decide +kernel
theorem dX6_insert_153 : decode cX6_insert 153 = .ok (.getfield 31, 3) := by decide +kernel
theorem dX6_insert_156 : decode cX6_insert 156 = .ok (.iload_n 1, 1) := by decide +kernel
theorem dX6_insert_157 : decode cX6_insert 157 = .ok (.aload_n 0, 1) := by decide +kernel
theorem dX6_insert_158 : decode cX6_insert 158 = .ok (.getfield 28, 3) := by decide +kernel
theorem dX6_insert_161 : decode cX6_insert 161 = .ok (.iload_n 1, 1) := by decide +kernel
theorem dX6_insert_162 : decode cX6_insert 162 = .ok (.iaload, 1) := by decide +kernel
theorem dX6_insert_163 : decode cX6_insert 163 = .ok (.aload_n 0, 1) := by decide +kernel
theorem dX6_insert_164 : decode cX6_insert 164 = .ok (.getfield 31, 3) := by decide +kernel
theorem dX6_insert_167 : decode cX6_insert 167 = .ok (.iload_n 1, 1) := by decide +kernel
theorem dX6_insert_168 : decode cX6_insert 168 = .ok (.iaload, 1) := by decide +kernel
theorem dX6_insert_169 : decode cX6_insert 169 = .ok (.if_icmp .le 12, 3) := by decide +kernel
theorem dX6_insert_172 : decode cX6_insert 172 = .ok (.aload_n 0, 1) := by decide +kernel
theorem dX6_insert_173 : decode cX6_insert 173 = .ok (.getfield 28, 3) := by decide +kernel
theorem dX6_insert_176 : decode cX6_insert 176 = .ok (.iload_n 1, 1) := by decide +kernel
theorem dX6_insert_177 : decode cX6_insert 177 = .ok (.iaload, 1) := by decide +kernel
theorem dX6_insert_178 : decode cX6_insert 178 = .ok (.goto 9, 3) := by decide +kernel
theorem dX6_insert_181 : decode cX6_insert 181 = .ok (.aload_n 0, 1) := by decide +kernel
theorem dX6_insert_182 : decode cX6_insert 182 = .ok (.getfield 31, 3) := by decide +kernel
theorem dX6_insert_185 : decode cX6_insert 185 = .ok (.iload_n 1, 1) := by decide +kernel
theorem dX6_insert_186 : decode cX6_insert 186 = .ok (.iaload, 1) := by decide +kernel
theorem dX6_insert_187 : decode cX6_insert 187 = .ok (.iastore, 1) := by decide +kernel
theorem dX6_insert_188 : decode cX6_insert 188 = .ok (.return_, 1) := by decide +kernel
set_option maxRecDepth 20000 in
theorem ggX6_isLopsided_X6_a : GoodIn wsX6_isLopsided wsX6_a := goodIn_r _ [7, 8, 9, 26, 27, 28, 29, 30, 31, 32, 33, 34, 35, 36, 37, 38, 39, 40, 41, 42, 43, 44, 45, 46, 47, 48, 49, 50, 51, 52, 53, 54, 55, 56, 57, 58, 59, 60, 61, 62, 63, 64, 65, 66, 67, 68, 69, 70, 71, 72, 73, 74, 75] rfl (by decide +kernel)
set_option maxRecDepth 20000 in
theorem gX6_isLopsided_X6_a : GoodIn wsX6_isLopsided (wsV RX6 161 RX6 yX6_a wsX6_a) := goodIn_app (goodIn_of _ (by decide +kernel)) ggX6_isLopsided_X6_a
set_option maxRecDepth 20000 in
theorem ggX6_isLopsided_X6_size : GoodIn wsX6_isLopsided wsX6_size := goodIn_r _ [13, 14, 15, 16, 17, 6, 18, 19, 26, 27, 28, 29, 30, 31, 32, 33, 34, 35, 36, 37, 38, 39, 40, 41, 42, 43, 44, 45, 46, 47, 48, 49, 50, 51, 52, 53, 54, 55, 56, 57, 58, 59, 60, 61, 62, 63, 64, 65, 66, 67, 68, 69, 70, 71, 72, 73, 74, 75] rfl (by decide +kernel)
set_option maxRecDepth 20000 in
theorem gX6_isLopsided_X6_size : GoodIn wsX6_isLopsided (wsV RX6 168 RX6 yX6_size wsX6_size) := goodIn_app (goodIn_of _ (by decide +kernel)) ggX6_isLopsided_X6_size
set_option maxRecDepth 20000 in
theorem ggX6_isLopsided_X6_b : GoodIn wsX6_isLopsided wsX6_b := goodIn_r _ [23, 24, 25, 26, 27, 28, 29, 30, 31, 32, 33, 34, 35, 36, 37, 38, 39, 40, 41, 42, 43, 44, 45, 46, 47, 48, 49, 50, 51, 52, 53, 54, 55, 56, 57, 58, 59, 60, 61, 62, 63, 64, 65, 66, 67, 68, 69, 70, 71, 72, 73, 74, 75] rfl (by decide +kernel)
set_option maxRecDepth 20000 in
theorem gX6_isLopsided_X6_b : GoodIn wsX6_isLopsided (wsV RX6 158 RX6 yX6_b wsX6_b) := goodIn_app (goodIn_of _ (by decide +kernel)) ggX6_isLopsided_X6_b
theorem dX6_isLopsided_0 : decode cX6_isLopsided 0 = .ok (.aload_n 0, 1) := by decide +kernel
theorem dX6_isLopsided_1 : decode cX6_isLopsided 1 = .ok (.iload_n 1, 1) := by decide +kernel
theorem dX6_isLopsided_2 : decode cX6_isLopsided 2 = .ok (.invokevirtual 161, 3) := by decide +kernel
theorem dX6_isLopsided_5 : decode cX6_isLopsided 5 = .ok (.aload_n 0, 1) := by decide +kernel
theorem dX6_isLopsided_6 : decode cX6_isLopsided 6 = .ok (.iload_n 1, 1) := by decide +kernel
theorem dX6_isLopsided_7 : decode cX6_isLopsided 7 = .ok (.iload_n 2, 1) := by decide +kernel
theorem dX6_isLopsided_8 : decode cX6_isLopsided 8 = .ok (.invokevirtual 168, 3) := by decide +kernel
theorem dX6_isLopsided_11 : decode cX6_isLopsided 11 = .ok (.imul, 1) := by decide +kernel
theorem dX6_isLopsided_12 : decode cX6_isLopsided 12 = .ok (.istore_n 3, 1) := by decide +kernel
theorem dX6_isLopsided_13 : decode cX6_isLopsided 13 = .ok (.aload_n 0, 1) := by decide +kernel
theorem dX6_isLopsided_14 : decode cX6_isLopsided 14 = .ok (.iload_n 1, 1) := by decide +kernel
theorem dX6_isLopsided_15 : decode cX6_isLopsided 15 = .ok (.invokevirtual 158, 3) := by decide +kernel
theorem dX6_isLopsided_18 : decode cX6_isLopsided 18 = .ok (.aload_n 0, 1) := by decide +kernel
theorem dX6_isLopsided_19 : decode cX6_isLopsided 19 = .ok (.iload_n 1, 1) := by decide +kernel
theorem dX6_isLopsided_20 : decode cX6_isLopsided 20 = .ok (.aload_n 0, 1) := by decide +kernel
theorem dX6_isLopsided_21 : decode cX6_isLopsided 21 = .ok (.getfield 13, 3) := by decide +kernel
theorem dX6_isLopsided_24 : decode cX6_isLopsided 24 = .ok (.bipush 100, 2) := by decide +kernel
theorem dX6_isLopsided_26 : decode cX6_isLopsided 26 = .ok (.iload_n 1, 1) := by decide +kernel
theorem dX6_isLopsided_27 : decode cX6_isLopsided 27 = .ok (.imul, 1) := by decide +kernel
theorem dX6_isLopsided_28 : decode cX6_isLopsided 28 = .ok (.iload_n 2, 1) := by decide +kernel
theorem dX6_isLopsided_29 : decode cX6_isLopsided 29 = .ok (.iadd, 1) := by decide +kernel
theorem dX6_isLopsided_30 : decode cX6_isLopsided 30 = .ok (.iaload, 1) := by decide +kernel
theorem dX6_isLopsided_31 : decode cX6_isLopsided 31 = .ok (.invokevirtual 168, 3) := by decide +kernel
theorem dX6_isLopsided_34 : decode cX6_isLopsided 34 = .ok (.imul, 1) := by decide +kernel
theorem dX6_isLopsided_35 : decode cX6_isLopsided 35 = .ok (.iload_n 3, 1) := by decide +kernel
theorem dX6_isLopsided_36 : decode cX6_isLopsided 36 = .ok (.if_icmp .gt 29, 3) := by decide +kernel
theorem dX6_isLopsided_39 : decode cX6_isLopsided 39 = .ok (.aload_n 0, 1) := by decide +kernel
theorem dX6_isLopsided_40 : decode cX6_isLopsided 40 = .ok (.iload_n 1, 1) := by decide +kernel
theorem dX6_isLopsided_41 : decode cX6_isLopsided 41 = .ok (.invokevirtual 158, 3) := by decide +kernel
theorem dX6_isLopsided_44 : decode cX6_isLopsided 44 = .ok (.aload_n 0, 1) := by decide +kernel
theorem dX6_isLopsided_45 : decode cX6_isLopsided 45 = .ok (.iload_n 1, 1) := by decide +kernel
theorem dX6_isLopsided_46 : decode cX6_isLopsided 46 = .ok (.aload_n 0, 1) := by decide +kernel
theorem dX6_isLopsided_47 : decode cX6_isLopsided 47 = .ok (.getfield 16, 3) := by decide +kernel
theorem dX6_isLopsided_50 : decode cX6_isLopsided 50 = .ok (.bipush 100, 2) := by decide +kernel
theorem dX6_isLopsided_52 : decode cX6_isLopsided 52 = .ok (.iload_n 1, 1) := by decide +kernel
theorem dX6_isLopsided_53 : decode cX6_isLopsided 53 = .ok (.imul, 1) := by decide +kernel
theorem dX6_isLopsided_54 : decode cX6_isLopsided 54 = .ok (.iload_n 2, 1) := by decide +kernel
theorem dX6_isLopsided_55 : decode cX6_isLopsided 55 = .ok (.iadd, 1) := by decide +kernel
theorem dX6_isLopsided_56 : decode cX6_isLopsided 56 = .ok (.iaload, 1) := by decide +kernel
theorem dX6_isLopsided_57 : decode cX6_isLopsided 57 = .ok (.invokevirtual 168, 3) := by decide +kernel
theorem dX6_isLopsided_60 : decode cX6_isLopsided 60 = .ok (.imul, 1) := by decide +kernel
theorem dX6_isLopsided_61 : decode cX6_isLopsided 61 = .ok (.iload_n 3, 1) := by decide +kernel
theorem dX6_isLopsided_62 : decode cX6_isLopsided 62 = .ok (.if_icmp .le 7, 3) := by decide +kernel
theorem dX6_isLopsided_65 : decode cX6_isLopsided 65 = .ok (.iconst 1, 1) := by decide +kernel
theorem dX6_isLopsided_66 : decode cX6_isLopsided 66 = .ok (.goto 4, 3) := by decide +kernel
theorem dX6_isLopsided_69 : decode cX6_isLopsided 69 = .ok (.iconst 0, 1) := by decide +kernel
theorem dX6_isLopsided_70 : decode cX6_isLopsided 70 = .ok (.ireturn, 1) := by decide +kernel
set_option maxRecDepth 20000 in
theorem ggX6_enter_X6_insert : GoodIn wsX6_enter wsX6_insert := goodIn_r _ [9, 10, 11, 12, 13, 3, 14, 15, 16, 17, 8, 18, 4, 75, 76, 77, 78, 79, 80, 81, 82, 83, 84, 85, 86, 87, 88, 89, 90, 91, 92, 93, 94, 95, 96, 97, 98, 99, 100, 101, 102, 103, 104, 105, 106, 107, 108, 109, 110, 111, 112, 113, 114, 115, 116, 117, 118, 119, 120, 121, 122, 123, 124] rfl (by decide +kernel)
set_option maxRecDepth 20000 in
theorem gX6_enter_X6_insert : GoodIn wsX6_enter (wsV RX6 190 RX6 yX6_insert wsX6_insert) := goodIn_app (goodIn_of _ (by decide +kernel)) ggX6_enter_X6_insert
set_option maxRecDepth 20000 in
theorem ggX6_enter_X6_depth : GoodIn wsX6_enter wsX6_depth := goodIn_r _ [22, 4, 75, 76, 77, 78, 79, 80, 81, 82, 83, 84, 85, 86, 87, 88, 89, 90, 91, 92, 93, 94, 95, 96, 97, 98, 99, 100, 101, 102, 103, 104, 105, 106, 107, 108, 109, 110, 111, 112, 113, 114, 115, 116, 117, 118, 119, 120, 121, 122, 123, 124] rfl (by decide +kernel)
set_option maxRecDepth 20000 in
theorem gX6_enter_X6_depth : GoodIn wsX6_enter (wsV RX6 154 RX6 yX6_depth wsX6_depth) := goodIn_app (goodIn_of _ (by decide +kernel)) ggX6_enter_X6_depth
set_option maxRecDepth 20000 in
theorem ggX6_enter_X6_pay : GoodIn wsX6_enter wsX6_pay := goodIn_r _ [26, 27, 28, 75, 76, 77, 78, 79, 80, 81, 82, 83, 84, 85, 86, 87, 88, 89, 90, 91, 92, 93, 94, 95, 96, 97, 98, 99, 100, 101, 102, 103, 104, 105, 106, 107, 108, 109, 110, 111, 112, 113, 114, 115, 116, 117, 118, 119, 120, 121, 122, 123, 124] rfl (by decide +kernel)
set_option maxRecDepth 20000 in
theorem gX6_enter_X6_pay : GoodIn wsX6_enter (wsV RX6 181 RX6 yX6_pay wsX6_pay) := goodIn_app (goodIn_of _ (by decide +kernel)) ggX6_enter_X6_pay
set_option maxRecDepth 20000 in
theorem ggX6_enter_X6_limit : GoodIn wsX6_enter wsX6_limit := goodIn_r _ [32, 33, 34, 35, 8, 36, 37, 38, 39, 40, 41, 42, 43, 44, 75, 76, 77, 78, 79, 80, 81, 82, 83, 84, 85, 86, 87, 88, 89, 90, 91, 92, 93, 94, 95, 96, 97, 98, 99, 100, 101, 102, 103, 104, 105, 106, 107, 108, 109, 110, 111, 112, 113, 114, 115, 116, 117, 118, 119, 120, 121, 122, 123, 124] rfl (by decide +kernel)
set_option maxRecDepth 20000 in
theorem gX6_enter_X6_limit : GoodIn wsX6_enter (wsV RX6 196 RX6 yX6_limit wsX6_limit) := goodIn_app (goodIn_of _ (by decide +kernel)) ggX6_enter_X6_limit
set_option maxRecDepth 20000 in
theorem ggX6_enter_X6_isLopsided : GoodIn wsX6_enter wsX6_isLopsided := goodIn_r _ [48, 11, 12, 39, 40, 41, 8, 42, 43, 44, 49, 50, 51, 52, 13, 53, 54, 55, 56, 4, 33, 34, 35, 36, 37, 38, 75, 76, 77, 78, 79, 80, 81, 82, 83, 84, 85, 86, 87, 88, 89, 90, 91, 92, 93, 94, 95, 96, 97, 98, 99, 100, 101, 102, 103, 104, 105, 106, 107, 108, 109, 110, 111, 112, 113, 114, 115, 116, 117, 118, 119, 120, 121, 122, 123, 124] rfl (by decide +kernel)
set_option maxRecDepth 20000 in
theorem gX6_enter_X6_isLopsided : GoodIn wsX6_enter (wsV RX6 199 RX6 yX6_isLopsided wsX6_isLopsided) := goodIn_app (goodIn_of _ (by decide +kernel)) ggX6_enter_X6_isLopsided
set_option maxRecDepth 20000 in
theorem ggX6_enter_X6_build : GoodIn wsX6_enter wsX6_build := goodIn_r _ [60, 1, 61, 4, 62, 63, 64, 11, 12, 65, 66, 49, 50, 51, 8, 52, 13, 53, 54, 55, 56, 67, 68, 69, 70, 71, 72, 73, 74, 15, 16, 17, 18, 10, 23, 24, 25, 26, 27, 28, 75, 76, 77, 78, 79, 80, 81, 82, 83, 84, 85, 86, 87, 88, 89, 90, 91, 92, 93, 94, 95, 96, 97, 98, 99, 100, 101, 102, 103, 104, 105, 106, 107, 108, 109, 110, 111, 112, 113, 114, 115, 116, 117, 118, 119, 120, 121, 122, 123, 124] rfl (by decide +kernel)
set_option maxRecDepth 20000 in
theorem gX6_enter_X6_build : GoodIn wsX6_enter (wsV RX6 202 RX6 yX6_build wsX6_build) := goodIn_app (goodIn_of _ (by decide +kernel)) ggX6_enter_X6_build
theorem dX6_enter_0 : decode cX6_enter 0 = .ok (.aload_n 0, 1) := by decide +kernel
theorem dX6_enter_1 : decode cX6_enter 1 = .ok (.iload_n 1, 1) := by decide +kernel
theorem dX6_enter_2 : decode cX6_enter 2 = .ok (.iload_n 2, 1) := by decide +kernel
theorem dX6_enter_3 : decode cX6_enter 3 = .ok (.invokevirtual 190, 3) := by decide +kernel
theorem dX6_enter_6 : decode cX6_enter 6 = .ok (.aload_n 0, 1) := by decide +kernel
theorem dX6_enter_7 : decode cX6_enter 7 = .ok (.iconst 0, 1) := by decide +kernel
theorem dX6_enter_8 : decode cX6_enter 8 = .ok (.putfield 171, 3) := by decide +kernel
theorem dX6_enter_11 : decode cX6_enter 11 = .ok (.aload_n 0, 1) := by decide +kernel
theorem dX6_enter_12 : decode cX6_enter 12 = .ok (.iload_n 1, 1) := by decide +kernel
theorem dX6_enter_13 : decode cX6_enter 13 = .ok (.iload_n 2, 1) := by decide +kernel
theorem dX6_enter_14 : decode cX6_enter 14 = .ok (.invokevirtual 154, 3) := by decide +kernel
theorem dX6_enter_17 : decode cX6_enter 17 = .ok (.istore_n 3, 1) := by decide +kernel
theorem dX6_enter_18 : decode cX6_enter 18 = .ok (.aload_n 0, 1) := by decide +kernel
theorem dX6_enter_19 : decode cX6_enter 19 = .ok (.iload_n 1, 1) := by decide +kernel
theorem dX6_enter_20 : decode cX6_enter 20 = .ok (.aload_n 0, 1) := by decide +kernel
theorem dX6_enter_21 : decode cX6_enter 21 = .ok (.getfield 193, 3) := by decide +kernel
theorem dX6_enter_24 : decode cX6_enter 24 = .ok (.iload_n 3, 1) := by decide +kernel
theorem dX6_enter_25 : decode cX6_enter 25 = .ok (.iconst 1, 1) := by decide +kernel
theorem dX6_enter_26 : decode cX6_enter 26 = .ok (.iadd, 1) := by decide +kernel
theorem dX6_enter_27 : decode cX6_enter 27 = .ok (.imul, 1) := by decide +kernel
theorem dX6_enter_28 : decode cX6_enter 28 = .ok (.invokevirtual 181, 3) := by decide +kernel
theorem dX6_enter_31 : decode cX6_enter 31 = .ok (.iload_n 3, 1) := by decide +kernel
theorem dX6_enter_32 : decode cX6_enter 32 = .ok (.aload_n 0, 1) := by decide +kernel
theorem dX6_enter_33 : decode cX6_enter 33 = .ok (.iload_n 1, 1) := by decide +kernel
theorem dX6_enter_34 : decode cX6_enter 34 = .ok (.aload_n 0, 1) := by decide +kernel
theorem dX6_enter_35 : decode cX6_enter 35 = .ok (.getfield 28, 3) := by decide +kernel
theorem dX6_enter_38 : decode cX6_enter 38 = .ok (.iload_n 1, 1) := by decide +kernel
theorem dX6_enter_39 : decode cX6_enter 39 = .ok (.iaload, 1) := by decide +kernel
theorem dX6_enter_40 : decode cX6_enter 40 = .ok (.invokevirtual 196, 3) := by decide +kernel
theorem dX6_enter_43 : decode cX6_enter 43 = .ok (.if_icmp .le 52, 3) := by decide +kernel
theorem dX6_enter_46 : decode cX6_enter 46 = .ok (.iload_n 2, 1) := by decide +kernel
theorem dX6_enter_47 : decode cX6_enter 47 = .ok (.istore 4, 2) := by decide +kernel
theorem dX6_enter_49 : decode cX6_enter 49 = .ok (.iload 4, 2) := by decide +kernel
theorem dX6_enter_51 : decode cX6_enter 51 = .ok (.iconst (-1), 1) := by decide +kernel
theorem dX6_enter_52 : decode cX6_enter 52 = .ok (.if_icmp .eq 30, 3) := by decide +kernel
theorem dX6_enter_55 : decode cX6_enter 55 = .ok (.aload_n 0, 1) := by decide +kernel
theorem dX6_enter_56 : decode cX6_enter 56 = .ok (.iload_n 1, 1) := by decide +kernel
theorem dX6_enter_57 : decode cX6_enter 57 = .ok (.iload 4, 2) := by decide +kernel
theorem dX6_enter_59 : decode cX6_enter 59 = .ok (.invokevirtual 199, 3) := by decide +kernel
theorem dX6_enter_62 : decode cX6_enter 62 = .ok (.ifCond .ne 20, 3) := by decide +kernel
theorem dX6_enter_65 : decode cX6_enter 65 = .ok (.aload_n 0, 1) := by decide +kernel
theorem dX6_enter_66 : decode cX6_enter 66 = .ok (.getfield 19, 3) := by decide +kernel
theorem dX6_enter_69 : decode cX6_enter 69 = .ok (.bipush 100, 2) := by decide +kernel
theorem dX6_enter_71 : decode cX6_enter 71 = .ok (.iload_n 1, 1) := by decide +kernel
theorem dX6_enter_72 : decode cX6_enter 72 = .ok (.imul, 1) := by decide +kernel
theorem dX6_enter_73 : decode cX6_enter 73 = .ok (.iload 4, 2) := by decide +kernel
theorem dX6_enter_75 : decode cX6_enter 75 = .ok (.iadd, 1) := by decide +kernel
theorem dX6_enter_76 : decode cX6_enter 76 = .ok (.iaload, 1) := by decide +kernel
theorem dX6_enter_77 : decode cX6_enter 77 = .ok (.istore 4, 2) := by decide +kernel
theorem dX6_enter_79 : decode cX6_enter 79 = .ok (.goto (-30), 3) := by decide +kernel
theorem dX6_enter_82 : decode cX6_enter 82 = .ok (.iload 4, 2) := by decide +kernel
theorem dX6_enter_84 : decode cX6_enter 84 = .ok (.iconst (-1), 1) := by decide +kernel
theorem dX6_enter_85 : decode cX6_enter 85 = .ok (.if_icmp .eq 10, 3) := by decide +kernel
theorem dX6_enter_88 : decode cX6_enter 88 = .ok (.aload_n 0, 1) := by decide +kernel
theorem dX6_enter_89 : decode cX6_enter 89 = .ok (.iload_n 1, 1) := by decide +kernel
theorem dX6_enter_90 : decode cX6_enter 90 = .ok (.iload 4, 2) := by decide +kernel
theorem dX6_enter_92 : decode cX6_enter 92 = .ok (.invokevirtual 202, 3) := by decide +kernel
theorem dX6_enter_95 : decode cX6_enter 95 = .ok (.return_, 1) := by decide +kernel
set_option maxRecDepth 20000 in
theorem ggX6_unhang_X6_replace : GoodIn wsX6_unhang wsX6_replace := goodIn_r _ [7, 8, 1, 2, 9, 10, 11, 6, 12, 13, 14, 15, 16, 17, 18, 19, 20, 21, 22, 23, 24, 25, 26, 27, 28, 29, 30, 31, 32, 33, 34, 35, 36, 37, 38, 39, 40, 41, 42, 43, 44, 45, 46, 47, 48, 49, 50, 51, 52, 53, 54, 55, 56, 57, 58, 59, 60, 61, 62, 63] rfl (by decide +kernel)
set_option maxRecDepth 20000 in
theorem gX6_unhang_X6_replace : GoodIn wsX6_unhang (wsV RX6 178 RX6 yX6_replace wsX6_replace) := goodIn_app (goodIn_of _ (by decide +kernel)) ggX6_unhang_X6_replace
theorem dX6_unhang_0 : decode cX6_unhang 0 = .ok (.aload_n 0, 1) := by decide +kernel
theorem dX6_unhang_1 : decode cX6_unhang 1 = .ok (.getfield 13, 3) := by decide +kernel
theorem dX6_unhang_4 : decode cX6_unhang 4 = .ok (.bipush 100, 2) := by decide +kernel
theorem dX6_unhang_6 : decode cX6_unhang 6 = .ok (.iload_n 1, 1) := by decide +kernel
theorem dX6_unhang_7 : decode cX6_unhang 7 = .ok (.imul, 1) := by decide +kernel
theorem dX6_unhang_8 : decode cX6_unhang 8 = .ok (.iload_n 2, 1) := by decide +kernel
theorem dX6_unhang_9 : decode cX6_unhang 9 = .ok (.iadd, 1) := by decide +kernel
theorem dX6_unhang_10 : decode cX6_unhang 10 = .ok (.iaload, 1) := by decide +kernel
theorem dX6_unhang_11 : decode cX6_unhang 11 = .ok (.iconst (-1), 1) := by decide +kernel
theorem dX6_unhang_12 : decode cX6_unhang 12 = .ok (.if_icmp .ne 17, 3) := by decide +kernel
theorem dX6_unhang_15 : decode cX6_unhang 15 = .ok (.aload_n 0, 1) := by decide +kernel
theorem dX6_unhang_16 : decode cX6_unhang 16 = .ok (.getfield 16, 3) := by decide +kernel
theorem dX6_unhang_19 : decode cX6_unhang 19 = .ok (.bipush 100, 2) := by decide +kernel
theorem dX6_unhang_21 : decode cX6_unhang 21 = .ok (.iload_n 1, 1) := by decide +kernel
theorem dX6_unhang_22 : decode cX6_unhang 22 = .ok (.imul, 1) := by decide +kernel
theorem dX6_unhang_23 : decode cX6_unhang 23 = .ok (.iload_n 2, 1) := by decide +kernel
theorem dX6_unhang_24 : decode cX6_unhang 24 = .ok (.iadd, 1) := by decide +kernel
theorem dX6_unhang_25 : decode cX6_unhang 25 = .ok (.iaload, 1) := by decide +kernel
theorem dX6_unhang_26 : decode cX6_unhang 26 = .ok (.goto 14, 3) := by decide +kernel
theorem dX6_unhang_29 : decode cX6_unhang 29 = .ok (.aload_n 0, 1) := by decide +kernel
theorem dX6_unhang_30 : decode cX6_unhang 30 = .ok (.getfield 13, 3) := by decide +kernel
theorem dX6_unhang_33 : decode cX6_unhang 33 = .ok (.bipush 100, 2) := by decide +kernel
theorem dX6_unhang_35 : decode cX6_unhang 35 = .ok (.iload_n 1, 1) := by decide +kernel
theorem dX6_unhang_36 : decode cX6_unhang 36 = .ok (.imul, 1) := by decide +kernel
theorem dX6_unhang_37 : decode cX6_unhang 37 = .ok (.iload_n 2, 1) := by decide +kernel
theorem dX6_unhang_38 : decode cX6_unhang 38 = .ok (.iadd, 1) := by decide +kernel
theorem dX6_unhang_39 : decode cX6_unhang 39 = .ok (.iaload, 1) := by decide +kernel
theorem dX6_unhang_40 : decode cX6_unhang 40 = .ok (.istore_n 3, 1) := by decide +kernel
theorem dX6_unhang_41 : decode cX6_unhang 41 = .ok (.aload_n 0, 1) := by decide +kernel
theorem dX6_unhang_42 : decode cX6_unhang 42 = .ok (.iload_n 1, 1) := by decide +kernel
theorem dX6_unhang_43 : decode cX6_unhang 43 = .ok (.iload_n 2, 1) := by decide +kernel
theorem dX6_unhang_44 : decode cX6_unhang 44 = .ok (.iload_n 3, 1) := by decide +kernel
theorem dX6_unhang_45 : decode cX6_unhang 45 = .ok (.invokevirtual 178, 3) := by decide +kernel
theorem dX6_unhang_48 : decode cX6_unhang 48 = .ok (.return_, 1) := by decide +kernel
set_option maxRecDepth 20000 in
theorem ggX6_remove_X6_unhang : GoodIn wsX6_remove wsX6_unhang := goodIn_r _ [9, 1, 2, 10, 11, 12, 8, 13, 14, 15, 16, 17, 18, 19, 20, 21, 22, 23, 24, 25, 26, 27, 28, 29, 30, 31, 32, 33, 34, 35, 36, 37, 38, 39, 40, 41, 42, 43, 44, 45, 46, 47, 48, 49, 50, 51, 52, 53, 54, 55, 56, 57, 58, 59, 60, 61, 62, 63, 64, 65, 66, 67, 68, 69] rfl (by decide +kernel)
set_option maxRecDepth 20000 in
theorem gX6_remove_X6_unhang : GoodIn wsX6_remove (wsV RX6 205 RX6 yX6_unhang wsX6_unhang) := goodIn_app (goodIn_of _ (by decide +kernel)) ggX6_remove_X6_unhang
set_option maxRecDepth 20000 in
theorem ggX6_remove_X6_hang : GoodIn wsX6_remove wsX6_hang := goodIn_r _ [18, 14, 19, 20, 21, 22, 23, 24, 25, 26, 27, 28, 29, 30, 31, 32, 33, 34, 35, 36, 37, 38, 39, 40, 41, 42, 43, 44, 45, 46, 47, 48, 49, 50, 51, 52, 53, 54, 55, 56, 57, 58, 59, 60, 61, 62, 63, 64, 65, 66, 67, 68, 69] rfl (by decide +kernel)
set_option maxRecDepth 20000 in
theorem gX6_remove_X6_hang : GoodIn wsX6_remove (wsV RX6 164 RX6 yX6_hang wsX6_hang) := goodIn_app (goodIn_of _ (by decide +kernel)) ggX6_remove_X6_hang
set_option maxRecDepth 20000 in
theorem ggX6_remove_X6_replace : GoodIn wsX6_remove wsX6_replace := goodIn_r _ [13, 14, 1, 2, 15, 16, 17, 8, 18, 19, 20, 21, 22, 23, 24, 25, 26, 27, 28, 29, 30, 31, 32, 33, 34, 35, 36, 37, 38, 39, 40, 41, 42, 43, 44, 45, 46, 47, 48, 49, 50, 51, 52, 53, 54, 55, 56, 57, 58, 59, 60, 61, 62, 63, 64, 65, 66, 67, 68, 69] rfl (by decide +kernel)
set_option maxRecDepth 20000 in
theorem gX6_remove_X6_replace : GoodIn wsX6_remove (wsV RX6 178 RX6 yX6_replace wsX6_replace) := goodIn_app (goodIn_of _ (by decide +kernel)) ggX6_remove_X6_replace
theorem dX6_remove_0 : decode cX6_remove 0 = .ok (.aload_n 0, 1) := by decide +kernel
theorem dX6_remove_1 : decode cX6_remove 1 = .ok (.getfield 13, 3) := by decide +kernel
theorem dX6_remove_4 : decode cX6_remove 4 = .ok (.bipush 100, 2) := by decide +kernel
theorem dX6_remove_6 : decode cX6_remove 6 = .ok (.iload_n 1, 1) := by decide +kernel
theorem dX6_remove_7 : decode cX6_remove 7 = .ok (.imul, 1) := by decide +kernel
theorem dX6_remove_8 : decode cX6_remove 8 = .ok (.iload_n 2, 1) := by decide +kernel
theorem dX6_remove_9 : decode cX6_remove 9 = .ok (.iadd, 1) := by decide +kernel
theorem dX6_remove_10 : decode cX6_remove 10 = .ok (.iaload, 1) := by decide +kernel
theorem dX6_remove_11 : decode cX6_remove 11 = .ok (.iconst (-1), 1) := by decide +kernel
theorem dX6_remove_12 : decode cX6_remove 12 = .ok (.if_icmp .eq 18, 3) := by decide +kernel
theorem dX6_remove_15 : decode cX6_remove 15 = .ok (.aload_n 0, 1) := by decide +kernel
theorem dX6_remove_16 : decode cX6_remove 16 = .ok (.getfield 16, 3) := by decide +kernel
theorem dX6_remove_19 : decode cX6_remove 19 = .ok (.bipush 100, 2) := by decide +kernel
theorem dX6_remove_21 : decode cX6_remove 21 = .ok (.iload_n 1, 1) := by decide +kernel
theorem dX6_remove_22 : decode cX6_remove 22 = .ok (.imul, 1) := by decide +kernel
theorem dX6_remove_23 : decode cX6_remove 23 = .ok (.iload_n 2, 1) := by decide +kernel
theorem dX6_remove_24 : decode cX6_remove 24 = .ok (.iadd, 1) := by decide +kernel
theorem dX6_remove_25 : decode cX6_remove 25 = .ok (.iaload, 1) := by decide +kernel
theorem dX6_remove_26 : decode cX6_remove 26 = .ok (.iconst (-1), 1) := by decide +kernel
theorem dX6_remove_27 : decode cX6_remove 27 = .ok (.if_icmp .ne 12, 3) := by decide +kernel
theorem dX6_remove_30 : decode cX6_remove 30 = .ok (.aload_n 0, 1) := by decide +kernel
theorem dX6_remove_31 : decode cX6_remove 31 = .ok (.iload_n 1, 1) := by decide +kernel
theorem dX6_remove_32 : decode cX6_remove 32 = .ok (.iload_n 2, 1) := by decide +kernel
theorem dX6_remove_33 : decode cX6_remove 33 = .ok (.invokevirtual 205, 3) := by decide +kernel
theorem dX6_remove_36 : decode cX6_remove 36 = .ok (.goto 151, 3) := by decide +kernel
theorem dX6_remove_39 : decode cX6_remove 39 = .ok (.aload_n 0, 1) := by decide +kernel
theorem dX6_remove_40 : decode cX6_remove 40 = .ok (.getfield 16, 3) := by decide +kernel
theorem dX6_remove_43 : decode cX6_remove 43 = .ok (.bipush 100, 2) := by decide +kernel
theorem dX6_remove_45 : decode cX6_remove 45 = .ok (.iload_n 1, 1) := by decide +kernel
theorem dX6_remove_46 : decode cX6_remove 46 = .ok (.imul, 1) := by decide +kernel
theorem dX6_remove_47 : decode cX6_remove 47 = .ok (.iload_n 2, 1) := by decide +kernel
theorem dX6_remove_48 : decode cX6_remove 48 = .ok (.iadd, 1) := by decide +kernel
theorem dX6_remove_49 : decode cX6_remove 49 = .ok (.iaload, 1) := by decide +kernel
theorem dX6_remove_50 : decode cX6_remove 50 = .ok (.istore_n 3, 1) := by decide +kernel
theorem dX6_remove_51 : decode cX6_remove 51 = .ok (.aload_n 0, 1) := by decide +kernel
theorem dX6_remove_52 : decode cX6_remove 52 = .ok (.getfield 13, 3) := by decide +kernel
theorem dX6_remove_55 : decode cX6_remove 55 = .ok (.bipush 100, 2) := by decide +kernel
theorem dX6_remove_57 : decode cX6_remove 57 = .ok (.iload_n 1, 1) := by decide +kernel
theorem dX6_remove_58 : decode cX6_remove 58 = .ok (.imul, 1) := by decide +kernel
theorem dX6_remove_59 : decode cX6_remove 59 = .ok (.iload_n 3, 1) := by decide +kernel
theorem dX6_remove_60 : decode cX6_remove 60 = .ok (.iadd, 1) := by decide +kernel
theorem dX6_remove_61 : decode cX6_remove 61 = .ok (.iaload, 1) := by decide +kernel
theorem dX6_remove_62 : decode cX6_remove 62 = .ok (.iconst (-1), 1) := by decide +kernel
theorem dX6_remove_63 : decode cX6_remove 63 = .ok (.if_icmp .eq 18, 3) := by decide +kernel
theorem dX6_remove_66 : decode cX6_remove 66 = .ok (.aload_n 0, 1) := by decide +kernel
theorem dX6_remove_67 : decode cX6_remove 67 = .ok (.getfield 13, 3) := by decide +kernel
theorem dX6_remove_70 : decode cX6_remove 70 = .ok (.bipush 100, 2) := by decide +kernel
theorem dX6_remove_72 : decode cX6_remove 72 = .ok (.iload_n 1, 1) := by decide +kernel
theorem dX6_remove_73 : decode cX6_remove 73 = .ok (.imul, 1) := by decide +kernel
theorem dX6_remove_74 : decode cX6_remove 74 = .ok (.iload_n 3, 1) := by decide +kernel
theorem dX6_remove_75 : decode cX6_remove 75 = .ok (.iadd, 1) := by decide +kernel
theorem dX6_remove_76 : decode cX6_remove 76 = .ok (.iaload, 1) := by decide +kernel
theorem dX6_remove_77 : decode cX6_remove 77 = .ok (.istore_n 3, 1) := by decide +kernel
theorem dX6_remove_78 : decode cX6_remove 78 = .ok (.goto (-27), 3) := by decide +kernel
theorem dX6_remove_81 : decode cX6_remove 81 = .ok (.aload_n 0, 1) := by decide +kernel
theorem dX6_remove_82 : decode cX6_remove 82 = .ok (.iload_n 1, 1) := by decide +kernel
theorem dX6_remove_83 : decode cX6_remove 83 = .ok (.iload_n 3, 1) := by decide +kernel
theorem dX6_remove_84 : decode cX6_remove 84 = .ok (.invokevirtual 205, 3) := by decide +kernel
theorem dX6_remove_87 : decode cX6_remove 87 = .ok (.aload_n 0, 1) := by decide +kernel
theorem dX6_remove_88 : decode cX6_remove 88 = .ok (.getfield 13, 3) := by decide +kernel
theorem dX6_remove_91 : decode cX6_remove 91 = .ok (.bipush 100, 2) := by decide +kernel
theorem dX6_remove_93 : decode cX6_remove 93 = .ok (.iload_n 1, 1) := by decide +kernel
theorem dX6_remove_94 : decode cX6_remove 94 = .ok (.imul, 1) := by decide +kernel
theorem dX6_remove_95 : decode cX6_remove 95 = .ok (.iload_n 3, 1) := by decide +kernel
theorem dX6_remove_96 : decode cX6_remove 96 = .ok (.iadd, 1) := by decide +kernel
theorem dX6_remove_97 : decode cX6_remove 97 = .ok (.aload_n 0, 1) := by decide +kernel
theorem dX6_remove_98 : decode cX6_remove 98 = .ok (.getfield 13, 3) := by decide +kernel
theorem dX6_remove_101 : decode cX6_remove 101 = .ok (.bipush 100, 2) := by decide +kernel
theorem dX6_remove_103 : decode cX6_remove 103 = .ok (.iload_n 1, 1) := by decide +kernel
theorem dX6_remove_104 : decode cX6_remove 104 = .ok (.imul, 1) := by decide +kernel
theorem dX6_remove_105 : decode cX6_remove 105 = .ok (.iload_n 2, 1) := by decide +kernel
theorem dX6_remove_106 : decode cX6_remove 106 = .ok (.iadd, 1) := by decide +kernel
theorem dX6_remove_107 : decode cX6_remove 107 = .ok (.iaload, 1) := by decide +kernel
theorem dX6_remove_108 : decode cX6_remove 108 = .ok (.iastore, 1) := by decide +kernel
theorem dX6_remove_109 : decode cX6_remove 109 = .ok (.aload_n 0, 1) := by decide +kernel
theorem dX6_remove_110 : decode cX6_remove 110 = .ok (.getfield 16, 3) := by decide +kernel
theorem dX6_remove_113 : decode cX6_remove 113 = .ok (.bipush 100, 2) := by decide +kernel
theorem dX6_remove_115 : decode cX6_remove 115 = .ok (.iload_n 1, 1) := by decide +kernel
theorem dX6_remove_116 : decode cX6_remove 116 = .ok (.imul, 1) := by decide +kernel
theorem dX6_remove_117 : decode cX6_remove 117 = .ok (.iload_n 3, 1) := by decide +kernel
theorem dX6_remove_118 : decode cX6_remove 118 = .ok (.iadd, 1) := by decide +kernel
theorem dX6_remove_119 : decode cX6_remove 119 = .ok (.aload_n 0, 1) := by decide +kernel
theorem dX6_remove_120 : decode cX6_remove 120 = .ok (.getfield 16, 3) := by decide +kernel
theorem dX6_remove_123 : decode cX6_remove 123 = .ok (.bipush 100, 2) := by decide +kernel
theorem dX6_remove_125 : decode cX6_remove 125 = .ok (.iload_n 1, 1) := by decide +kernel
theorem dX6_remove_126 : decode cX6_remove 126 = .ok (.imul, 1) := by decide +kernel
theorem dX6_remove_127 : decode cX6_remove 127 = .ok (.iload_n 2, 1) := by decide +kernel
theorem dX6_remove_128 : decode cX6_remove 128 = .ok (.iadd, 1) := by decide +kernel
theorem dX6_remove_129 : decode cX6_remove 129 = .ok (.iaload, 1) := by decide +kernel
theorem dX6_remove_130 : decode cX6_remove 130 = .ok (.iastore, 1) := by decide +kernel
theorem dX6_remove_131 : decode cX6_remove 131 = .ok (.aload_n 0, 1) := by decide +kernel
theorem dX6_remove_132 : decode cX6_remove 132 = .ok (.iload_n 1, 1) := by decide +kernel
theorem dX6_remove_133 : decode cX6_remove 133 = .ok (.aload_n 0, 1) := by decide +kernel
theorem dX6_remove_134 : decode cX6_remove 134 = .ok (.getfield 13, 3) := by decide +kernel
theorem dX6_remove_137 : decode cX6_remove 137 = .ok (.bipush 100, 2) := by decide +kernel
theorem dX6_remove_139 : decode cX6_remove 139 = .ok (.iload_n 1, 1) := by decide +kernel
theorem dX6_remove_140 : decode cX6_remove 140 = .ok (.imul, 1) := by decide +kernel
theorem dX6_remove_141 : decode cX6_remove 141 = .ok (.iload_n 3, 1) := by decide +kernel
theorem dX6_remove_142 : decode cX6_remove 142 = .ok (.iadd, 1) := by decide +kernel
theorem dX6_remove_143 : decode cX6_remove 143 = .ok (.iaload, 1) := by decide +kernel
theorem dX6_remove_144 : decode cX6_remove 144 = .ok (.iload_n 3, 1) := by decide +kernel
theorem dX6_remove_145 : decode cX6_remove 145 = .ok (.invokevirtual 164, 3) := by decide +kernel
theorem dX6_remove_148 : decode cX6_remove 148 = .ok (.aload_n 0, 1) := by decide +kernel
theorem dX6_remove_149 : decode cX6_remove 149 = .ok (.getfield 16, 3) := by decide +kernel
theorem dX6_remove_152 : decode cX6_remove 152 = .ok (.bipush 100, 2) := by decide +kernel
theorem dX6_remove_154 : decode cX6_remove 154 = .ok (.iload_n 1, 1) := by decide +kernel
theorem dX6_remove_155 : decode cX6_remove 155 = .ok (.imul, 1) := by decide +kernel
theorem dX6_remove_156 : decode cX6_remove 156 = .ok (.iload_n 3, 1) := by decide +kernel
theorem dX6_remove_157 : decode cX6_remove 157 = .ok (.iadd, 1) := by decide +kernel
theorem dX6_remove_158 : decode cX6_remove 158 = .ok (.iaload, 1) := by decide +kernel
theorem dX6_remove_159 : decode cX6_remove 159 = .ok (.iconst (-1), 1) := by decide +kernel
theorem dX6_remove_160 : decode cX6_remove 160 = .ok (.if_icmp .eq 20, 3) := by decide +kernel
theorem dX6_remove_163 : decode cX6_remove 163 = .ok (.aload_n 0, 1) := by decide +kernel
theorem dX6_remove_164 : decode cX6_remove 164 = .ok (.iload_n 1, 1) := by decide +kernel
theorem dX6_remove_165 : decode cX6_remove 165 = .ok (.aload_n 0, 1) := by decide +kernel
theorem dX6_remove_166 : decode cX6_remove 166 = .ok (.getfield 16, 3) := by decide +kernel
theorem dX6_remove_169 : decode cX6_remove 169 = .ok (.bipush 100, 2) := by decide +kernel
theorem dX6_remove_171 : decode cX6_remove 171 = .ok (.iload_n 1, 1) := by decide +kernel
theorem dX6_remove_172 : decode cX6_remove 172 = .ok (.imul, 1) := by decide +kernel
theorem dX6_remove_173 : decode cX6_remove 173 = .ok (.iload_n 3, 1) := by decide +kernel
theorem dX6_remove_174 : decode cX6_remove 174 = .ok (.iadd, 1) := by decide +kernel
theorem dX6_remove_175 : decode cX6_remove 175 = .ok (.iaload, 1) := by decide +kernel
theorem dX6_remove_176 : decode cX6_remove 176 = .ok (.iload_n 3, 1) := by decide +kernel
theorem dX6_remove_177 : decode cX6_remove 177 = .ok (.invokevirtual 164, 3) := by decide +kernel
theorem dX6_remove_180 : decode cX6_remove 180 = .ok (.aload_n 0, 1) := by decide +kernel
theorem dX6_remove_181 : decode cX6_remove 181 = .ok (.iload_n 1, 1) := by decide +kernel
theorem dX6_remove_182 : decode cX6_remove 182 = .ok (.iload_n 2, 1) := by decide +kernel
theorem dX6_remove_183 : decode cX6_remove 183 = .ok (.iload_n 3, 1) := by decide +kernel
theorem dX6_remove_184 : decode cX6_remove 184 = .ok (.invokevirtual 178, 3) := by decide +kernel
theorem dX6_remove_187 : decode cX6_remove 187 = .ok (.aload_n 0, 1) := by decide +kernel
theorem dX6_remove_188 : decode cX6_remove 188 = .ok (.getfield 22, 3) := by decide +kernel
theorem dX6_remove_191 : decode cX6_remove 191 = .ok (.bipush 100, 2) := by decide +kernel
theorem dX6_remove_193 : decode cX6_remove 193 = .ok (.iload_n 1, 1) := by decide +kernel
theorem dX6_remove_194 : decode cX6_remove 194 = .ok (.imul, 1) := by decide +kernel
theorem dX6_remove_195 : decode cX6_remove 195 = .ok (.iload_n 2, 1) := by decide +kernel
theorem dX6_remove_196 : decode cX6_remove 196 = .ok (.iadd, 1) := by decide +kernel
theorem dX6_remove_197 : decode cX6_remove 197 = .ok (.iconst 0, 1) := by decide +kernel
theorem dX6_remove_198 : decode cX6_remove 198 = .ok (.iastore, 1) := by decide +kernel
theorem dX6_remove_199 : decode cX6_remove 199 = .ok (.aload_n 0, 1) := by decide +kernel
theorem dX6_remove_200 : decode cX6_remove 200 = .ok (.getfield 28, 3) := by decide +kernel
theorem dX6_remove_203 : decode cX6_remove 203 = .ok (.iload_n 1, 1) := by decide +kernel
theorem dX6_remove_204 : decode cX6_remove 204 = .ok (.dup2, 1) := by decide +kernel
theorem dX6_remove_205 : decode cX6_remove 205 = .ok (.iaload, 1) := by decide +kernel
theorem dX6_remove_206 : decode cX6_remove 206 = .ok (.iconst 1, 1) := by decide +kernel
theorem dX6_remove_207 : decode cX6_remove 207 = .ok (.isub, 1) := by decide +kernel
theorem dX6_remove_208 : decode cX6_remove 208 = .ok (.iastore, 1) := by decide +kernel
theorem dX6_remove_209 : decode cX6_remove 209 = .ok (.return_, 1) := by decide +kernel
set_option maxRecDepth 20000 in
theorem ggX6_leave_X6_depth : GoodIn wsX6_leave wsX6_depth := goodIn_r _ [10, 11, 71, 72, 73, 74, 75, 76, 77, 78, 79, 80, 81, 82, 83, 84, 85, 86, 87, 88, 89, 90, 91, 92, 93, 94, 95, 96, 97, 98, 99, 100, 101, 102, 103, 104, 105, 106, 107, 108, 109, 110, 111, 112, 113, 114, 115, 116, 117, 118, 119, 120] rfl (by decide +kernel)
set_option maxRecDepth 20000 in
theorem gX6_leave_X6_depth : GoodIn wsX6_leave (wsV RX6 154 RX6 yX6_depth wsX6_depth) := goodIn_app (goodIn_of _ (by decide +kernel)) ggX6_leave_X6_depth
set_option maxRecDepth 20000 in
theorem ggX6_leave_X6_pay : GoodIn wsX6_leave wsX6_pay := goodIn_r _ [15, 16, 17, 71, 72, 73, 74, 75, 76, 77, 78, 79, 80, 81, 82, 83, 84, 85, 86, 87, 88, 89, 90, 91, 92, 93, 94, 95, 96, 97, 98, 99, 100, 101, 102, 103, 104, 105, 106, 107, 108, 109, 110, 111, 112, 113, 114, 115, 116, 117, 118, 119, 120] rfl (by decide +kernel)
set_option maxRecDepth 20000 in
theorem gX6_leave_X6_pay : GoodIn wsX6_leave (wsV RX6 181 RX6 yX6_pay wsX6_pay) := goodIn_app (goodIn_of _ (by decide +kernel)) ggX6_leave_X6_pay
set_option maxRecDepth 20000 in
theorem ggX6_leave_X6_remove : GoodIn wsX6_leave wsX6_remove := goodIn_r _ [21, 22, 23, 24, 3, 25, 26, 27, 9, 28, 29, 30, 31, 32, 11, 33, 34, 35, 36, 5, 71, 72, 73, 74, 75, 76, 77, 78, 79, 80, 81, 82, 83, 84, 85, 86, 87, 88, 89, 90, 91, 92, 93, 94, 95, 96, 97, 98, 99, 100, 101, 102, 103, 104, 105, 106, 107, 108, 109, 110, 111, 112, 113, 114, 115, 116, 117, 118, 119, 120] rfl (by decide +kernel)
set_option maxRecDepth 20000 in
theorem gX6_leave_X6_remove : GoodIn wsX6_leave (wsV RX6 208 RX6 yX6_remove wsX6_remove) := goodIn_app (goodIn_of _ (by decide +kernel)) ggX6_leave_X6_remove
set_option maxRecDepth 20000 in
theorem ggX6_leave_X6_b : GoodIn wsX6_leave wsX6_b := goodIn_r _ [40, 41, 42, 71, 72, 73, 74, 75, 76, 77, 78, 79, 80, 81, 82, 83, 84, 85, 86, 87, 88, 89, 90, 91, 92, 93, 94, 95, 96, 97, 98, 99, 100, 101, 102, 103, 104, 105, 106, 107, 108, 109, 110, 111, 112, 113, 114, 115, 116, 117, 118, 119, 120] rfl (by decide +kernel)
set_option maxRecDepth 20000 in
theorem gX6_leave_X6_b : GoodIn wsX6_leave (wsV RX6 158 RX6 yX6_b wsX6_b) := goodIn_app (goodIn_of _ (by decide +kernel)) ggX6_leave_X6_b
set_option maxRecDepth 20000 in
theorem ggX6_leave_X6_a : GoodIn wsX6_leave wsX6_a := goodIn_r _ [46, 47, 48, 71, 72, 73, 74, 75, 76, 77, 78, 79, 80, 81, 82, 83, 84, 85, 86, 87, 88, 89, 90, 91, 92, 93, 94, 95, 96, 97, 98, 99, 100, 101, 102, 103, 104, 105, 106, 107, 108, 109, 110, 111, 112, 113, 114, 115, 116, 117, 118, 119, 120] rfl (by decide +kernel)
set_option maxRecDepth 20000 in
theorem gX6_leave_X6_a : GoodIn wsX6_leave (wsV RX6 161 RX6 yX6_a wsX6_a) := goodIn_app (goodIn_of _ (by decide +kernel)) ggX6_leave_X6_a
set_option maxRecDepth 20000 in
theorem ggX6_leave_X6_build : GoodIn wsX6_leave wsX6_build := goodIn_r _ [52, 2, 53, 11, 54, 55, 56, 22, 23, 57, 58, 59, 60, 61, 9, 62, 24, 63, 64, 65, 66, 67, 68, 69, 70, 29, 30, 31, 32, 33, 34, 35, 36, 5, 12, 13, 14, 15, 16, 17, 71, 72, 73, 74, 75, 76, 77, 78, 79, 80, 81, 82, 83, 84, 85, 86, 87, 88, 89, 90, 91, 92, 93, 94, 95, 96, 97, 98, 99, 100, 101, 102, 103, 104, 105, 106, 107, 108, 109, 110, 111, 112, 113, 114, 115, 116, 117, 118, 119, 120] rfl (by decide +kernel)
set_option maxRecDepth 20000 in
theorem gX6_leave_X6_build : GoodIn wsX6_leave (wsV RX6 202 RX6 yX6_build wsX6_build) := goodIn_app (goodIn_of _ (by decide +kernel)) ggX6_leave_X6_build
theorem dX6_leave_0 : decode cX6_leave 0 = .ok (.aload_n 0, 1) := by decide +kernel
theorem dX6_leave_1 : decode cX6_leave 1 = .ok (.iload_n 1, 1) := by decide +kernel
theorem dX6_leave_2 : decode cX6_leave 2 = .ok (.aload_n 0, 1) := by decide +kernel
theorem dX6_leave_3 : decode cX6_leave 3 = .ok (.getfield 193, 3) := by decide +kernel
theorem dX6_leave_6 : decode cX6_leave 6 = .ok (.aload_n 0, 1) := by decide +kernel
theorem dX6_leave_7 : decode cX6_leave 7 = .ok (.iload_n 1, 1) := by decide +kernel
theorem dX6_leave_8 : decode cX6_leave 8 = .ok (.iload_n 2, 1) := by decide +kernel
theorem dX6_leave_9 : decode cX6_leave 9 = .ok (.invokevirtual 154, 3) := by decide +kernel
theorem dX6_leave_12 : decode cX6_leave 12 = .ok (.iconst 1, 1) := by decide +kernel
theorem dX6_leave_13 : decode cX6_leave 13 = .ok (.iadd, 1) := by decide +kernel
theorem dX6_leave_14 : decode cX6_leave 14 = .ok (.imul, 1) := by decide +kernel
theorem dX6_leave_15 : decode cX6_leave 15 = .ok (.invokevirtual 181, 3) := by decide +kernel
theorem dX6_leave_18 : decode cX6_leave 18 = .ok (.aload_n 0, 1) := by decide +kernel
theorem dX6_leave_19 : decode cX6_leave 19 = .ok (.iload_n 1, 1) := by decide +kernel
theorem dX6_leave_20 : decode cX6_leave 20 = .ok (.iload_n 2, 1) := by decide +kernel
theorem dX6_leave_21 : decode cX6_leave 21 = .ok (.invokevirtual 208, 3) := by decide +kernel
theorem dX6_leave_24 : decode cX6_leave 24 = .ok (.aload_n 0, 1) := by decide +kernel
theorem dX6_leave_25 : decode cX6_leave 25 = .ok (.iconst 0, 1) := by decide +kernel
theorem dX6_leave_26 : decode cX6_leave 26 = .ok (.putfield 171, 3) := by decide +kernel
theorem dX6_leave_29 : decode cX6_leave 29 = .ok (.aload_n 0, 1) := by decide +kernel
theorem dX6_leave_30 : decode cX6_leave 30 = .ok (.getfield 28, 3) := by decide +kernel
theorem dX6_leave_33 : decode cX6_leave 33 = .ok (.iload_n 1, 1) := by decide +kernel
theorem dX6_leave_34 : decode cX6_leave 34 = .ok (.iaload, 1) := by decide +kernel
theorem dX6_leave_35 : decode cX6_leave 35 = .ok (.ifCond .le 53, 3) := by decide +kernel
theorem dX6_leave_38 : decode cX6_leave 38 = .ok (.aload_n 0, 1) := by decide +kernel
theorem dX6_leave_39 : decode cX6_leave 39 = .ok (.iload_n 1, 1) := by decide +kernel
theorem dX6_leave_40 : decode cX6_leave 40 = .ok (.invokevirtual 158, 3) := by decide +kernel
theorem dX6_leave_43 : decode cX6_leave 43 = .ok (.aload_n 0, 1) := by decide +kernel
theorem dX6_leave_44 : decode cX6_leave 44 = .ok (.getfield 28, 3) := by decide +kernel
theorem dX6_leave_47 : decode cX6_leave 47 = .ok (.iload_n 1, 1) := by decide +kernel
theorem dX6_leave_48 : decode cX6_leave 48 = .ok (.iaload, 1) := by decide +kernel
theorem dX6_leave_49 : decode cX6_leave 49 = .ok (.imul, 1) := by decide +kernel
theorem dX6_leave_50 : decode cX6_leave 50 = .ok (.aload_n 0, 1) := by decide +kernel
theorem dX6_leave_51 : decode cX6_leave 51 = .ok (.iload_n 1, 1) := by decide +kernel
theorem dX6_leave_52 : decode cX6_leave 52 = .ok (.invokevirtual 161, 3) := by decide +kernel
theorem dX6_leave_55 : decode cX6_leave 55 = .ok (.aload_n 0, 1) := by decide +kernel
theorem dX6_leave_56 : decode cX6_leave 56 = .ok (.getfield 31, 3) := by decide +kernel
theorem dX6_leave_59 : decode cX6_leave 59 = .ok (.iload_n 1, 1) := by decide +kernel
theorem dX6_leave_60 : decode cX6_leave 60 = .ok (.iaload, 1) := by decide +kernel
theorem dX6_leave_61 : decode cX6_leave 61 = .ok (.imul, 1) := by decide +kernel
theorem dX6_leave_62 : decode cX6_leave 62 = .ok (.if_icmp .ge 26, 3) := by decide +kernel
theorem dX6_leave_65 : decode cX6_leave 65 = .ok (.aload_n 0, 1) := by decide +kernel
theorem dX6_leave_66 : decode cX6_leave 66 = .ok (.iload_n 1, 1) := by decide +kernel
theorem dX6_leave_67 : decode cX6_leave 67 = .ok (.aload_n 0, 1) := by decide +kernel
theorem dX6_leave_68 : decode cX6_leave 68 = .ok (.getfield 25, 3) := by decide +kernel
theorem dX6_leave_71 : decode cX6_leave 71 = .ok (.iload_n 1, 1) := by decide +kernel
theorem dX6_leave_72 : decode cX6_leave 72 = .ok (.iaload, 1) := by decide +kernel
theorem dX6_leave_73 : decode cX6_leave 73 = .ok (.invokevirtual 202, 3) := by decide +kernel
theorem dX6_leave_76 : decode cX6_leave 76 = .ok (.aload_n 0, 1) := by decide +kernel
theorem dX6_leave_77 : decode cX6_leave 77 = .ok (.getfield 31, 3) := by decide +kernel
theorem dX6_leave_80 : decode cX6_leave 80 = .ok (.iload_n 1, 1) := by decide +kernel
theorem dX6_leave_81 : decode cX6_leave 81 = .ok (.aload_n 0, 1) := by decide +kernel
theorem dX6_leave_82 : decode cX6_leave 82 = .ok (.getfield 28, 3) := by decide +kernel
theorem dX6_leave_85 : decode cX6_leave 85 = .ok (.iload_n 1, 1) := by decide +kernel
theorem dX6_leave_86 : decode cX6_leave 86 = .ok (.iaload, 1) := by decide +kernel
theorem dX6_leave_87 : decode cX6_leave 87 = .ok (.iastore, 1) := by decide +kernel
theorem dX6_leave_88 : decode cX6_leave 88 = .ok (.aload_n 0, 1) := by decide +kernel
theorem dX6_leave_89 : decode cX6_leave 89 = .ok (.getfield 31, 3) := by decide +kernel
theorem dX6_leave_92 : decode cX6_leave 92 = .ok (.iload_n 1, 1) := by decide +kernel
theorem dX6_leave_93 : decode cX6_leave 93 = .ok (.aload_n 0, 1) := by decide +kernel
theorem dX6_leave_94 : decode cX6_leave 94 = .ok (.getfield 28, 3) := by decide +kernel
theorem dX6_leave_97 : decode cX6_leave 97 = .ok (.iload_n 1, 1) := by decide +kernel
theorem dX6_leave_98 : decode cX6_leave 98 = .ok (.iaload, 1) := by decide +kernel
theorem dX6_leave_99 : decode cX6_leave 99 = .ok (.ifCond .ne 7, 3) := by decide +kernel
theorem dX6_leave_102 : decode cX6_leave 102 = .ok (.iconst 0, 1) := by decide +kernel
theorem dX6_leave_103 : decode cX6_leave 103 = .ok (.goto 9, 3) := by decide +kernel
theorem dX6_leave_106 : decode cX6_leave 106 = .ok (.aload_n 0, 1) := by decide +kernel
theorem dX6_leave_107 : decode cX6_leave 107 = .ok (.getfield 31, 3) := by decide +kernel
theorem dX6_leave_110 : decode cX6_leave 110 = .ok (.iload_n 1, 1) := by decide +kernel
theorem dX6_leave_111 : decode cX6_leave 111 = .ok (.iaload, 1) := by decide +kernel
theorem dX6_leave_112 : decode cX6_leave 112 = .ok (.iastore, 1) := by decide +kernel
theorem dX6_leave_113 : decode cX6_leave 113 = .ok (.return_, 1) := by decide +kernel
theorem dX6_write_0 : decode cX6_write 0 = .ok (.aload_n 0, 1) := by decide +kernel
theorem dX6_write_1 : decode cX6_write 1 = .ok (.getfield 211, 3) := by decide +kernel
theorem dX6_write_4 : decode cX6_write 4 = .ok (.bipush 60, 2) := by decide +kernel
theorem dX6_write_6 : decode cX6_write 6 = .ok (.if_icmp .ge 23, 3) := by decide +kernel
theorem dX6_write_9 : decode cX6_write 9 = .ok (.aload_n 0, 1) := by decide +kernel
theorem dX6_write_10 : decode cX6_write 10 = .ok (.getfield 46, 3) := by decide +kernel
theorem dX6_write_13 : decode cX6_write 13 = .ok (.aload_n 0, 1) := by decide +kernel
theorem dX6_write_14 : decode cX6_write 14 = .ok (.getfield 211, 3) := by decide +kernel
theorem dX6_write_17 : decode cX6_write 17 = .ok (.iload_n 1, 1) := by decide +kernel
theorem dX6_write_18 : decode cX6_write 18 = .ok (.iastore, 1) := by decide +kernel
theorem dX6_write_19 : decode cX6_write 19 = .ok (.aload_n 0, 1) := by decide +kernel
theorem dX6_write_20 : decode cX6_write 20 = .ok (.dup, 1) := by decide +kernel
theorem dX6_write_21 : decode cX6_write 21 = .ok (.getfield 211, 3) := by decide +kernel
theorem dX6_write_24 : decode cX6_write 24 = .ok (.iconst 1, 1) := by decide +kernel
theorem dX6_write_25 : decode cX6_write 25 = .ok (.iadd, 1) := by decide +kernel
theorem dX6_write_26 : decode cX6_write 26 = .ok (.putfield 211, 3) := by decide +kernel
theorem dX6_write_29 : decode cX6_write 29 = .ok (.return_, 1) := by decide +kernel
theorem dX6_lacks_0 : decode cX6_lacks 0 = .ok (.aload_n 0, 1) := by decide +kernel
theorem dX6_lacks_1 : decode cX6_lacks 1 = .ok (.getfield 144, 3) := by decide +kernel
theorem dX6_lacks_4 : decode cX6_lacks 4 = .ok (.ifCond .ne 7, 3) := by decide +kernel
theorem dX6_lacks_7 : decode cX6_lacks 7 = .ok (.iconst 1, 1) := by decide +kernel
theorem dX6_lacks_8 : decode cX6_lacks 8 = .ok (.goto 4, 3) := by decide +kernel
theorem dX6_lacks_11 : decode cX6_lacks 11 = .ok (.iconst 0, 1) := by decide +kernel
theorem dX6_lacks_12 : decode cX6_lacks 12 = .ok (.ireturn, 1) := by decide +kernel
set_option maxRecDepth 20000 in
theorem ggX6_shelf_X6_faultOf : GoodIn wsX6_shelf wsX6_faultOf := goodIn_r _ [16, 1, 17, 18, 19, 15, 20, 2, 21, 22, 23, 24, 25, 26, 27, 28, 29, 30, 31, 32, 33, 34, 35, 36, 37, 38, 39, 40, 41, 42, 43, 44, 45, 46, 47, 134, 135, 136, 137, 138, 139, 140, 141, 142, 143, 144, 145, 146, 147, 148, 149, 150, 151, 152, 153, 154, 155, 156, 157, 158, 159, 160, 161, 162, 163, 164, 165, 166, 167, 168, 169, 170, 171, 172, 173, 174, 175, 176, 177, 178, 179, 180, 181, 182, 183] rfl (by decide +kernel)
set_option maxRecDepth 20000 in
theorem gX6_shelf_X6_faultOf : GoodIn wsX6_shelf (wsV RX6 134 RX6 yX6_faultOf wsX6_faultOf) := goodIn_app (goodIn_of _ (by decide +kernel)) ggX6_shelf_X6_faultOf
set_option maxRecDepth 20000 in
theorem ggX6_shelf_X6_empty : GoodIn wsX6_shelf wsX6_empty := goodIn_r _ [51, 52, 53, 11, 54, 55, 56, 134, 135, 136, 137, 138, 139, 140, 141, 142, 143, 144, 145, 146, 147, 148, 149, 150, 151, 152, 153, 154, 155, 156, 157, 158, 159, 160, 161, 162, 163, 164, 165, 166, 167, 168, 169, 170, 171, 172, 173, 174, 175, 176, 177, 178, 179, 180, 181, 182, 183] rfl (by decide +kernel)
set_option maxRecDepth 20000 in
theorem gX6_shelf_X6_empty : GoodIn wsX6_shelf (wsV RX6 214 RX6 yX6_empty wsX6_empty) := goodIn_app (goodIn_of _ (by decide +kernel)) ggX6_shelf_X6_empty
set_option maxRecDepth 20000 in
theorem ggX6_shelf_X6_kindBy : GoodIn wsX6_shelf wsX6_kindBy := goodIn_r _ [39] rfl (by decide +kernel)
set_option maxRecDepth 20000 in
theorem gX6_shelf_X6_kindBy : GoodIn wsX6_shelf (va_wsS RX6 107 yX6_kindBy wsX6_kindBy) := goodIn_app (goodIn_of _ (by decide +kernel)) ggX6_shelf_X6_kindBy
set_option maxRecDepth 20000 in
theorem ggX6_shelf_X6_keyAt : GoodIn wsX6_shelf wsX6_keyAt := goodIn_r _ [47, 2, 134, 135, 136, 137, 138, 139, 140, 141, 142, 143, 144, 145, 146, 147, 148, 149, 150, 151, 152, 153, 154, 155, 156, 157, 158, 159, 160, 161, 162, 163, 164, 165, 166, 167, 168, 169, 170, 171, 172, 173, 174, 175, 176, 177, 178, 179, 180, 181, 182, 183] rfl (by decide +kernel)
set_option maxRecDepth 20000 in
theorem gX6_shelf_X6_keyAt : GoodIn wsX6_shelf (wsV RX6 103 RX6 yX6_keyAt wsX6_keyAt) := goodIn_app (goodIn_of _ (by decide +kernel)) ggX6_shelf_X6_keyAt
set_option maxRecDepth 20000 in
theorem ggX6_shelf_X6_putNew : GoodIn wsX6_shelf wsX6_putNew := goodIn_r _ [60, 61, 62, 63, 64, 65, 15, 66, 67, 5, 11, 68, 69, 70, 71, 72, 53, 73, 74, 52, 54, 75, 76, 77, 78, 79, 80, 81, 82, 83, 84, 85, 86, 6, 7, 87, 88, 89, 90, 91, 92, 93, 94, 4, 95, 96, 97, 98, 99, 3, 100, 101, 102, 103, 104, 105, 106, 107, 108, 109, 110, 111, 112, 113, 114, 115, 116, 117, 118, 119, 120, 55, 56, 121, 122, 123, 124, 125, 126, 127, 128, 129, 130, 131, 132, 8, 133, 134, 135, 136, 137, 138, 139, 140, 141, 142, 143, 144, 145, 146, 147, 148, 149, 150, 151, 152, 153, 154, 155, 156, 157, 158, 159, 160, 161, 162, 163, 164, 165, 166, 167, 168, 169, 170, 171, 172, 173, 174, 175, 176, 177, 178, 179, 180, 181, 182, 183] rfl (by decide +kernel)
set_option maxRecDepth 20000 in
theorem gX6_shelf_X6_putNew : GoodIn wsX6_shelf (wsV RX6 221 RX6 yX6_putNew wsX6_putNew) := goodIn_app (goodIn_of _ (by decide +kernel)) ggX6_shelf_X6_putNew
theorem dX6_shelf_0 : decode cX6_shelf 0 = .ok (.aload_n 0, 1) := by decide +kernel
theorem dX6_shelf_1 : decode cX6_shelf 1 = .ok (.getfield 98, 3) := by decide +kernel
theorem dX6_shelf_4 : decode cX6_shelf 4 = .ok (.iconst 5, 1) := by decide +kernel
theorem dX6_shelf_5 : decode cX6_shelf 5 = .ok (.if_icmp .lt 35, 3) := by decide +kernel
theorem dX6_shelf_8 : decode cX6_shelf 8 = .ok (.aload_n 0, 1) := by decide +kernel
theorem dX6_shelf_9 : decode cX6_shelf 9 = .ok (.invokevirtual 134, 3) := by decide +kernel
theorem dX6_shelf_12 : decode cX6_shelf 12 = .ok (.aload_n 0, 1) := by decide +kernel
theorem dX6_shelf_13 : decode cX6_shelf 13 = .ok (.getfield 98, 3) := by decide +kernel
theorem dX6_shelf_16 : decode cX6_shelf 16 = .ok (.if_icmp .lt 24, 3) := by decide +kernel
theorem dX6_shelf_19 : decode cX6_shelf 19 = .ok (.aload_n 0, 1) := by decide +kernel
theorem dX6_shelf_20 : decode cX6_shelf 20 = .ok (.getfield 98, 3) := by decide +kernel
theorem dX6_shelf_23 : decode cX6_shelf 23 = .ok (.iconst 5, 1) := by decide +kernel
theorem dX6_shelf_24 : decode cX6_shelf 24 = .ok (.if_icmp .le 19, 3) := by decide +kernel
theorem dX6_shelf_27 : decode cX6_shelf 27 = .ok (.aload_n 0, 1) := by decide +kernel
theorem dX6_shelf_28 : decode cX6_shelf 28 = .ok (.getfield 98, 3) := by decide +kernel
theorem dX6_shelf_31 : decode cX6_shelf 31 = .ok (.iconst 5, 1) := by decide +kernel
theorem dX6_shelf_32 : decode cX6_shelf 32 = .ok (.isub, 1) := by decide +kernel
theorem dX6_shelf_33 : decode cX6_shelf 33 = .ok (.bipush 6, 2) := by decide +kernel
theorem dX6_shelf_35 : decode cX6_shelf 35 = .ok (.irem, 1) := by decide +kernel
theorem dX6_shelf_36 : decode cX6_shelf 36 = .ok (.iconst 5, 1) := by decide +kernel
theorem dX6_shelf_37 : decode cX6_shelf 37 = .ok (.if_icmp .eq 6, 3) := by decide +kernel
theorem dX6_shelf_40 : decode cX6_shelf 40 = .ok (.bipush (-103), 2) := by decide +kernel
theorem dX6_shelf_42 : decode cX6_shelf 42 = .ok (.ireturn, 1) := by decide +kernel
theorem dX6_shelf_43 : decode cX6_shelf 43 = .ok (.aload_n 0, 1) := by decide +kernel
theorem dX6_shelf_44 : decode cX6_shelf 44 = .ok (.aload_n 0, 1) := by decide +kernel
theorem dX6_shelf_45 : decode cX6_shelf 45 = .ok (.getfield 7, 3) := by decide +kernel
theorem dX6_shelf_48 : decode cX6_shelf 48 = .ok (.iconst 0, 1) := by decide +kernel
theorem dX6_shelf_49 : decode cX6_shelf 49 = .ok (.iaload, 1) := by decide +kernel
theorem dX6_shelf_50 : decode cX6_shelf 50 = .ok (.bipush 48, 2) := by decide +kernel
theorem dX6_shelf_52 : decode cX6_shelf 52 = .ok (.isub, 1) := by decide +kernel
theorem dX6_shelf_53 : decode cX6_shelf 53 = .ok (.putfield 138, 3) := by decide +kernel
theorem dX6_shelf_56 : decode cX6_shelf 56 = .ok (.aload_n 0, 1) := by decide +kernel
theorem dX6_shelf_57 : decode cX6_shelf 57 = .ok (.aload_n 0, 1) := by decide +kernel
theorem dX6_shelf_58 : decode cX6_shelf 58 = .ok (.getfield 7, 3) := by decide +kernel
theorem dX6_shelf_61 : decode cX6_shelf 61 = .ok (.iconst 1, 1) := by decide +kernel
theorem dX6_shelf_62 : decode cX6_shelf 62 = .ok (.iaload, 1) := by decide +kernel
theorem dX6_shelf_63 : decode cX6_shelf 63 = .ok (.bipush 48, 2) := by decide +kernel
theorem dX6_shelf_65 : decode cX6_shelf 65 = .ok (.isub, 1) := by decide +kernel
theorem dX6_shelf_66 : decode cX6_shelf 66 = .ok (.putfield 144, 3) := by decide +kernel
theorem dX6_shelf_69 : decode cX6_shelf 69 = .ok (.aload_n 0, 1) := by decide +kernel
theorem dX6_shelf_70 : decode cX6_shelf 70 = .ok (.aload_n 0, 1) := by decide +kernel
theorem dX6_shelf_71 : decode cX6_shelf 71 = .ok (.getfield 7, 3) := by decide +kernel
theorem dX6_shelf_74 : decode cX6_shelf 74 = .ok (.iconst 3, 1) := by decide +kernel
theorem dX6_shelf_75 : decode cX6_shelf 75 = .ok (.iaload, 1) := by decide +kernel
theorem dX6_shelf_76 : decode cX6_shelf 76 = .ok (.bipush 48, 2) := by decide +kernel
theorem dX6_shelf_78 : decode cX6_shelf 78 = .ok (.isub, 1) := by decide +kernel
theorem dX6_shelf_79 : decode cX6_shelf 79 = .ok (.putfield 193, 3) := by decide +kernel
theorem dX6_shelf_82 : decode cX6_shelf 82 = .ok (.aload_n 0, 1) := by decide +kernel
theorem dX6_shelf_83 : decode cX6_shelf 83 = .ok (.iconst 0, 1) := by decide +kernel
theorem dX6_shelf_84 : decode cX6_shelf 84 = .ok (.invokevirtual 214, 3) := by decide +kernel
theorem dX6_shelf_87 : decode cX6_shelf 87 = .ok (.aload_n 0, 1) := by decide +kernel
theorem dX6_shelf_88 : decode cX6_shelf 88 = .ok (.iconst 0, 1) := by decide +kernel
theorem dX6_shelf_89 : decode cX6_shelf 89 = .ok (.putfield 184, 3) := by decide +kernel
theorem dX6_shelf_92 : decode cX6_shelf 92 = .ok (.aload_n 0, 1) := by decide +kernel
theorem dX6_shelf_93 : decode cX6_shelf 93 = .ok (.iconst 0, 1) := by decide +kernel
theorem dX6_shelf_94 : decode cX6_shelf 94 = .ok (.putfield 187, 3) := by decide +kernel
theorem dX6_shelf_97 : decode cX6_shelf 97 = .ok (.aload_n 0, 1) := by decide +kernel
theorem dX6_shelf_98 : decode cX6_shelf 98 = .ok (.iconst 0, 1) := by decide +kernel
theorem dX6_shelf_99 : decode cX6_shelf 99 = .ok (.putfield 211, 3) := by decide +kernel
theorem dX6_shelf_102 : decode cX6_shelf 102 = .ok (.aload_n 0, 1) := by decide +kernel
theorem dX6_shelf_103 : decode cX6_shelf 103 = .ok (.iconst 0, 1) := by decide +kernel
theorem dX6_shelf_104 : decode cX6_shelf 104 = .ok (.putfield 218, 3) := by decide +kernel
theorem dX6_shelf_107 : decode cX6_shelf 107 = .ok (.iconst 5, 1) := by decide +kernel
theorem dX6_shelf_108 : decode cX6_shelf 108 = .ok (.istore_n 1, 1) := by decide +kernel
theorem dX6_shelf_109 : decode cX6_shelf 109 = .ok (.iload_n 1, 1) := by decide +kernel
theorem dX6_shelf_110 : decode cX6_shelf 110 = .ok (.aload_n 0, 1) := by decide +kernel
theorem dX6_shelf_111 : decode cX6_shelf 111 = .ok (.getfield 98, 3) := by decide +kernel
theorem dX6_shelf_114 : decode cX6_shelf 114 = .ok (.if_icmp .ge 40, 3) := by decide +kernel
theorem dX6_shelf_117 : decode cX6_shelf 117 = .ok (.aload_n 0, 1) := by decide +kernel
theorem dX6_shelf_118 : decode cX6_shelf 118 = .ok (.aload_n 0, 1) := by decide +kernel
theorem dX6_shelf_119 : decode cX6_shelf 119 = .ok (.getfield 7, 3) := by decide +kernel
theorem dX6_shelf_122 : decode cX6_shelf 122 = .ok (.iload_n 1, 1) := by decide +kernel
theorem dX6_shelf_123 : decode cX6_shelf 123 = .ok (.iaload, 1) := by decide +kernel
theorem dX6_shelf_124 : decode cX6_shelf 124 = .ok (.invokestatic 107, 3) := by decide +kernel
theorem dX6_shelf_127 : decode cX6_shelf 127 = .ok (.aload_n 0, 1) := by decide +kernel
theorem dX6_shelf_128 : decode cX6_shelf 128 = .ok (.iload_n 1, 1) := by decide +kernel
theorem dX6_shelf_129 : decode cX6_shelf 129 = .ok (.iconst 1, 1) := by decide +kernel
theorem dX6_shelf_130 : decode cX6_shelf 130 = .ok (.iadd, 1) := by decide +kernel
theorem dX6_shelf_131 : decode cX6_shelf 131 = .ok (.invokevirtual 103, 3) := by decide +kernel
theorem dX6_shelf_134 : decode cX6_shelf 134 = .ok (.aload_n 0, 1) := by decide +kernel
theorem dX6_shelf_135 : decode cX6_shelf 135 = .ok (.getfield 7, 3) := by decide +kernel
theorem dX6_shelf_138 : decode cX6_shelf 138 = .ok (.iload_n 1, 1) := by decide +kernel
theorem dX6_shelf_139 : decode cX6_shelf 139 = .ok (.iconst 4, 1) := by decide +kernel
theorem dX6_shelf_140 : decode cX6_shelf 140 = .ok (.iadd, 1) := by decide +kernel
theorem dX6_shelf_141 : decode cX6_shelf 141 = .ok (.iaload, 1) := by decide +kernel
theorem dX6_shelf_142 : decode cX6_shelf 142 = .ok (.bipush 48, 2) := by decide +kernel
theorem dX6_shelf_144 : decode cX6_shelf 144 = .ok (.isub, 1) := by decide +kernel
theorem dX6_shelf_145 : decode cX6_shelf 145 = .ok (.invokevirtual 221, 3) := by decide +kernel
theorem dX6_shelf_148 : decode cX6_shelf 148 = .ok (.iinc 1 6, 3) := by decide +kernel
theorem dX6_shelf_151 : decode cX6_shelf 151 = .ok (.goto (-42), 3) := by decide +kernel
theorem dX6_shelf_154 : decode cX6_shelf 154 = .ok (.aload_n 0, 1) := by decide +kernel
theorem dX6_shelf_155 : decode cX6_shelf 155 = .ok (.dup, 1) := by decide +kernel
theorem dX6_shelf_156 : decode cX6_shelf 156 = .ok (.getfield 224, 3) := by decide +kernel
theorem dX6_shelf_159 : decode cX6_shelf 159 = .ok (.iconst 1, 1) := by decide +kernel
theorem dX6_shelf_160 : decode cX6_shelf 160 = .ok (.iadd, 1) := by decide +kernel
theorem dX6_shelf_161 : decode cX6_shelf 161 = .ok (.putfield 224, 3) := by decide +kernel
theorem dX6_shelf_164 : decode cX6_shelf 164 = .ok (.aload_n 0, 1) := by decide +kernel
theorem dX6_shelf_165 : decode cX6_shelf 165 = .ok (.iconst 0, 1) := by decide +kernel
theorem dX6_shelf_166 : decode cX6_shelf 166 = .ok (.putfield 98, 3) := by decide +kernel
theorem dX6_shelf_169 : decode cX6_shelf 169 = .ok (.aload_n 0, 1) := by decide +kernel
theorem dX6_shelf_170 : decode cX6_shelf 170 = .ok (.getfield 28, 3) := by decide +kernel
theorem dX6_shelf_173 : decode cX6_shelf 173 = .ok (.iconst 0, 1) := by decide +kernel
theorem dX6_shelf_174 : decode cX6_shelf 174 = .ok (.iaload, 1) := by decide +kernel
theorem dX6_shelf_175 : decode cX6_shelf 175 = .ok (.ireturn, 1) := by decide +kernel
set_option maxRecDepth 20000 in
theorem ggX6_putNew_X6_enter : GoodIn wsX6_putNew wsX6_enter := goodIn_r _ [7, 8, 9, 10, 11, 12, 13, 14, 6, 15, 16, 17, 18, 19, 20, 21, 22, 23, 24, 25, 26, 27, 28, 29, 30, 31, 32, 33, 34, 35, 36, 37, 38, 39, 40, 41, 42, 43, 44, 45, 46, 47, 48, 49, 50, 51, 52, 53, 54, 55, 56, 57, 58, 59, 60, 61, 62, 63, 64, 65, 66, 67, 68, 69, 70, 71, 72, 73, 74, 75, 76, 77, 78, 79, 80, 87, 88, 89, 90, 91, 92, 93, 94, 95, 96, 97, 98, 99, 100, 101, 102, 103, 104, 105, 106, 107, 108, 109, 110, 111, 112, 113, 114, 115, 116, 117, 118, 119, 120, 121, 122, 123, 124, 125, 126, 127, 128, 129, 130, 131, 132, 133, 134, 135, 136] rfl (by decide +kernel)
set_option maxRecDepth 20000 in
theorem gX6_putNew_X6_enter : GoodIn wsX6_putNew (wsV RX6 227 RX6 yX6_enter wsX6_enter) := goodIn_app (goodIn_of _ (by decide +kernel)) ggX6_putNew_X6_enter
set_option maxRecDepth 20000 in
theorem ggX6_putNew_X6_write : GoodIn wsX6_putNew wsX6_write := goodIn_r _ [84, 85, 86, 87, 88, 89, 90, 91, 92, 93, 94, 95, 96, 97, 98, 99, 100, 101, 102, 103, 104, 105, 106, 107, 108, 109, 110, 111, 112, 113, 114, 115, 116, 117, 118, 119, 120, 121, 122, 123, 124, 125, 126, 127, 128, 129, 130, 131, 132, 133, 134, 135, 136] rfl (by decide +kernel)
set_option maxRecDepth 20000 in
theorem gX6_putNew_X6_write : GoodIn wsX6_putNew (wsV RX6 230 RX6 yX6_write wsX6_write) := goodIn_app (goodIn_of _ (by decide +kernel)) ggX6_putNew_X6_write
theorem dX6_putNew_0 : decode cX6_putNew 0 = .ok (.aload_n 0, 1) := by decide +kernel
theorem dX6_putNew_1 : decode cX6_putNew 1 = .ok (.getfield 40, 3) := by decide +kernel
theorem dX6_putNew_4 : decode cX6_putNew 4 = .ok (.iload_n 2, 1) := by decide +kernel
theorem dX6_putNew_5 : decode cX6_putNew 5 = .ok (.iload_n 1, 1) := by decide +kernel
theorem dX6_putNew_6 : decode cX6_putNew 6 = .ok (.iastore, 1) := by decide +kernel
theorem dX6_putNew_7 : decode cX6_putNew 7 = .ok (.aload_n 0, 1) := by decide +kernel
theorem dX6_putNew_8 : decode cX6_putNew 8 = .ok (.getfield 43, 3) := by decide +kernel
theorem dX6_putNew_11 : decode cX6_putNew 11 = .ok (.iload_n 2, 1) := by decide +kernel
theorem dX6_putNew_12 : decode cX6_putNew 12 = .ok (.iload_n 3, 1) := by decide +kernel
theorem dX6_putNew_13 : decode cX6_putNew 13 = .ok (.iastore, 1) := by decide +kernel
theorem dX6_putNew_14 : decode cX6_putNew 14 = .ok (.aload_n 0, 1) := by decide +kernel
theorem dX6_putNew_15 : decode cX6_putNew 15 = .ok (.iconst 0, 1) := by decide +kernel
theorem dX6_putNew_16 : decode cX6_putNew 16 = .ok (.iload_n 2, 1) := by decide +kernel
theorem dX6_putNew_17 : decode cX6_putNew 17 = .ok (.invokevirtual 227, 3) := by decide +kernel
theorem dX6_putNew_20 : decode cX6_putNew 20 = .ok (.aload_n 0, 1) := by decide +kernel
theorem dX6_putNew_21 : decode cX6_putNew 21 = .ok (.iload_n 2, 1) := by decide +kernel
theorem dX6_putNew_22 : decode cX6_putNew 22 = .ok (.invokevirtual 230, 3) := by decide +kernel
theorem dX6_putNew_25 : decode cX6_putNew 25 = .ok (.return_, 1) := by decide +kernel
set_option maxRecDepth 20000 in
theorem ggX6_takeOut_X6_leave : GoodIn wsX6_takeOut wsX6_leave := goodIn_r _ [5, 6, 7, 8, 9, 10, 11, 12, 13, 4, 14, 15, 16, 17, 18, 19, 20, 21, 22, 23, 24, 25, 26, 27, 28, 29, 30, 31, 32, 33, 34, 35, 36, 37, 38, 39, 40, 41, 42, 43, 44, 45, 46, 47, 48, 49, 50, 51, 52, 53, 54, 55, 56, 57, 58, 59, 60, 61, 62, 63, 64, 65, 66, 67, 68, 69, 70, 71, 72, 73, 74, 81, 82, 83, 84, 85, 86, 87, 88, 89, 90, 91, 92, 93, 94, 95, 96, 97, 98, 99, 100, 101, 102, 103, 104, 105, 106, 107, 108, 109, 110, 111, 112, 113, 114, 115, 116, 117, 118, 119, 120, 121, 122, 123, 124, 125, 126, 127, 128, 129, 130] rfl (by decide +kernel)
set_option maxRecDepth 20000 in
theorem gX6_takeOut_X6_leave : GoodIn wsX6_takeOut (wsV RX6 233 RX6 yX6_leave wsX6_leave) := goodIn_app (goodIn_of _ (by decide +kernel)) ggX6_takeOut_X6_leave
set_option maxRecDepth 20000 in
theorem ggX6_takeOut_X6_write : GoodIn wsX6_takeOut wsX6_write := goodIn_r _ [78, 79, 80, 81, 82, 83, 84, 85, 86, 87, 88, 89, 90, 91, 92, 93, 94, 95, 96, 97, 98, 99, 100, 101, 102, 103, 104, 105, 106, 107, 108, 109, 110, 111, 112, 113, 114, 115, 116, 117, 118, 119, 120, 121, 122, 123, 124, 125, 126, 127, 128, 129, 130] rfl (by decide +kernel)
set_option maxRecDepth 20000 in
theorem gX6_takeOut_X6_write : GoodIn wsX6_takeOut (wsV RX6 230 RX6 yX6_write wsX6_write) := goodIn_app (goodIn_of _ (by decide +kernel)) ggX6_takeOut_X6_write
theorem dX6_takeOut_0 : decode cX6_takeOut 0 = .ok (.aload_n 0, 1) := by decide +kernel
theorem dX6_takeOut_1 : decode cX6_takeOut 1 = .ok (.iconst 0, 1) := by decide +kernel
theorem dX6_takeOut_2 : decode cX6_takeOut 2 = .ok (.iload_n 1, 1) := by decide +kernel
theorem dX6_takeOut_3 : decode cX6_takeOut 3 = .ok (.invokevirtual 233, 3) := by decide +kernel
theorem dX6_takeOut_6 : decode cX6_takeOut 6 = .ok (.aload_n 0, 1) := by decide +kernel
theorem dX6_takeOut_7 : decode cX6_takeOut 7 = .ok (.iconst (-1), 1) := by decide +kernel
theorem dX6_takeOut_8 : decode cX6_takeOut 8 = .ok (.iload_n 1, 1) := by decide +kernel
theorem dX6_takeOut_9 : decode cX6_takeOut 9 = .ok (.isub, 1) := by decide +kernel
theorem dX6_takeOut_10 : decode cX6_takeOut 10 = .ok (.invokevirtual 230, 3) := by decide +kernel
theorem dX6_takeOut_13 : decode cX6_takeOut 13 = .ok (.return_, 1) := by decide +kernel
set_option maxRecDepth 20000 in
theorem ggX6_isThere_X6_lacks : GoodIn wsX6_isThere wsX6_lacks := goodIn_r _ [7, 8, 12, 13, 14, 15, 16, 17, 18, 19, 20, 21, 22, 23, 24, 25, 26, 27, 28, 29, 30, 31, 32, 33, 34, 35, 36, 37, 38, 39, 40, 41, 42, 43, 44, 45, 46, 47, 48, 49, 50, 51, 52, 53, 54, 55, 56, 57, 58, 59, 60, 61] rfl (by decide +kernel)
set_option maxRecDepth 20000 in
theorem gX6_isThere_X6_lacks : GoodIn wsX6_isThere (wsV RX6 236 RX6 yX6_lacks wsX6_lacks) := goodIn_app (goodIn_of _ (by decide +kernel)) ggX6_isThere_X6_lacks
set_option maxRecDepth 20000 in
theorem ggX6_isThere_X6_in : GoodIn wsX6_isThere wsX6_in := goodIn_r _ [11] rfl (by decide +kernel)
set_option maxRecDepth 20000 in
theorem gX6_isThere_X6_in : GoodIn wsX6_isThere (va_wsS RX6 94 yX6_in wsX6_in) := goodIn_app (goodIn_of _ (by decide +kernel)) ggX6_isThere_X6_in
theorem dX6_isThere_0 : decode cX6_isThere 0 = .ok (.aload_n 0, 1) := by decide +kernel
theorem dX6_isThere_1 : decode cX6_isThere 1 = .ok (.invokevirtual 236, 3) := by decide +kernel
theorem dX6_isThere_4 : decode cX6_isThere 4 = .ok (.ifCond .ne 29, 3) := by decide +kernel
theorem dX6_isThere_7 : decode cX6_isThere 7 = .ok (.iload_n 1, 1) := by decide +kernel
theorem dX6_isThere_8 : decode cX6_isThere 8 = .ok (.i2l, 1) := by decide +kernel
theorem dX6_isThere_9 : decode cX6_isThere 9 = .ok (.lconst 0, 1) := by decide +kernel
theorem dX6_isThere_10 : decode cX6_isThere 10 = .ok (.ldc2_w 240, 3) := by decide +kernel
theorem dX6_isThere_13 : decode cX6_isThere 13 = .ok (.invokestatic 94, 3) := by decide +kernel
theorem dX6_isThere_16 : decode cX6_isThere 16 = .ok (.ifCond .eq 17, 3) := by decide +kernel
theorem dX6_isThere_19 : decode cX6_isThere 19 = .ok (.aload_n 0, 1) := by decide +kernel
theorem dX6_isThere_20 : decode cX6_isThere 20 = .ok (.getfield 22, 3) := by decide +kernel
theorem dX6_isThere_23 : decode cX6_isThere 23 = .ok (.iload_n 1, 1) := by decide +kernel
theorem dX6_isThere_24 : decode cX6_isThere 24 = .ok (.iaload, 1) := by decide +kernel
theorem dX6_isThere_25 : decode cX6_isThere 25 = .ok (.iconst 1, 1) := by decide +kernel
theorem dX6_isThere_26 : decode cX6_isThere 26 = .ok (.if_icmp .ne 7, 3) := by decide +kernel
theorem dX6_isThere_29 : decode cX6_isThere 29 = .ok (.iconst 1, 1) := by decide +kernel
theorem dX6_isThere_30 : decode cX6_isThere 30 = .ok (.goto 4, 3) := by decide +kernel
theorem dX6_isThere_33 : decode cX6_isThere 33 = .ok (.iconst 0, 1) := by decide +kernel
theorem dX6_isThere_34 : decode cX6_isThere 34 = .ok (.ireturn, 1) := by decide +kernel
theorem dX6_lessMany_0 : decode cX6_lessMany 0 = .ok (.iconst 0, 1) := by decide +kernel
theorem dX6_lessMany_1 : decode cX6_lessMany 1 = .ok (.istore_n 2, 1) := by decide +kernel
theorem dX6_lessMany_2 : decode cX6_lessMany 2 = .ok (.iconst 0, 1) := by decide +kernel
theorem dX6_lessMany_3 : decode cX6_lessMany 3 = .ok (.istore_n 3, 1) := by decide +kernel
theorem dX6_lessMany_4 : decode cX6_lessMany 4 = .ok (.iload_n 3, 1) := by decide +kernel
theorem dX6_lessMany_5 : decode cX6_lessMany 5 = .ok (.iload_n 1, 1) := by decide +kernel
theorem dX6_lessMany_6 : decode cX6_lessMany 6 = .ok (.if_icmp .ge 18, 3) := by decide +kernel
theorem dX6_lessMany_9 : decode cX6_lessMany 9 = .ok (.iload_n 2, 1) := by decide +kernel
theorem dX6_lessMany_10 : decode cX6_lessMany 10 = .ok (.aload_n 0, 1) := by decide +kernel
theorem dX6_lessMany_11 : decode cX6_lessMany 11 = .ok (.getfield 22, 3) := by decide +kernel
theorem dX6_lessMany_14 : decode cX6_lessMany 14 = .ok (.iload_n 3, 1) := by decide +kernel
theorem dX6_lessMany_15 : decode cX6_lessMany 15 = .ok (.iaload, 1) := by decide +kernel
theorem dX6_lessMany_16 : decode cX6_lessMany 16 = .ok (.iadd, 1) := by decide +kernel
theorem dX6_lessMany_17 : decode cX6_lessMany 17 = .ok (.istore_n 2, 1) := by decide +kernel
theorem dX6_lessMany_18 : decode cX6_lessMany 18 = .ok (.iinc 3 1, 3) := by decide +kernel
theorem dX6_lessMany_21 : decode cX6_lessMany 21 = .ok (.goto (-17), 3) := by decide +kernel
theorem dX6_lessMany_24 : decode cX6_lessMany 24 = .ok (.iload_n 2, 1) := by decide +kernel
theorem dX6_lessMany_25 : decode cX6_lessMany 25 = .ok (.ireturn, 1) := by decide +kernel
set_option maxRecDepth 20000 in
theorem ggX6_tellEntry_X6_depth : GoodIn wsX6_tellEntry wsX6_depth := goodIn_r _ [10, 5, 24, 25, 26, 27, 28, 29, 30, 31, 32, 33, 34, 35, 36, 37, 38, 39, 40, 41, 42, 43, 44, 45, 46, 47, 48, 49, 50, 51, 52, 53, 54, 55, 56, 57, 58, 59, 60, 61, 62, 63, 64, 65, 66, 67, 68, 69, 70, 71, 72, 73] rfl (by decide +kernel)
set_option maxRecDepth 20000 in
theorem gX6_tellEntry_X6_depth : GoodIn wsX6_tellEntry (wsV RX6 154 RX6 yX6_depth wsX6_depth) := goodIn_app (goodIn_of _ (by decide +kernel)) ggX6_tellEntry_X6_depth
set_option maxRecDepth 20000 in
theorem ggX6_tellEntry_X6_size : GoodIn wsX6_tellEntry wsX6_size := goodIn_r _ [14, 15, 16, 17, 18, 9, 19, 5, 24, 25, 26, 27, 28, 29, 30, 31, 32, 33, 34, 35, 36, 37, 38, 39, 40, 41, 42, 43, 44, 45, 46, 47, 48, 49, 50, 51, 52, 53, 54, 55, 56, 57, 58, 59, 60, 61, 62, 63, 64, 65, 66, 67, 68, 69, 70, 71, 72, 73] rfl (by decide +kernel)
set_option maxRecDepth 20000 in
theorem gX6_tellEntry_X6_size : GoodIn wsX6_tellEntry (wsV RX6 168 RX6 yX6_size wsX6_size) := goodIn_app (goodIn_of _ (by decide +kernel)) ggX6_tellEntry_X6_size
set_option maxRecDepth 20000 in
theorem ggX6_tellEntry_X6_lessMany : GoodIn wsX6_tellEntry wsX6_lessMany := goodIn_r _ [23, 15, 24, 25, 26, 27, 28, 29, 30, 31, 32, 33, 34, 35, 36, 37, 38, 39, 40, 41, 42, 43, 44, 45, 46, 47, 48, 49, 50, 51, 52, 53, 54, 55, 56, 57, 58, 59, 60, 61, 62, 63, 64, 65, 66, 67, 68, 69, 70, 71, 72, 73] rfl (by decide +kernel)
set_option maxRecDepth 20000 in
theorem gX6_tellEntry_X6_lessMany : GoodIn wsX6_tellEntry (wsV RX6 242 RX6 yX6_lessMany wsX6_lessMany) := goodIn_app (goodIn_of _ (by decide +kernel)) ggX6_tellEntry_X6_lessMany
theorem dX6_tellEntry_0 : decode cX6_tellEntry 0 = .ok (.iload_n 2, 1) := by decide +kernel
theorem dX6_tellEntry_1 : decode cX6_tellEntry 1 = .ok (.tableswitch 102 0 7 #[47, 54, 61, 68, 75, 82, 89, 96], 47) := by decide +kernel
theorem dX6_tellEntry_48 : decode cX6_tellEntry 48 = .ok (.aload_n 0, 1) := by decide +kernel
theorem dX6_tellEntry_49 : decode cX6_tellEntry 49 = .ok (.getfield 40, 3) := by decide +kernel
theorem dX6_tellEntry_52 : decode cX6_tellEntry 52 = .ok (.iload_n 1, 1) := by decide +kernel
theorem dX6_tellEntry_53 : decode cX6_tellEntry 53 = .ok (.iaload, 1) := by decide +kernel
theorem dX6_tellEntry_54 : decode cX6_tellEntry 54 = .ok (.ireturn, 1) := by decide +kernel
theorem dX6_tellEntry_55 : decode cX6_tellEntry 55 = .ok (.aload_n 0, 1) := by decide +kernel
theorem dX6_tellEntry_56 : decode cX6_tellEntry 56 = .ok (.getfield 43, 3) := by decide +kernel
theorem dX6_tellEntry_59 : decode cX6_tellEntry 59 = .ok (.iload_n 1, 1) := by decide +kernel
theorem dX6_tellEntry_60 : decode cX6_tellEntry 60 = .ok (.iaload, 1) := by decide +kernel
theorem dX6_tellEntry_61 : decode cX6_tellEntry 61 = .ok (.ireturn, 1) := by decide +kernel
theorem dX6_tellEntry_62 : decode cX6_tellEntry 62 = .ok (.aload_n 0, 1) := by decide +kernel
theorem dX6_tellEntry_63 : decode cX6_tellEntry 63 = .ok (.iconst 0, 1) := by decide +kernel
theorem dX6_tellEntry_64 : decode cX6_tellEntry 64 = .ok (.iload_n 1, 1) := by decide +kernel
theorem dX6_tellEntry_65 : decode cX6_tellEntry 65 = .ok (.invokevirtual 154, 3) := by decide +kernel
theorem dX6_tellEntry_68 : decode cX6_tellEntry 68 = .ok (.ireturn, 1) := by decide +kernel
theorem dX6_tellEntry_69 : decode cX6_tellEntry 69 = .ok (.aload_n 0, 1) := by decide +kernel
theorem dX6_tellEntry_70 : decode cX6_tellEntry 70 = .ok (.iconst 0, 1) := by decide +kernel
theorem dX6_tellEntry_71 : decode cX6_tellEntry 71 = .ok (.iload_n 1, 1) := by decide +kernel
theorem dX6_tellEntry_72 : decode cX6_tellEntry 72 = .ok (.invokevirtual 168, 3) := by decide +kernel
theorem dX6_tellEntry_75 : decode cX6_tellEntry 75 = .ok (.ireturn, 1) := by decide +kernel
theorem dX6_tellEntry_76 : decode cX6_tellEntry 76 = .ok (.aload_n 0, 1) := by decide +kernel
theorem dX6_tellEntry_77 : decode cX6_tellEntry 77 = .ok (.getfield 13, 3) := by decide +kernel
theorem dX6_tellEntry_80 : decode cX6_tellEntry 80 = .ok (.iload_n 1, 1) := by decide +kernel
theorem dX6_tellEntry_81 : decode cX6_tellEntry 81 = .ok (.iaload, 1) := by decide +kernel
theorem dX6_tellEntry_82 : decode cX6_tellEntry 82 = .ok (.ireturn, 1) := by decide +kernel
theorem dX6_tellEntry_83 : decode cX6_tellEntry 83 = .ok (.aload_n 0, 1) := by decide +kernel
theorem dX6_tellEntry_84 : decode cX6_tellEntry 84 = .ok (.getfield 16, 3) := by decide +kernel
theorem dX6_tellEntry_87 : decode cX6_tellEntry 87 = .ok (.iload_n 1, 1) := by decide +kernel
theorem dX6_tellEntry_88 : decode cX6_tellEntry 88 = .ok (.iaload, 1) := by decide +kernel
theorem dX6_tellEntry_89 : decode cX6_tellEntry 89 = .ok (.ireturn, 1) := by decide +kernel
theorem dX6_tellEntry_90 : decode cX6_tellEntry 90 = .ok (.aload_n 0, 1) := by decide +kernel
theorem dX6_tellEntry_91 : decode cX6_tellEntry 91 = .ok (.getfield 19, 3) := by decide +kernel
theorem dX6_tellEntry_94 : decode cX6_tellEntry 94 = .ok (.iload_n 1, 1) := by decide +kernel
theorem dX6_tellEntry_95 : decode cX6_tellEntry 95 = .ok (.iaload, 1) := by decide +kernel
theorem dX6_tellEntry_96 : decode cX6_tellEntry 96 = .ok (.ireturn, 1) := by decide +kernel
theorem dX6_tellEntry_97 : decode cX6_tellEntry 97 = .ok (.aload_n 0, 1) := by decide +kernel
theorem dX6_tellEntry_98 : decode cX6_tellEntry 98 = .ok (.iload_n 1, 1) := by decide +kernel
theorem dX6_tellEntry_99 : decode cX6_tellEntry 99 = .ok (.invokevirtual 242, 3) := by decide +kernel
theorem dX6_tellEntry_102 : decode cX6_tellEntry 102 = .ok (.ireturn, 1) := by decide +kernel
theorem dX6_tellEntry_103 : decode cX6_tellEntry 103 = .ok (.bipush (-102), 2) := by decide +kernel
theorem dX6_tellEntry_105 : decode cX6_tellEntry 105 = .ok (.ireturn, 1) := by decide +kernel
set_option maxRecDepth 20000 in
theorem ggX6_entry_X6_isThere : GoodIn wsX6_entry wsX6_isThere := goodIn_r _ [5, 6, 7, 8, 9, 10, 4, 11, 12, 13, 14, 15, 41, 42, 43, 44, 45, 46, 47, 48, 49, 50, 51, 52, 53, 54, 55, 56, 57, 58, 59, 60, 61, 62, 63, 64, 65, 66, 67, 68, 69, 70, 71, 72, 73, 74, 75, 76, 77, 78, 79, 80, 81, 82, 83, 84, 85, 86, 87, 88, 89, 90] rfl (by decide +kernel)
set_option maxRecDepth 20000 in
theorem gX6_entry_X6_isThere : GoodIn wsX6_entry (wsV RX6 245 RX6 yX6_isThere wsX6_isThere) := goodIn_app (goodIn_of _ (by decide +kernel)) ggX6_entry_X6_isThere
set_option maxRecDepth 20000 in
theorem ggX6_entry_X6_tellEntry : GoodIn wsX6_entry wsX6_tellEntry := goodIn_r _ [19, 20, 21, 22, 23, 24, 25, 26, 27, 4, 28, 29, 30, 31, 32, 7, 33, 34, 35, 36, 37, 38, 39, 40, 41, 42, 43, 44, 45, 46, 47, 48, 49, 50, 51, 52, 53, 54, 55, 56, 57, 58, 59, 60, 61, 62, 63, 64, 65, 66, 67, 68, 69, 70, 71, 72, 73, 74, 75, 76, 77, 78, 79, 80, 81, 82, 83, 84, 85, 86, 87, 88, 89, 90] rfl (by decide +kernel)
set_option maxRecDepth 20000 in
theorem gX6_entry_X6_tellEntry : GoodIn wsX6_entry (wsV RX6 248 RX6 yX6_tellEntry wsX6_tellEntry) := goodIn_app (goodIn_of _ (by decide +kernel)) ggX6_entry_X6_tellEntry
theorem dX6_entry_0 : decode cX6_entry 0 = .ok (.aload_n 0, 1) := by decide +kernel
theorem dX6_entry_1 : decode cX6_entry 1 = .ok (.iload_n 1, 1) := by decide +kernel
theorem dX6_entry_2 : decode cX6_entry 2 = .ok (.invokevirtual 245, 3) := by decide +kernel
theorem dX6_entry_5 : decode cX6_entry 5 = .ok (.ifCond .eq 12, 3) := by decide +kernel
theorem dX6_entry_8 : decode cX6_entry 8 = .ok (.aload_n 0, 1) := by decide +kernel
theorem dX6_entry_9 : decode cX6_entry 9 = .ok (.iload_n 1, 1) := by decide +kernel
theorem dX6_entry_10 : decode cX6_entry 10 = .ok (.iload_n 2, 1) := by decide +kernel
theorem dX6_entry_11 : decode cX6_entry 11 = .ok (.invokevirtual 248, 3) := by decide +kernel
theorem dX6_entry_14 : decode cX6_entry 14 = .ok (.goto 5, 3) := by decide +kernel
theorem dX6_entry_17 : decode cX6_entry 17 = .ok (.bipush (-101), 2) := by decide +kernel
theorem dX6_entry_19 : decode cX6_entry 19 = .ok (.ireturn, 1) := by decide +kernel
set_option maxRecDepth 20000 in
theorem ggX6_as_X6_isThere : GoodIn wsX6_as wsX6_isThere := goodIn_r _ [7, 8, 9, 10, 11, 12, 6, 13, 14, 15, 16, 17, 18, 19, 20, 21, 22, 23, 24, 25, 26, 27, 28, 29, 30, 31, 32, 33, 34, 35, 36, 37, 38, 39, 40, 41, 42, 43, 44, 45, 46, 47, 48, 49, 50, 51, 52, 53, 54, 55, 56, 57, 58, 59, 60, 61, 62, 63, 64, 65, 66, 67] rfl (by decide +kernel)
set_option maxRecDepth 20000 in
theorem gX6_as_X6_isThere : GoodIn wsX6_as (wsV RX6 245 RX6 yX6_isThere wsX6_isThere) := goodIn_app (goodIn_of _ (by decide +kernel)) ggX6_as_X6_isThere
set_option maxRecDepth 20000 in
theorem ggX6_as_X6_in : GoodIn wsX6_as wsX6_in := goodIn_r _ [17] rfl (by decide +kernel)
set_option maxRecDepth 20000 in
theorem gX6_as_X6_in : GoodIn wsX6_as (va_wsS RX6 94 yX6_in wsX6_in) := goodIn_app (goodIn_of _ (by decide +kernel)) ggX6_as_X6_in
theorem dX6_as_0 : decode cX6_as 0 = .ok (.aload_n 0, 1) := by decide +kernel
theorem dX6_as_1 : decode cX6_as 1 = .ok (.iload_n 1, 1) := by decide +kernel
theorem dX6_as_2 : decode cX6_as 2 = .ok (.invokevirtual 245, 3) := by decide +kernel
theorem dX6_as_5 : decode cX6_as 5 = .ok (.ifCond .ne 6, 3) := by decide +kernel
theorem dX6_as_8 : decode cX6_as 8 = .ok (.bipush (-101), 2) := by decide +kernel
theorem dX6_as_10 : decode cX6_as 10 = .ok (.ireturn, 1) := by decide +kernel
theorem dX6_as_11 : decode cX6_as 11 = .ok (.iload_n 2, 1) := by decide +kernel
theorem dX6_as_12 : decode cX6_as 12 = .ok (.i2l, 1) := by decide +kernel
theorem dX6_as_13 : decode cX6_as 13 = .ok (.lconst 0, 1) := by decide +kernel
theorem dX6_as_14 : decode cX6_as 14 = .ok (.ldc2_w 251, 3) := by decide +kernel
theorem dX6_as_17 : decode cX6_as 17 = .ok (.invokestatic 94, 3) := by decide +kernel
theorem dX6_as_20 : decode cX6_as 20 = .ok (.ifCond .ne 6, 3) := by decide +kernel
theorem dX6_as_23 : decode cX6_as 23 = .ok (.bipush (-102), 2) := by decide +kernel
theorem dX6_as_25 : decode cX6_as 25 = .ok (.ireturn, 1) := by decide +kernel
theorem dX6_as_26 : decode cX6_as 26 = .ok (.iload_n 2, 1) := by decide +kernel
theorem dX6_as_27 : decode cX6_as 27 = .ok (.ifCond .eq 28, 3) := by decide +kernel
theorem dX6_as_30 : decode cX6_as 30 = .ok (.iload_n 2, 1) := by decide +kernel
theorem dX6_as_31 : decode cX6_as 31 = .ok (.aload_n 0, 1) := by decide +kernel
