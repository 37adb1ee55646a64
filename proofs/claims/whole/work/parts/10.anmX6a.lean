theorem dX6_init_0 : decode cX6_init 0 = .ok (.aload_n 0, 1) := by decide +kernel
theorem dX6_init_1 : decode cX6_init 1 = .ok (.invokespecial 1, 3) := by decide +kernel
theorem dX6_init_4 : decode cX6_init 4 = .ok (.aload_n 0, 1) := by decide +kernel
theorem dX6_init_5 : decode cX6_init 5 = .ok (.bipush 54, 2) := by decide +kernel
theorem dX6_init_7 : decode cX6_init 7 = .ok (.newarray .int, 2) := by decide +kernel
theorem dX6_init_9 : decode cX6_init 9 = .ok (.putfield 7, 3) := by decide +kernel
theorem dX6_init_12 : decode cX6_init 12 = .ok (.aload_n 0, 1) := by decide +kernel
theorem dX6_init_13 : decode cX6_init 13 = .ok (.sipush 200, 3) := by decide +kernel
theorem dX6_init_16 : decode cX6_init 16 = .ok (.newarray .int, 2) := by decide +kernel
theorem dX6_init_18 : decode cX6_init 18 = .ok (.putfield 13, 3) := by decide +kernel
theorem dX6_init_21 : decode cX6_init 21 = .ok (.aload_n 0, 1) := by decide +kernel
theorem dX6_init_22 : decode cX6_init 22 = .ok (.sipush 200, 3) := by decide +kernel
theorem dX6_init_25 : decode cX6_init 25 = .ok (.newarray .int, 2) := by decide +kernel
theorem dX6_init_27 : decode cX6_init 27 = .ok (.putfield 16, 3) := by decide +kernel
theorem dX6_init_30 : decode cX6_init 30 = .ok (.aload_n 0, 1) := by decide +kernel
theorem dX6_init_31 : decode cX6_init 31 = .ok (.sipush 200, 3) := by decide +kernel
theorem dX6_init_34 : decode cX6_init 34 = .ok (.newarray .int, 2) := by decide +kernel
theorem dX6_init_36 : decode cX6_init 36 = .ok (.putfield 19, 3) := by decide +kernel
theorem dX6_init_39 : decode cX6_init 39 = .ok (.aload_n 0, 1) := by decide +kernel
theorem dX6_init_40 : decode cX6_init 40 = .ok (.sipush 200, 3) := by decide +kernel
theorem dX6_init_43 : decode cX6_init 43 = .ok (.newarray .int, 2) := by decide +kernel
theorem dX6_init_45 : decode cX6_init 45 = .ok (.putfield 22, 3) := by decide +kernel
theorem dX6_init_48 : decode cX6_init 48 = .ok (.aload_n 0, 1) := by decide +kernel
theorem dX6_init_49 : decode cX6_init 49 = .ok (.iconst 2, 1) := by decide +kernel
theorem dX6_init_50 : decode cX6_init 50 = .ok (.newarray .int, 2) := by decide +kernel
theorem dX6_init_52 : decode cX6_init 52 = .ok (.putfield 25, 3) := by decide +kernel
theorem dX6_init_55 : decode cX6_init 55 = .ok (.aload_n 0, 1) := by decide +kernel
theorem dX6_init_56 : decode cX6_init 56 = .ok (.iconst 2, 1) := by decide +kernel
theorem dX6_init_57 : decode cX6_init 57 = .ok (.newarray .int, 2) := by decide +kernel
theorem dX6_init_59 : decode cX6_init 59 = .ok (.putfield 28, 3) := by decide +kernel
theorem dX6_init_62 : decode cX6_init 62 = .ok (.aload_n 0, 1) := by decide +kernel
theorem dX6_init_63 : decode cX6_init 63 = .ok (.iconst 2, 1) := by decide +kernel
theorem dX6_init_64 : decode cX6_init 64 = .ok (.newarray .int, 2) := by decide +kernel
theorem dX6_init_66 : decode cX6_init 66 = .ok (.putfield 31, 3) := by decide +kernel
theorem dX6_init_69 : decode cX6_init 69 = .ok (.aload_n 0, 1) := by decide +kernel
theorem dX6_init_70 : decode cX6_init 70 = .ok (.iconst 2, 1) := by decide +kernel
theorem dX6_init_71 : decode cX6_init 71 = .ok (.newarray .int, 2) := by decide +kernel
theorem dX6_init_73 : decode cX6_init 73 = .ok (.putfield 34, 3) := by decide +kernel
theorem dX6_init_76 : decode cX6_init 76 = .ok (.aload_n 0, 1) := by decide +kernel
theorem dX6_init_77 : decode cX6_init 77 = .ok (.iconst 2, 1) := by decide +kernel
theorem dX6_init_78 : decode cX6_init 78 = .ok (.newarray .int, 2) := by decide +kernel
theorem dX6_init_80 : decode cX6_init 80 = .ok (.putfield 37, 3) := by decide +kernel
theorem dX6_init_83 : decode cX6_init 83 = .ok (.aload_n 0, 1) := by decide +kernel
theorem dX6_init_84 : decode cX6_init 84 = .ok (.bipush 100, 2) := by decide +kernel
theorem dX6_init_86 : decode cX6_init 86 = .ok (.newarray .int, 2) := by decide +kernel
theorem dX6_init_88 : decode cX6_init 88 = .ok (.putfield 40, 3) := by decide +kernel
theorem dX6_init_91 : decode cX6_init 91 = .ok (.aload_n 0, 1) := by decide +kernel
theorem dX6_init_92 : decode cX6_init 92 = .ok (.bipush 100, 2) := by decide +kernel
theorem dX6_init_94 : decode cX6_init 94 = .ok (.newarray .int, 2) := by decide +kernel
theorem dX6_init_96 : decode cX6_init 96 = .ok (.putfield 43, 3) := by decide +kernel
theorem dX6_init_99 : decode cX6_init 99 = .ok (.aload_n 0, 1) := by decide +kernel
theorem dX6_init_100 : decode cX6_init 100 = .ok (.bipush 60, 2) := by decide +kernel
theorem dX6_init_102 : decode cX6_init 102 = .ok (.newarray .int, 2) := by decide +kernel
theorem dX6_init_104 : decode cX6_init 104 = .ok (.putfield 46, 3) := by decide +kernel
theorem dX6_init_107 : decode cX6_init 107 = .ok (.aload_n 0, 1) := by decide +kernel
theorem dX6_init_108 : decode cX6_init 108 = .ok (.bipush 40, 2) := by decide +kernel
theorem dX6_init_110 : decode cX6_init 110 = .ok (.newarray .int, 2) := by decide +kernel
theorem dX6_init_112 : decode cX6_init 112 = .ok (.putfield 49, 3) := by decide +kernel
theorem dX6_init_115 : decode cX6_init 115 = .ok (.aload_n 0, 1) := by decide +kernel
theorem dX6_init_116 : decode cX6_init 116 = .ok (.bipush 41, 2) := by decide +kernel
theorem dX6_init_118 : decode cX6_init 118 = .ok (.newarray .int, 2) := by decide +kernel
theorem dX6_init_120 : decode cX6_init 120 = .ok (.putfield 52, 3) := by decide +kernel
theorem dX6_init_123 : decode cX6_init 123 = .ok (.aload_n 0, 1) := by decide +kernel
theorem dX6_init_124 : decode cX6_init 124 = .ok (.bipush 41, 2) := by decide +kernel
theorem dX6_init_126 : decode cX6_init 126 = .ok (.newarray .int, 2) := by decide +kernel
theorem dX6_init_128 : decode cX6_init 128 = .ok (.putfield 55, 3) := by decide +kernel
theorem dX6_init_131 : decode cX6_init 131 = .ok (.aload_n 0, 1) := by decide +kernel
theorem dX6_init_132 : decode cX6_init 132 = .ok (.bipush 41, 2) := by decide +kernel
theorem dX6_init_134 : decode cX6_init 134 = .ok (.newarray .int, 2) := by decide +kernel
theorem dX6_init_136 : decode cX6_init 136 = .ok (.putfield 58, 3) := by decide +kernel
theorem dX6_init_139 : decode cX6_init 139 = .ok (.aload_n 0, 1) := by decide +kernel
theorem dX6_init_140 : decode cX6_init 140 = .ok (.bipush 18, 2) := by decide +kernel
theorem dX6_init_142 : decode cX6_init 142 = .ok (.newarray .int, 2) := by decide +kernel
theorem dX6_init_144 : decode cX6_init 144 = .ok (.putfield 61, 3) := by decide +kernel
theorem dX6_init_147 : decode cX6_init 147 = .ok (.aload_n 0, 1) := by decide +kernel
theorem dX6_init_148 : decode cX6_init 148 = .ok (.sipush 200, 3) := by decide +kernel
theorem dX6_init_151 : decode cX6_init 151 = .ok (.newarray .int, 2) := by decide +kernel
theorem dX6_init_153 : decode cX6_init 153 = .ok (.putfield 64, 3) := by decide +kernel
theorem dX6_init_156 : decode cX6_init 156 = .ok (.aload_n 0, 1) := by decide +kernel
theorem dX6_init_157 : decode cX6_init 157 = .ok (.sipush 200, 3) := by decide +kernel
theorem dX6_init_160 : decode cX6_init 160 = .ok (.newarray .int, 2) := by decide +kernel
theorem dX6_init_162 : decode cX6_init 162 = .ok (.putfield 67, 3) := by decide +kernel
theorem dX6_init_165 : decode cX6_init 165 = .ok (.aload_n 0, 1) := by decide +kernel
theorem dX6_init_166 : decode cX6_init 166 = .ok (.sipush 200, 3) := by decide +kernel
theorem dX6_init_169 : decode cX6_init 169 = .ok (.newarray .int, 2) := by decide +kernel
theorem dX6_init_171 : decode cX6_init 171 = .ok (.putfield 70, 3) := by decide +kernel
theorem dX6_init_174 : decode cX6_init 174 = .ok (.aload_n 0, 1) := by decide +kernel
theorem dX6_init_175 : decode cX6_init 175 = .ok (.sipush 200, 3) := by decide +kernel
theorem dX6_init_178 : decode cX6_init 178 = .ok (.newarray .int, 2) := by decide +kernel
theorem dX6_init_180 : decode cX6_init 180 = .ok (.putfield 73, 3) := by decide +kernel
theorem dX6_init_183 : decode cX6_init 183 = .ok (.aload_n 0, 1) := by decide +kernel
theorem dX6_init_184 : decode cX6_init 184 = .ok (.bipush 100, 2) := by decide +kernel
theorem dX6_init_186 : decode cX6_init 186 = .ok (.newarray .int, 2) := by decide +kernel
theorem dX6_init_188 : decode cX6_init 188 = .ok (.putfield 76, 3) := by decide +kernel
theorem dX6_init_191 : decode cX6_init 191 = .ok (.aload_n 0, 1) := by decide +kernel
theorem dX6_init_192 : decode cX6_init 192 = .ok (.bipush 100, 2) := by decide +kernel
theorem dX6_init_194 : decode cX6_init 194 = .ok (.newarray .int, 2) := by decide +kernel
theorem dX6_init_196 : decode cX6_init 196 = .ok (.putfield 79, 3) := by decide +kernel
theorem dX6_init_199 : decode cX6_init 199 = .ok (.aload_n 0, 1) := by decide +kernel
theorem dX6_init_200 : decode cX6_init 200 = .ok (.bipush 60, 2) := by decide +kernel
theorem dX6_init_202 : decode cX6_init 202 = .ok (.newarray .int, 2) := by decide +kernel
theorem dX6_init_204 : decode cX6_init 204 = .ok (.putfield 82, 3) := by decide +kernel
theorem dX6_init_207 : decode cX6_init 207 = .ok (.aload_n 0, 1) := by decide +kernel
theorem dX6_init_208 : decode cX6_init 208 = .ok (.bipush 18, 2) := by decide +kernel
theorem dX6_init_210 : decode cX6_init 210 = .ok (.newarray .int, 2) := by decide +kernel
theorem dX6_init_212 : decode cX6_init 212 = .ok (.putfield 85, 3) := by decide +kernel
theorem dX6_init_215 : decode cX6_init 215 = .ok (.aload_n 0, 1) := by decide +kernel
theorem dX6_init_216 : decode cX6_init 216 = .ok (.iconst (-1), 1) := by decide +kernel
theorem dX6_init_217 : decode cX6_init 217 = .ok (.putfield 88, 3) := by decide +kernel
theorem dX6_init_220 : decode cX6_init 220 = .ok (.aload_n 0, 1) := by decide +kernel
theorem dX6_init_221 : decode cX6_init 221 = .ok (.getfield 25, 3) := by decide +kernel
theorem dX6_init_224 : decode cX6_init 224 = .ok (.iconst 0, 1) := by decide +kernel
theorem dX6_init_225 : decode cX6_init 225 = .ok (.iconst (-1), 1) := by decide +kernel
theorem dX6_init_226 : decode cX6_init 226 = .ok (.iastore, 1) := by decide +kernel
theorem dX6_init_227 : decode cX6_init 227 = .ok (.return_, 1) := by decide +kernel
theorem dX6_in_0 : decode cX6_in 0 = .ok (.lload_n 0, 1) := by decide +kernel
theorem dX6_in_1 : decode cX6_in 1 = .ok (.lload_n 2, 1) := by decide +kernel
theorem dX6_in_2 : decode cX6_in 2 = .ok (.lcmp, 1) := by decide +kernel
theorem dX6_in_3 : decode cX6_in 3 = .ok (.ifCond .lt 14, 3) := by decide +kernel
theorem dX6_in_6 : decode cX6_in 6 = .ok (.lload_n 0, 1) := by decide +kernel
theorem dX6_in_7 : decode cX6_in 7 = .ok (.lload 4, 2) := by decide +kernel
theorem dX6_in_9 : decode cX6_in 9 = .ok (.lcmp, 1) := by decide +kernel
theorem dX6_in_10 : decode cX6_in 10 = .ok (.ifCond .gt 7, 3) := by decide +kernel
theorem dX6_in_13 : decode cX6_in 13 = .ok (.iconst 1, 1) := by decide +kernel
theorem dX6_in_14 : decode cX6_in 14 = .ok (.goto 4, 3) := by decide +kernel
theorem dX6_in_17 : decode cX6_in 17 = .ok (.iconst 0, 1) := by decide +kernel
theorem dX6_in_18 : decode cX6_in 18 = .ok (.ireturn, 1) := by decide +kernel
theorem dX6_copy_0 : decode cX6_copy 0 = .ok (.iconst 0, 1) := by decide +kernel
theorem dX6_copy_1 : decode cX6_copy 1 = .ok (.istore_n 2, 1) := by decide +kernel
theorem dX6_copy_2 : decode cX6_copy 2 = .ok (.iload_n 2, 1) := by decide +kernel
theorem dX6_copy_3 : decode cX6_copy 3 = .ok (.aload_n 0, 1) := by decide +kernel
theorem dX6_copy_4 : decode cX6_copy 4 = .ok (.arraylength, 1) := by decide +kernel
theorem dX6_copy_5 : decode cX6_copy 5 = .ok (.if_icmp .ge 15, 3) := by decide +kernel
theorem dX6_copy_8 : decode cX6_copy 8 = .ok (.aload_n 1, 1) := by decide +kernel
theorem dX6_copy_9 : decode cX6_copy 9 = .ok (.iload_n 2, 1) := by decide +kernel
theorem dX6_copy_10 : decode cX6_copy 10 = .ok (.aload_n 0, 1) := by decide +kernel
theorem dX6_copy_11 : decode cX6_copy 11 = .ok (.iload_n 2, 1) := by decide +kernel
theorem dX6_copy_12 : decode cX6_copy 12 = .ok (.iaload, 1) := by decide +kernel
theorem dX6_copy_13 : decode cX6_copy 13 = .ok (.iastore, 1) := by decide +kernel
theorem dX6_copy_14 : decode cX6_copy 14 = .ok (.iinc 2 1, 3) := by decide +kernel
theorem dX6_copy_17 : decode cX6_copy 17 = .ok (.goto (-15), 3) := by decide +kernel
theorem dX6_copy_20 : decode cX6_copy 20 = .ok (.return_, 1) := by decide +kernel
set_option maxRecDepth 20000 in
theorem ggX6_letter_X6_in : GoodIn wsX6_letter wsX6_in := goodIn_r _ [7] rfl (by decide +kernel)
set_option maxRecDepth 20000 in
theorem gX6_letter_X6_in : GoodIn wsX6_letter (va_wsS RX6 94 yX6_in wsX6_in) := goodIn_app (goodIn_of _ (by decide +kernel)) ggX6_letter_X6_in
theorem dX6_letter_0 : decode cX6_letter 0 = .ok (.iload_n 1, 1) := by decide +kernel
theorem dX6_letter_1 : decode cX6_letter 1 = .ok (.i2l, 1) := by decide +kernel
theorem dX6_letter_2 : decode cX6_letter 2 = .ok (.lconst 1, 1) := by decide +kernel
theorem dX6_letter_3 : decode cX6_letter 3 = .ok (.ldc2_w 92, 3) := by decide +kernel
theorem dX6_letter_6 : decode cX6_letter 6 = .ok (.invokestatic 94, 3) := by decide +kernel
theorem dX6_letter_9 : decode cX6_letter 9 = .ok (.ifCond .ne 6, 3) := by decide +kernel
theorem dX6_letter_12 : decode cX6_letter 12 = .ok (.bipush (-102), 2) := by decide +kernel
theorem dX6_letter_14 : decode cX6_letter 14 = .ok (.ireturn, 1) := by decide +kernel
theorem dX6_letter_15 : decode cX6_letter 15 = .ok (.aload_n 0, 1) := by decide +kernel
theorem dX6_letter_16 : decode cX6_letter 16 = .ok (.getfield 98, 3) := by decide +kernel
theorem dX6_letter_19 : decode cX6_letter 19 = .ok (.bipush 54, 2) := by decide +kernel
theorem dX6_letter_21 : decode cX6_letter 21 = .ok (.if_icmp .ne 6, 3) := by decide +kernel
theorem dX6_letter_24 : decode cX6_letter 24 = .ok (.bipush (-104), 2) := by decide +kernel
theorem dX6_letter_26 : decode cX6_letter 26 = .ok (.ireturn, 1) := by decide +kernel
theorem dX6_letter_27 : decode cX6_letter 27 = .ok (.aload_n 0, 1) := by decide +kernel
theorem dX6_letter_28 : decode cX6_letter 28 = .ok (.getfield 7, 3) := by decide +kernel
theorem dX6_letter_31 : decode cX6_letter 31 = .ok (.aload_n 0, 1) := by decide +kernel
theorem dX6_letter_32 : decode cX6_letter 32 = .ok (.getfield 98, 3) := by decide +kernel
theorem dX6_letter_35 : decode cX6_letter 35 = .ok (.iload_n 1, 1) := by decide +kernel
theorem dX6_letter_36 : decode cX6_letter 36 = .ok (.iastore, 1) := by decide +kernel
theorem dX6_letter_37 : decode cX6_letter 37 = .ok (.aload_n 0, 1) := by decide +kernel
theorem dX6_letter_38 : decode cX6_letter 38 = .ok (.dup, 1) := by decide +kernel
theorem dX6_letter_39 : decode cX6_letter 39 = .ok (.getfield 98, 3) := by decide +kernel
theorem dX6_letter_42 : decode cX6_letter 42 = .ok (.iconst 1, 1) := by decide +kernel
theorem dX6_letter_43 : decode cX6_letter 43 = .ok (.iadd, 1) := by decide +kernel
theorem dX6_letter_44 : decode cX6_letter 44 = .ok (.putfield 98, 3) := by decide +kernel
theorem dX6_letter_47 : decode cX6_letter 47 = .ok (.aload_n 0, 1) := by decide +kernel
theorem dX6_letter_48 : decode cX6_letter 48 = .ok (.getfield 98, 3) := by decide +kernel
theorem dX6_letter_51 : decode cX6_letter 51 = .ok (.ireturn, 1) := by decide +kernel
theorem dX6_blank_0 : decode cX6_blank 0 = .ok (.aload_n 0, 1) := by decide +kernel
theorem dX6_blank_1 : decode cX6_blank 1 = .ok (.getfield 98, 3) := by decide +kernel
theorem dX6_blank_4 : decode cX6_blank 4 = .ok (.istore_n 1, 1) := by decide +kernel
theorem dX6_blank_5 : decode cX6_blank 5 = .ok (.aload_n 0, 1) := by decide +kernel
theorem dX6_blank_6 : decode cX6_blank 6 = .ok (.iconst 0, 1) := by decide +kernel
theorem dX6_blank_7 : decode cX6_blank 7 = .ok (.putfield 98, 3) := by decide +kernel
theorem dX6_blank_10 : decode cX6_blank 10 = .ok (.iload_n 1, 1) := by decide +kernel
theorem dX6_blank_11 : decode cX6_blank 11 = .ok (.ireturn, 1) := by decide +kernel
theorem dX6_kindBy_0 : decode cX6_kindBy 0 = .ok (.iload_n 0, 1) := by decide +kernel
theorem dX6_kindBy_1 : decode cX6_kindBy 1 = .ok (.lookupswitch 61 #[(99, 55), (102, 57), (108, 53), (110, 51), (115, 59)], 51) := by decide +kernel
theorem dX6_kindBy_52 : decode cX6_kindBy 52 = .ok (.iconst 0, 1) := by decide +kernel
theorem dX6_kindBy_53 : decode cX6_kindBy 53 = .ok (.ireturn, 1) := by decide +kernel
theorem dX6_kindBy_54 : decode cX6_kindBy 54 = .ok (.iconst 1, 1) := by decide +kernel
theorem dX6_kindBy_55 : decode cX6_kindBy 55 = .ok (.ireturn, 1) := by decide +kernel
theorem dX6_kindBy_56 : decode cX6_kindBy 56 = .ok (.iconst 2, 1) := by decide +kernel
theorem dX6_kindBy_57 : decode cX6_kindBy 57 = .ok (.ireturn, 1) := by decide +kernel
theorem dX6_kindBy_58 : decode cX6_kindBy 58 = .ok (.iconst 3, 1) := by decide +kernel
theorem dX6_kindBy_59 : decode cX6_kindBy 59 = .ok (.ireturn, 1) := by decide +kernel
theorem dX6_kindBy_60 : decode cX6_kindBy 60 = .ok (.iconst 4, 1) := by decide +kernel
theorem dX6_kindBy_61 : decode cX6_kindBy 61 = .ok (.ireturn, 1) := by decide +kernel
theorem dX6_kindBy_62 : decode cX6_kindBy 62 = .ok (.iconst (-1), 1) := by decide +kernel
theorem dX6_kindBy_63 : decode cX6_kindBy 63 = .ok (.ireturn, 1) := by decide +kernel
set_option maxRecDepth 20000 in
theorem ggX6_isRatio_X6_in : GoodIn wsX6_isRatio wsX6_in := goodIn_r _ [5] rfl (by decide +kernel)
set_option maxRecDepth 20000 in
theorem gX6_isRatio_X6_in : GoodIn wsX6_isRatio (va_wsS RX6 94 yX6_in wsX6_in) := goodIn_app (goodIn_of _ (by decide +kernel)) ggX6_isRatio_X6_in
theorem dX6_isRatio_0 : decode cX6_isRatio 0 = .ok (.iload_n 1, 1) := by decide +kernel
theorem dX6_isRatio_1 : decode cX6_isRatio 1 = .ok (.i2l, 1) := by decide +kernel
theorem dX6_isRatio_2 : decode cX6_isRatio 2 = .ok (.lconst 1, 1) := by decide +kernel
theorem dX6_isRatio_3 : decode cX6_isRatio 3 = .ok (.ldc2_w 101, 3) := by decide +kernel
theorem dX6_isRatio_6 : decode cX6_isRatio 6 = .ok (.invokestatic 94, 3) := by decide +kernel
theorem dX6_isRatio_9 : decode cX6_isRatio 9 = .ok (.ifCond .eq 23, 3) := by decide +kernel
theorem dX6_isRatio_12 : decode cX6_isRatio 12 = .ok (.iload_n 0, 1) := by decide +kernel
theorem dX6_isRatio_13 : decode cX6_isRatio 13 = .ok (.ifCond .le 19, 3) := by decide +kernel
theorem dX6_isRatio_16 : decode cX6_isRatio 16 = .ok (.iload_n 0, 1) := by decide +kernel
theorem dX6_isRatio_17 : decode cX6_isRatio 17 = .ok (.iload_n 1, 1) := by decide +kernel
theorem dX6_isRatio_18 : decode cX6_isRatio 18 = .ok (.if_icmp .ge 14, 3) := by decide +kernel
theorem dX6_isRatio_21 : decode cX6_isRatio 21 = .ok (.iconst 2, 1) := by decide +kernel
theorem dX6_isRatio_22 : decode cX6_isRatio 22 = .ok (.iload_n 0, 1) := by decide +kernel
theorem dX6_isRatio_23 : decode cX6_isRatio 23 = .ok (.imul, 1) := by decide +kernel
theorem dX6_isRatio_24 : decode cX6_isRatio 24 = .ok (.iload_n 1, 1) := by decide +kernel
theorem dX6_isRatio_25 : decode cX6_isRatio 25 = .ok (.if_icmp .le 7, 3) := by decide +kernel
theorem dX6_isRatio_28 : decode cX6_isRatio 28 = .ok (.iconst 1, 1) := by decide +kernel
theorem dX6_isRatio_29 : decode cX6_isRatio 29 = .ok (.goto 4, 3) := by decide +kernel
theorem dX6_isRatio_32 : decode cX6_isRatio 32 = .ok (.iconst 0, 1) := by decide +kernel
theorem dX6_isRatio_33 : decode cX6_isRatio 33 = .ok (.ireturn, 1) := by decide +kernel
theorem dX6_keyAt_0 : decode cX6_keyAt 0 = .ok (.bipush 10, 2) := by decide +kernel
theorem dX6_keyAt_2 : decode cX6_keyAt 2 = .ok (.aload_n 0, 1) := by decide +kernel
theorem dX6_keyAt_3 : decode cX6_keyAt 3 = .ok (.getfield 7, 3) := by decide +kernel
theorem dX6_keyAt_6 : decode cX6_keyAt 6 = .ok (.iload_n 1, 1) := by decide +kernel
theorem dX6_keyAt_7 : decode cX6_keyAt 7 = .ok (.iaload, 1) := by decide +kernel
theorem dX6_keyAt_8 : decode cX6_keyAt 8 = .ok (.bipush 48, 2) := by decide +kernel
theorem dX6_keyAt_10 : decode cX6_keyAt 10 = .ok (.isub, 1) := by decide +kernel
theorem dX6_keyAt_11 : decode cX6_keyAt 11 = .ok (.imul, 1) := by decide +kernel
theorem dX6_keyAt_12 : decode cX6_keyAt 12 = .ok (.aload_n 0, 1) := by decide +kernel
theorem dX6_keyAt_13 : decode cX6_keyAt 13 = .ok (.getfield 7, 3) := by decide +kernel
theorem dX6_keyAt_16 : decode cX6_keyAt 16 = .ok (.iload_n 1, 1) := by decide +kernel
theorem dX6_keyAt_17 : decode cX6_keyAt 17 = .ok (.iconst 1, 1) := by decide +kernel
theorem dX6_keyAt_18 : decode cX6_keyAt 18 = .ok (.iadd, 1) := by decide +kernel
theorem dX6_keyAt_19 : decode cX6_keyAt 19 = .ok (.iaload, 1) := by decide +kernel
theorem dX6_keyAt_20 : decode cX6_keyAt 20 = .ok (.iadd, 1) := by decide +kernel
theorem dX6_keyAt_21 : decode cX6_keyAt 21 = .ok (.bipush 48, 2) := by decide +kernel
theorem dX6_keyAt_23 : decode cX6_keyAt 23 = .ok (.isub, 1) := by decide +kernel
theorem dX6_keyAt_24 : decode cX6_keyAt 24 = .ok (.ireturn, 1) := by decide +kernel
set_option maxRecDepth 20000 in
theorem ggX6_isTold_X6_keyAt : GoodIn wsX6_isTold wsX6_keyAt := goodIn_r _ [5, 6, 7, 8, 9, 10, 11, 12, 13, 14, 15, 16, 17, 18, 19, 20, 21, 22, 23, 24, 25, 26, 27, 28, 29, 30, 31, 32, 33, 34, 35, 36, 37, 38, 39, 40, 41, 42, 43, 44, 45, 46, 47, 48, 49, 50, 51, 52, 53, 54, 55, 56] rfl (by decide +kernel)
set_option maxRecDepth 20000 in
theorem gX6_isTold_X6_keyAt : GoodIn wsX6_isTold (wsV RX6 103 RX6 yX6_keyAt wsX6_keyAt) := goodIn_app (goodIn_of _ (by decide +kernel)) ggX6_isTold_X6_keyAt
theorem dX6_isTold_0 : decode cX6_isTold 0 = .ok (.iconst 0, 1) := by decide +kernel
theorem dX6_isTold_1 : decode cX6_isTold 1 = .ok (.istore_n 2, 1) := by decide +kernel
theorem dX6_isTold_2 : decode cX6_isTold 2 = .ok (.bipush 6, 2) := by decide +kernel
theorem dX6_isTold_4 : decode cX6_isTold 4 = .ok (.istore_n 3, 1) := by decide +kernel
theorem dX6_isTold_5 : decode cX6_isTold 5 = .ok (.iload_n 3, 1) := by decide +kernel
theorem dX6_isTold_6 : decode cX6_isTold 6 = .ok (.iconst 1, 1) := by decide +kernel
theorem dX6_isTold_7 : decode cX6_isTold 7 = .ok (.iadd, 1) := by decide +kernel
theorem dX6_isTold_8 : decode cX6_isTold 8 = .ok (.iload_n 1, 1) := by decide +kernel
theorem dX6_isTold_9 : decode cX6_isTold 9 = .ok (.if_icmp .ge 34, 3) := by decide +kernel
theorem dX6_isTold_12 : decode cX6_isTold 12 = .ok (.iload_n 2, 1) := by decide +kernel
theorem dX6_isTold_13 : decode cX6_isTold 13 = .ok (.ifCond .ne 18, 3) := by decide +kernel
theorem dX6_isTold_16 : decode cX6_isTold 16 = .ok (.aload_n 0, 1) := by decide +kernel
theorem dX6_isTold_17 : decode cX6_isTold 17 = .ok (.iload_n 3, 1) := by decide +kernel
theorem dX6_isTold_18 : decode cX6_isTold 18 = .ok (.invokevirtual 103, 3) := by decide +kernel
theorem dX6_isTold_21 : decode cX6_isTold 21 = .ok (.aload_n 0, 1) := by decide +kernel
theorem dX6_isTold_22 : decode cX6_isTold 22 = .ok (.iload_n 1, 1) := by decide +kernel
theorem dX6_isTold_23 : decode cX6_isTold 23 = .ok (.iconst 1, 1) := by decide +kernel
theorem dX6_isTold_24 : decode cX6_isTold 24 = .ok (.isub, 1) := by decide +kernel
theorem dX6_isTold_25 : decode cX6_isTold 25 = .ok (.invokevirtual 103, 3) := by decide +kernel
theorem dX6_isTold_28 : decode cX6_isTold 28 = .ok (.if_icmp .ne 7, 3) := by decide +kernel
theorem dX6_isTold_31 : decode cX6_isTold 31 = .ok (.iconst 1, 1) := by decide +kernel
theorem dX6_isTold_32 : decode cX6_isTold 32 = .ok (.goto 4, 3) := by decide +kernel
theorem dX6_isTold_35 : decode cX6_isTold 35 = .ok (.iconst 0, 1) := by decide +kernel
theorem dX6_isTold_36 : decode cX6_isTold 36 = .ok (.istore_n 2, 1) := by decide +kernel
theorem dX6_isTold_37 : decode cX6_isTold 37 = .ok (.iinc 3 6, 3) := by decide +kernel
theorem dX6_isTold_40 : decode cX6_isTold 40 = .ok (.goto (-35), 3) := by decide +kernel
theorem dX6_isTold_43 : decode cX6_isTold 43 = .ok (.iload_n 2, 1) := by decide +kernel
theorem dX6_isTold_44 : decode cX6_isTold 44 = .ok (.ireturn, 1) := by decide +kernel
set_option maxRecDepth 20000 in
theorem ggX6_isEntrySign_X6_kindBy : GoodIn wsX6_isEntrySign wsX6_kindBy := goodIn_r _ [7] rfl (by decide +kernel)
set_option maxRecDepth 20000 in
theorem gX6_isEntrySign_X6_kindBy : GoodIn wsX6_isEntrySign (va_wsS RX6 107 yX6_kindBy wsX6_kindBy) := goodIn_app (goodIn_of _ (by decide +kernel)) ggX6_isEntrySign_X6_kindBy
set_option maxRecDepth 20000 in
theorem ggX6_isEntrySign_X6_in : GoodIn wsX6_isEntrySign wsX6_in := goodIn_r _ [10] rfl (by decide +kernel)
set_option maxRecDepth 20000 in
theorem gX6_isEntrySign_X6_in : GoodIn wsX6_isEntrySign (va_wsS RX6 94 yX6_in wsX6_in) := goodIn_app (goodIn_of _ (by decide +kernel)) ggX6_isEntrySign_X6_in
set_option maxRecDepth 20000 in
theorem ggX6_isEntrySign_X6_isTold : GoodIn wsX6_isEntrySign wsX6_isTold := goodIn_r _ [14, 15, 16, 17, 6, 18, 1, 19, 20, 21, 22, 23, 24, 25, 26, 27, 28, 29, 30, 31, 32, 33, 34, 35, 36, 37, 38, 39, 40, 41, 42, 43, 44, 45, 46, 47, 48, 49, 50, 51, 52, 53, 54, 55, 56, 57, 58, 59, 60, 61, 62, 63, 64, 65, 66, 67, 68] rfl (by decide +kernel)
set_option maxRecDepth 20000 in
theorem gX6_isEntrySign_X6_isTold : GoodIn wsX6_isEntrySign (wsV RX6 114 RX6 yX6_isTold wsX6_isTold) := goodIn_app (goodIn_of _ (by decide +kernel)) ggX6_isEntrySign_X6_isTold
theorem dX6_isEntrySign_0 : decode cX6_isEntrySign 0 = .ok (.aload_n 0, 1) := by decide +kernel
theorem dX6_isEntrySign_1 : decode cX6_isEntrySign 1 = .ok (.getfield 7, 3) := by decide +kernel
theorem dX6_isEntrySign_4 : decode cX6_isEntrySign 4 = .ok (.iload_n 1, 1) := by decide +kernel
theorem dX6_isEntrySign_5 : decode cX6_isEntrySign 5 = .ok (.iaload, 1) := by decide +kernel
theorem dX6_isEntrySign_6 : decode cX6_isEntrySign 6 = .ok (.istore_n 2, 1) := by decide +kernel
theorem dX6_isEntrySign_7 : decode cX6_isEntrySign 7 = .ok (.iload_n 1, 1) := by decide +kernel
theorem dX6_isEntrySign_8 : decode cX6_isEntrySign 8 = .ok (.iconst 5, 1) := by decide +kernel
theorem dX6_isEntrySign_9 : decode cX6_isEntrySign 9 = .ok (.isub, 1) := by decide +kernel
theorem dX6_isEntrySign_10 : decode cX6_isEntrySign 10 = .ok (.bipush 6, 2) := by decide +kernel
theorem dX6_isEntrySign_12 : decode cX6_isEntrySign 12 = .ok (.irem, 1) := by decide +kernel
theorem dX6_isEntrySign_13 : decode cX6_isEntrySign 13 = .ok (.tableswitch 101 0 4 #[35, 49, 61, 89, 49], 35) := by decide +kernel
theorem dX6_isEntrySign_48 : decode cX6_isEntrySign 48 = .ok (.iload_n 2, 1) := by decide +kernel
theorem dX6_isEntrySign_49 : decode cX6_isEntrySign 49 = .ok (.invokestatic 107, 3) := by decide +kernel
theorem dX6_isEntrySign_52 : decode cX6_isEntrySign 52 = .ok (.iconst (-1), 1) := by decide +kernel
theorem dX6_isEntrySign_53 : decode cX6_isEntrySign 53 = .ok (.if_icmp .eq 7, 3) := by decide +kernel
theorem dX6_isEntrySign_56 : decode cX6_isEntrySign 56 = .ok (.iconst 1, 1) := by decide +kernel
theorem dX6_isEntrySign_57 : decode cX6_isEntrySign 57 = .ok (.goto 4, 3) := by decide +kernel
theorem dX6_isEntrySign_60 : decode cX6_isEntrySign 60 = .ok (.iconst 0, 1) := by decide +kernel
theorem dX6_isEntrySign_61 : decode cX6_isEntrySign 61 = .ok (.ireturn, 1) := by decide +kernel
theorem dX6_isEntrySign_62 : decode cX6_isEntrySign 62 = .ok (.iload_n 2, 1) := by decide +kernel
theorem dX6_isEntrySign_63 : decode cX6_isEntrySign 63 = .ok (.i2l, 1) := by decide +kernel
theorem dX6_isEntrySign_64 : decode cX6_isEntrySign 64 = .ok (.ldc2_w 110, 3) := by decide +kernel
theorem dX6_isEntrySign_67 : decode cX6_isEntrySign 67 = .ok (.ldc2_w 112, 3) := by decide +kernel
theorem dX6_isEntrySign_70 : decode cX6_isEntrySign 70 = .ok (.invokestatic 94, 3) := by decide +kernel
theorem dX6_isEntrySign_73 : decode cX6_isEntrySign 73 = .ok (.ireturn, 1) := by decide +kernel
theorem dX6_isEntrySign_74 : decode cX6_isEntrySign 74 = .ok (.iload_n 2, 1) := by decide +kernel
theorem dX6_isEntrySign_75 : decode cX6_isEntrySign 75 = .ok (.i2l, 1) := by decide +kernel
theorem dX6_isEntrySign_76 : decode cX6_isEntrySign 76 = .ok (.ldc2_w 110, 3) := by decide +kernel
theorem dX6_isEntrySign_79 : decode cX6_isEntrySign 79 = .ok (.ldc2_w 112, 3) := by decide +kernel
theorem dX6_isEntrySign_82 : decode cX6_isEntrySign 82 = .ok (.invokestatic 94, 3) := by decide +kernel
theorem dX6_isEntrySign_85 : decode cX6_isEntrySign 85 = .ok (.ifCond .eq 15, 3) := by decide +kernel
theorem dX6_isEntrySign_88 : decode cX6_isEntrySign 88 = .ok (.aload_n 0, 1) := by decide +kernel
theorem dX6_isEntrySign_89 : decode cX6_isEntrySign 89 = .ok (.iload_n 1, 1) := by decide +kernel
theorem dX6_isEntrySign_90 : decode cX6_isEntrySign 90 = .ok (.invokevirtual 114, 3) := by decide +kernel
theorem dX6_isEntrySign_93 : decode cX6_isEntrySign 93 = .ok (.ifCond .ne 7, 3) := by decide +kernel
theorem dX6_isEntrySign_96 : decode cX6_isEntrySign 96 = .ok (.iconst 1, 1) := by decide +kernel
theorem dX6_isEntrySign_97 : decode cX6_isEntrySign 97 = .ok (.goto 4, 3) := by decide +kernel
theorem dX6_isEntrySign_100 : decode cX6_isEntrySign 100 = .ok (.iconst 0, 1) := by decide +kernel
theorem dX6_isEntrySign_101 : decode cX6_isEntrySign 101 = .ok (.ireturn, 1) := by decide +kernel
theorem dX6_isEntrySign_102 : decode cX6_isEntrySign 102 = .ok (.iload_n 2, 1) := by decide +kernel
theorem dX6_isEntrySign_103 : decode cX6_isEntrySign 103 = .ok (.bipush 61, 2) := by decide +kernel
theorem dX6_isEntrySign_105 : decode cX6_isEntrySign 105 = .ok (.if_icmp .ne 7, 3) := by decide +kernel
theorem dX6_isEntrySign_108 : decode cX6_isEntrySign 108 = .ok (.iconst 1, 1) := by decide +kernel
theorem dX6_isEntrySign_109 : decode cX6_isEntrySign 109 = .ok (.goto 4, 3) := by decide +kernel
theorem dX6_isEntrySign_112 : decode cX6_isEntrySign 112 = .ok (.iconst 0, 1) := by decide +kernel
theorem dX6_isEntrySign_113 : decode cX6_isEntrySign 113 = .ok (.ireturn, 1) := by decide +kernel
theorem dX6_isEntrySign_114 : decode cX6_isEntrySign 114 = .ok (.iload_n 2, 1) := by decide +kernel
theorem dX6_isEntrySign_115 : decode cX6_isEntrySign 115 = .ok (.bipush 44, 2) := by decide +kernel
theorem dX6_isEntrySign_117 : decode cX6_isEntrySign 117 = .ok (.if_icmp .ne 13, 3) := by decide +kernel
theorem dX6_isEntrySign_120 : decode cX6_isEntrySign 120 = .ok (.iload_n 1, 1) := by decide +kernel
theorem dX6_isEntrySign_121 : decode cX6_isEntrySign 121 = .ok (.bipush 52, 2) := by decide +kernel
theorem dX6_isEntrySign_123 : decode cX6_isEntrySign 123 = .ok (.if_icmp .ge 7, 3) := by decide +kernel
theorem dX6_isEntrySign_126 : decode cX6_isEntrySign 126 = .ok (.iconst 1, 1) := by decide +kernel
theorem dX6_isEntrySign_127 : decode cX6_isEntrySign 127 = .ok (.goto 4, 3) := by decide +kernel
theorem dX6_isEntrySign_130 : decode cX6_isEntrySign 130 = .ok (.iconst 0, 1) := by decide +kernel
theorem dX6_isEntrySign_131 : decode cX6_isEntrySign 131 = .ok (.ireturn, 1) := by decide +kernel
set_option maxRecDepth 20000 in
theorem ggX6_isGood_X6_in : GoodIn wsX6_isGood wsX6_in := goodIn_r _ [9] rfl (by decide +kernel)
set_option maxRecDepth 20000 in
theorem gX6_isGood_X6_in : GoodIn wsX6_isGood (va_wsS RX6 94 yX6_in wsX6_in) := goodIn_app (goodIn_of _ (by decide +kernel)) ggX6_isGood_X6_in
set_option maxRecDepth 20000 in
theorem ggX6_isGood_X6_isRatio : GoodIn wsX6_isGood wsX6_isRatio := goodIn_r _ [12, 13, 6, 7, 8, 9] rfl (by decide +kernel)
set_option maxRecDepth 20000 in
theorem gX6_isGood_X6_isRatio : GoodIn wsX6_isGood (va_wsS RX6 122 yX6_isRatio wsX6_isRatio) := goodIn_app (goodIn_of _ (by decide +kernel)) ggX6_isGood_X6_isRatio
set_option maxRecDepth 20000 in
theorem ggX6_isGood_X6_isEntrySign : GoodIn wsX6_isGood wsX6_isEntrySign := goodIn_r _ [17, 1, 18, 5, 19, 20, 8, 21, 6, 7, 9, 22, 23, 24, 25, 26, 27, 28, 29, 30, 31, 32, 33, 34, 35, 36, 37, 38, 39, 40, 41, 42, 43, 44, 45, 46, 47, 48, 49, 50, 51, 52, 53, 54, 55, 56, 57, 58, 59, 60, 61, 62, 63, 64, 65, 66, 67, 68, 69, 70, 71, 72, 73, 74, 75, 76, 77, 78, 79] rfl (by decide +kernel)
set_option maxRecDepth 20000 in
theorem gX6_isGood_X6_isEntrySign : GoodIn wsX6_isGood (wsV RX6 128 RX6 yX6_isEntrySign wsX6_isEntrySign) := goodIn_app (goodIn_of _ (by decide +kernel)) ggX6_isGood_X6_isEntrySign
theorem dX6_isGood_0 : decode cX6_isGood 0 = .ok (.aload_n 0, 1) := by decide +kernel
theorem dX6_isGood_1 : decode cX6_isGood 1 = .ok (.getfield 7, 3) := by decide +kernel
theorem dX6_isGood_4 : decode cX6_isGood 4 = .ok (.iload_n 1, 1) := by decide +kernel
theorem dX6_isGood_5 : decode cX6_isGood 5 = .ok (.iaload, 1) := by decide +kernel
theorem dX6_isGood_6 : decode cX6_isGood 6 = .ok (.istore_n 2, 1) := by decide +kernel
theorem dX6_isGood_7 : decode cX6_isGood 7 = .ok (.iload_n 1, 1) := by decide +kernel
theorem dX6_isGood_8 : decode cX6_isGood 8 = .ok (.tableswitch 89 0 4 #[36, 48, 77, 65, 77], 36) := by decide +kernel
theorem dX6_isGood_44 : decode cX6_isGood 44 = .ok (.iload_n 2, 1) := by decide +kernel
theorem dX6_isGood_45 : decode cX6_isGood 45 = .ok (.i2l, 1) := by decide +kernel
theorem dX6_isGood_46 : decode cX6_isGood 46 = .ok (.ldc2_w 118, 3) := by decide +kernel
theorem dX6_isGood_49 : decode cX6_isGood 49 = .ok (.ldc2_w 120, 3) := by decide +kernel
theorem dX6_isGood_52 : decode cX6_isGood 52 = .ok (.invokestatic 94, 3) := by decide +kernel
theorem dX6_isGood_55 : decode cX6_isGood 55 = .ok (.ireturn, 1) := by decide +kernel
theorem dX6_isGood_56 : decode cX6_isGood 56 = .ok (.aload_n 0, 1) := by decide +kernel
theorem dX6_isGood_57 : decode cX6_isGood 57 = .ok (.getfield 7, 3) := by decide +kernel
theorem dX6_isGood_60 : decode cX6_isGood 60 = .ok (.iconst 0, 1) := by decide +kernel
theorem dX6_isGood_61 : decode cX6_isGood 61 = .ok (.iaload, 1) := by decide +kernel
theorem dX6_isGood_62 : decode cX6_isGood 62 = .ok (.bipush 48, 2) := by decide +kernel
theorem dX6_isGood_64 : decode cX6_isGood 64 = .ok (.isub, 1) := by decide +kernel
theorem dX6_isGood_65 : decode cX6_isGood 65 = .ok (.iload_n 2, 1) := by decide +kernel
theorem dX6_isGood_66 : decode cX6_isGood 66 = .ok (.bipush 48, 2) := by decide +kernel
theorem dX6_isGood_68 : decode cX6_isGood 68 = .ok (.isub, 1) := by decide +kernel
theorem dX6_isGood_69 : decode cX6_isGood 69 = .ok (.invokestatic 122, 3) := by decide +kernel
theorem dX6_isGood_72 : decode cX6_isGood 72 = .ok (.ireturn, 1) := by decide +kernel
theorem dX6_isGood_73 : decode cX6_isGood 73 = .ok (.iload_n 2, 1) := by decide +kernel
theorem dX6_isGood_74 : decode cX6_isGood 74 = .ok (.i2l, 1) := by decide +kernel
theorem dX6_isGood_75 : decode cX6_isGood 75 = .ok (.ldc2_w 126, 3) := by decide +kernel
theorem dX6_isGood_78 : decode cX6_isGood 78 = .ok (.ldc2_w 112, 3) := by decide +kernel
theorem dX6_isGood_81 : decode cX6_isGood 81 = .ok (.invokestatic 94, 3) := by decide +kernel
theorem dX6_isGood_84 : decode cX6_isGood 84 = .ok (.ireturn, 1) := by decide +kernel
theorem dX6_isGood_85 : decode cX6_isGood 85 = .ok (.iload_n 2, 1) := by decide +kernel
theorem dX6_isGood_86 : decode cX6_isGood 86 = .ok (.bipush 59, 2) := by decide +kernel
theorem dX6_isGood_88 : decode cX6_isGood 88 = .ok (.if_icmp .ne 7, 3) := by decide +kernel
theorem dX6_isGood_91 : decode cX6_isGood 91 = .ok (.iconst 1, 1) := by decide +kernel
theorem dX6_isGood_92 : decode cX6_isGood 92 = .ok (.goto 4, 3) := by decide +kernel
theorem dX6_isGood_95 : decode cX6_isGood 95 = .ok (.iconst 0, 1) := by decide +kernel
theorem dX6_isGood_96 : decode cX6_isGood 96 = .ok (.ireturn, 1) := by decide +kernel
theorem dX6_isGood_97 : decode cX6_isGood 97 = .ok (.aload_n 0, 1) := by decide +kernel
theorem dX6_isGood_98 : decode cX6_isGood 98 = .ok (.iload_n 1, 1) := by decide +kernel
theorem dX6_isGood_99 : decode cX6_isGood 99 = .ok (.invokevirtual 128, 3) := by decide +kernel
theorem dX6_isGood_102 : decode cX6_isGood 102 = .ok (.ireturn, 1) := by decide +kernel
set_option maxRecDepth 20000 in
theorem ggX6_faultOf_X6_isGood : GoodIn wsX6_faultOf wsX6_isGood := goodIn_r _ [6, 7, 8, 9, 10, 11, 12, 13, 5, 14, 15, 16, 17, 18, 19, 20, 21, 22, 23, 24, 25, 26, 27, 28, 29, 30, 31, 32, 33, 34, 35, 36, 37, 38, 39, 40, 41, 42, 43, 44, 45, 46, 47, 48, 49, 50, 51, 52, 53, 54, 55, 56, 57, 58, 59, 60, 61, 62, 63, 64, 65, 66, 67, 68, 69, 70, 71, 72, 73, 74, 75, 76, 77, 78, 79, 80, 81, 82, 83, 84] rfl (by decide +kernel)
set_option maxRecDepth 20000 in
theorem gX6_faultOf_X6_isGood : GoodIn wsX6_faultOf (wsV RX6 131 RX6 yX6_isGood wsX6_isGood) := goodIn_app (goodIn_of _ (by decide +kernel)) ggX6_faultOf_X6_isGood
theorem dX6_faultOf_0 : decode cX6_faultOf 0 = .ok (.iconst 0, 1) := by decide +kernel
theorem dX6_faultOf_1 : decode cX6_faultOf 1 = .ok (.istore_n 1, 1) := by decide +kernel
theorem dX6_faultOf_2 : decode cX6_faultOf 2 = .ok (.iload_n 1, 1) := by decide +kernel
theorem dX6_faultOf_3 : decode cX6_faultOf 3 = .ok (.aload_n 0, 1) := by decide +kernel
theorem dX6_faultOf_4 : decode cX6_faultOf 4 = .ok (.getfield 98, 3) := by decide +kernel
theorem dX6_faultOf_7 : decode cX6_faultOf 7 = .ok (.if_icmp .ge 17, 3) := by decide +kernel
theorem dX6_faultOf_10 : decode cX6_faultOf 10 = .ok (.aload_n 0, 1) := by decide +kernel
theorem dX6_faultOf_11 : decode cX6_faultOf 11 = .ok (.iload_n 1, 1) := by decide +kernel
theorem dX6_faultOf_12 : decode cX6_faultOf 12 = .ok (.invokevirtual 131, 3) := by decide +kernel
theorem dX6_faultOf_15 : decode cX6_faultOf 15 = .ok (.ifCond .eq 9, 3) := by decide +kernel
theorem dX6_faultOf_18 : decode cX6_faultOf 18 = .ok (.iinc 1 1, 3) := by decide +kernel
theorem dX6_faultOf_21 : decode cX6_faultOf 21 = .ok (.goto (-19), 3) := by decide +kernel
theorem dX6_faultOf_24 : decode cX6_faultOf 24 = .ok (.iload_n 1, 1) := by decide +kernel
theorem dX6_faultOf_25 : decode cX6_faultOf 25 = .ok (.ireturn, 1) := by decide +kernel
set_option maxRecDepth 20000 in
theorem ggX6_fault_X6_faultOf : GoodIn wsX6_fault wsX6_faultOf := goodIn_r _ [5, 6, 7, 8, 9, 4, 10, 11, 12, 13, 14, 15, 16, 17, 18, 19, 20, 21, 22, 23, 24, 25, 26, 27, 28, 29, 30, 31, 32, 33, 34, 35, 36, 37, 38, 39, 40, 41, 42, 43, 44, 45, 46, 47, 48, 49, 50, 51, 52, 53, 54, 55, 56, 57, 58, 59, 60, 61, 62, 63, 64, 65, 66, 67, 68, 69, 70, 71, 72, 73, 74, 75, 76, 77, 78, 79, 80, 81, 82, 83, 84, 85, 86, 87, 88] rfl (by decide +kernel)
set_option maxRecDepth 20000 in
theorem gX6_fault_X6_faultOf : GoodIn wsX6_fault (wsV RX6 134 RX6 yX6_faultOf wsX6_faultOf) := goodIn_app (goodIn_of _ (by decide +kernel)) ggX6_fault_X6_faultOf
theorem dX6_fault_0 : decode cX6_fault 0 = .ok (.aload_n 0, 1) := by decide +kernel
theorem dX6_fault_1 : decode cX6_fault 1 = .ok (.invokevirtual 134, 3) := by decide +kernel
theorem dX6_fault_4 : decode cX6_fault 4 = .ok (.ireturn, 1) := by decide +kernel
theorem dX6_a_0 : decode cX6_a 0 = .ok (.iload_n 1, 1) := by decide +kernel
theorem dX6_a_1 : decode cX6_a 1 = .ok (.ifCond .ne 10, 3) := by decide +kernel
theorem dX6_a_4 : decode cX6_a 4 = .ok (.aload_n 0, 1) := by decide +kernel
theorem dX6_a_5 : decode cX6_a 5 = .ok (.getfield 138, 3) := by decide +kernel
theorem dX6_a_8 : decode cX6_a 8 = .ok (.goto 7, 3) := by decide +kernel
theorem dX6_a_11 : decode cX6_a 11 = .ok (.aload_n 0, 1) := by decide +kernel
theorem dX6_a_12 : decode cX6_a 12 = .ok (.getfield 141, 3) := by decide +kernel
theorem dX6_a_15 : decode cX6_a 15 = .ok (.ireturn, 1) := by decide +kernel
theorem dX6_b_0 : decode cX6_b 0 = .ok (.iload_n 1, 1) := by decide +kernel
theorem dX6_b_1 : decode cX6_b 1 = .ok (.ifCond .ne 10, 3) := by decide +kernel
theorem dX6_b_4 : decode cX6_b 4 = .ok (.aload_n 0, 1) := by decide +kernel
theorem dX6_b_5 : decode cX6_b 5 = .ok (.getfield 144, 3) := by decide +kernel
theorem dX6_b_8 : decode cX6_b 8 = .ok (.goto 7, 3) := by decide +kernel
theorem dX6_b_11 : decode cX6_b 11 = .ok (.aload_n 0, 1) := by decide +kernel
theorem dX6_b_12 : decode cX6_b 12 = .ok (.getfield 147, 3) := by decide +kernel
theorem dX6_b_15 : decode cX6_b 15 = .ok (.ireturn, 1) := by decide +kernel
theorem dX6_empty_0 : decode cX6_empty 0 = .ok (.iconst 0, 1) := by decide +kernel
theorem dX6_empty_1 : decode cX6_empty 1 = .ok (.istore_n 2, 1) := by decide +kernel
theorem dX6_empty_2 : decode cX6_empty 2 = .ok (.iload_n 2, 1) := by decide +kernel
theorem dX6_empty_3 : decode cX6_empty 3 = .ok (.bipush 100, 2) := by decide +kernel
theorem dX6_empty_5 : decode cX6_empty 5 = .ok (.if_icmp .ge 21, 3) := by decide +kernel
theorem dX6_empty_8 : decode cX6_empty 8 = .ok (.aload_n 0, 1) := by decide +kernel
theorem dX6_empty_9 : decode cX6_empty 9 = .ok (.getfield 22, 3) := by decide +kernel
theorem dX6_empty_12 : decode cX6_empty 12 = .ok (.bipush 100, 2) := by decide +kernel
theorem dX6_empty_14 : decode cX6_empty 14 = .ok (.iload_n 1, 1) := by decide +kernel
theorem dX6_empty_15 : decode cX6_empty 15 = .ok (.imul, 1) := by decide +kernel
theorem dX6_empty_16 : decode cX6_empty 16 = .ok (.iload_n 2, 1) := by decide +kernel
theorem dX6_empty_17 : decode cX6_empty 17 = .ok (.iadd, 1) := by decide +kernel
theorem dX6_empty_18 : decode cX6_empty 18 = .ok (.iconst 0, 1) := by decide +kernel
theorem dX6_empty_19 : decode cX6_empty 19 = .ok (.iastore, 1) := by decide +kernel
theorem dX6_empty_20 : decode cX6_empty 20 = .ok (.iinc 2 1, 3) := by decide +kernel
theorem dX6_empty_23 : decode cX6_empty 23 = .ok (.goto (-21), 3) := by decide +kernel
theorem dX6_empty_26 : decode cX6_empty 26 = .ok (.aload_n 0, 1) := by decide +kernel
theorem dX6_empty_27 : decode cX6_empty 27 = .ok (.getfield 25, 3) := by decide +kernel
theorem dX6_empty_30 : decode cX6_empty 30 = .ok (.iload_n 1, 1) := by decide +kernel
theorem dX6_empty_31 : decode cX6_empty 31 = .ok (.iconst (-1), 1) := by decide +kernel
theorem dX6_empty_32 : decode cX6_empty 32 = .ok (.iastore, 1) := by decide +kernel
theorem dX6_empty_33 : decode cX6_empty 33 = .ok (.aload_n 0, 1) := by decide +kernel
theorem dX6_empty_34 : decode cX6_empty 34 = .ok (.getfield 28, 3) := by decide +kernel
theorem dX6_empty_37 : decode cX6_empty 37 = .ok (.iload_n 1, 1) := by decide +kernel
theorem dX6_empty_38 : decode cX6_empty 38 = .ok (.iconst 0, 1) := by decide +kernel
theorem dX6_empty_39 : decode cX6_empty 39 = .ok (.iastore, 1) := by decide +kernel
theorem dX6_empty_40 : decode cX6_empty 40 = .ok (.aload_n 0, 1) := by decide +kernel
theorem dX6_empty_41 : decode cX6_empty 41 = .ok (.getfield 31, 3) := by decide +kernel
theorem dX6_empty_44 : decode cX6_empty 44 = .ok (.iload_n 1, 1) := by decide +kernel
theorem dX6_empty_45 : decode cX6_empty 45 = .ok (.iconst 0, 1) := by decide +kernel
theorem dX6_empty_46 : decode cX6_empty 46 = .ok (.iastore, 1) := by decide +kernel
theorem dX6_empty_47 : decode cX6_empty 47 = .ok (.aload_n 0, 1) := by decide +kernel
theorem dX6_empty_48 : decode cX6_empty 48 = .ok (.getfield 34, 3) := by decide +kernel
theorem dX6_empty_51 : decode cX6_empty 51 = .ok (.iload_n 1, 1) := by decide +kernel
theorem dX6_empty_52 : decode cX6_empty 52 = .ok (.iconst 0, 1) := by decide +kernel
theorem dX6_empty_53 : decode cX6_empty 53 = .ok (.iastore, 1) := by decide +kernel
theorem dX6_empty_54 : decode cX6_empty 54 = .ok (.aload_n 0, 1) := by decide +kernel
theorem dX6_empty_55 : decode cX6_empty 55 = .ok (.getfield 37, 3) := by decide +kernel
theorem dX6_empty_58 : decode cX6_empty 58 = .ok (.iload_n 1, 1) := by decide +kernel
theorem dX6_empty_59 : decode cX6_empty 59 = .ok (.iconst 0, 1) := by decide +kernel
theorem dX6_empty_60 : decode cX6_empty 60 = .ok (.iastore, 1) := by decide +kernel
theorem dX6_empty_61 : decode cX6_empty 61 = .ok (.return_, 1) := by decide +kernel
theorem dX6_begin_0 : decode cX6_begin 0 = .ok (.iconst 0, 1) := by decide +kernel
theorem dX6_begin_1 : decode cX6_begin 1 = .ok (.istore_n 1, 1) := by decide +kernel
theorem dX6_begin_2 : decode cX6_begin 2 = .ok (.iload_n 1, 1) := by decide +kernel
theorem dX6_begin_3 : decode cX6_begin 3 = .ok (.bipush 100, 2) := by decide +kernel
theorem dX6_begin_5 : decode cX6_begin 5 = .ok (.if_icmp .ge 69, 3) := by decide +kernel
theorem dX6_begin_8 : decode cX6_begin 8 = .ok (.aload_n 0, 1) := by decide +kernel
theorem dX6_begin_9 : decode cX6_begin 9 = .ok (.getfield 13, 3) := by decide +kernel
theorem dX6_begin_12 : decode cX6_begin 12 = .ok (.bipush 100, 2) := by decide +kernel
theorem dX6_begin_14 : decode cX6_begin 14 = .ok (.iload_n 1, 1) := by decide +kernel
theorem dX6_begin_15 : decode cX6_begin 15 = .ok (.iadd, 1) := by decide +kernel
theorem dX6_begin_16 : decode cX6_begin 16 = .ok (.aload_n 0, 1) := by decide +kernel
theorem dX6_begin_17 : decode cX6_begin 17 = .ok (.getfield 13, 3) := by decide +kernel
theorem dX6_begin_20 : decode cX6_begin 20 = .ok (.iload_n 1, 1) := by decide +kernel
theorem dX6_begin_21 : decode cX6_begin 21 = .ok (.iaload, 1) := by decide +kernel
theorem dX6_begin_22 : decode cX6_begin 22 = .ok (.iastore, 1) := by decide +kernel
theorem dX6_begin_23 : decode cX6_begin 23 = .ok (.aload_n 0, 1) := by decide +kernel
theorem dX6_begin_24 : decode cX6_begin 24 = .ok (.getfield 16, 3) := by decide +kernel
theorem dX6_begin_27 : decode cX6_begin 27 = .ok (.bipush 100, 2) := by decide +kernel
theorem dX6_begin_29 : decode cX6_begin 29 = .ok (.iload_n 1, 1) := by decide +kernel
theorem dX6_begin_30 : decode cX6_begin 30 = .ok (.iadd, 1) := by decide +kernel
theorem dX6_begin_31 : decode cX6_begin 31 = .ok (.aload_n 0, 1) := by decide +kernel
theorem dX6_begin_32 : decode cX6_begin 32 = .ok (.getfield 16, 3) := by decide +kernel
theorem dX6_begin_35 : decode cX6_begin 35 = .ok (.iload_n 1, 1) := by decide +kernel
theorem dX6_begin_36 : decode cX6_begin 36 = .ok (.iaload, 1) := by decide +kernel
theorem dX6_begin_37 : decode cX6_begin 37 = .ok (.iastore, 1) := by decide +kernel
theorem dX6_begin_38 : decode cX6_begin 38 = .ok (.aload_n 0, 1) := by decide +kernel
theorem dX6_begin_39 : decode cX6_begin 39 = .ok (.getfield 19, 3) := by decide +kernel
theorem dX6_begin_42 : decode cX6_begin 42 = .ok (.bipush 100, 2) := by decide +kernel
theorem dX6_begin_44 : decode cX6_begin 44 = .ok (.iload_n 1, 1) := by decide +kernel
theorem dX6_begin_45 : decode cX6_begin 45 = .ok (.iadd, 1) := by decide +kernel
theorem dX6_begin_46 : decode cX6_begin 46 = .ok (.aload_n 0, 1) := by decide +kernel
theorem dX6_begin_47 : decode cX6_begin 47 = .ok (.getfield 19, 3) := by decide +kernel
theorem dX6_begin_50 : decode cX6_begin 50 = .ok (.iload_n 1, 1) := by decide +kernel
theorem dX6_begin_51 : decode cX6_begin 51 = .ok (.iaload, 1) := by decide +kernel
theorem dX6_begin_52 : decode cX6_begin 52 = .ok (.iastore, 1) := by decide +kernel
theorem dX6_begin_53 : decode cX6_begin 53 = .ok (.aload_n 0, 1) := by decide +kernel
theorem dX6_begin_54 : decode cX6_begin 54 = .ok (.getfield 22, 3) := by decide +kernel
theorem dX6_begin_57 : decode cX6_begin 57 = .ok (.bipush 100, 2) := by decide +kernel
theorem dX6_begin_59 : decode cX6_begin 59 = .ok (.iload_n 1, 1) := by decide +kernel
theorem dX6_begin_60 : decode cX6_begin 60 = .ok (.iadd, 1) := by decide +kernel
theorem dX6_begin_61 : decode cX6_begin 61 = .ok (.aload_n 0, 1) := by decide +kernel
theorem dX6_begin_62 : decode cX6_begin 62 = .ok (.getfield 22, 3) := by decide +kernel
theorem dX6_begin_65 : decode cX6_begin 65 = .ok (.iload_n 1, 1) := by decide +kernel
theorem dX6_begin_66 : decode cX6_begin 66 = .ok (.iaload, 1) := by decide +kernel
theorem dX6_begin_67 : decode cX6_begin 67 = .ok (.iastore, 1) := by decide +kernel
theorem dX6_begin_68 : decode cX6_begin 68 = .ok (.iinc 1 1, 3) := by decide +kernel
theorem dX6_begin_71 : decode cX6_begin 71 = .ok (.goto (-69), 3) := by decide +kernel
theorem dX6_begin_74 : decode cX6_begin 74 = .ok (.aload_n 0, 1) := by decide +kernel
theorem dX6_begin_75 : decode cX6_begin 75 = .ok (.getfield 25, 3) := by decide +kernel
theorem dX6_begin_78 : decode cX6_begin 78 = .ok (.iconst 1, 1) := by decide +kernel
theorem dX6_begin_79 : decode cX6_begin 79 = .ok (.aload_n 0, 1) := by decide +kernel
theorem dX6_begin_80 : decode cX6_begin 80 = .ok (.getfield 25, 3) := by decide +kernel
theorem dX6_begin_83 : decode cX6_begin 83 = .ok (.iconst 0, 1) := by decide +kernel
theorem dX6_begin_84 : decode cX6_begin 84 = .ok (.iaload, 1) := by decide +kernel
theorem dX6_begin_85 : decode cX6_begin 85 = .ok (.iastore, 1) := by decide +kernel
theorem dX6_begin_86 : decode cX6_begin 86 = .ok (.aload_n 0, 1) := by decide +kernel
theorem dX6_begin_87 : decode cX6_begin 87 = .ok (.getfield 28, 3) := by decide +kernel
theorem dX6_begin_90 : decode cX6_begin 90 = .ok (.iconst 1, 1) := by decide +kernel
theorem dX6_begin_91 : decode cX6_begin 91 = .ok (.aload_n 0, 1) := by decide +kernel
theorem dX6_begin_92 : decode cX6_begin 92 = .ok (.getfield 28, 3) := by decide +kernel
theorem dX6_begin_95 : decode cX6_begin 95 = .ok (.iconst 0, 1) := by decide +kernel
theorem dX6_begin_96 : decode cX6_begin 96 = .ok (.iaload, 1) := by decide +kernel
theorem dX6_begin_97 : decode cX6_begin 97 = .ok (.iastore, 1) := by decide +kernel
theorem dX6_begin_98 : decode cX6_begin 98 = .ok (.aload_n 0, 1) := by decide +kernel
theorem dX6_begin_99 : decode cX6_begin 99 = .ok (.getfield 31, 3) := by decide +kernel
theorem dX6_begin_102 : decode cX6_begin 102 = .ok (.iconst 1, 1) := by decide +kernel
theorem dX6_begin_103 : decode cX6_begin 103 = .ok (.aload_n 0, 1) := by decide +kernel
theorem dX6_begin_104 : decode cX6_begin 104 = .ok (.getfield 31, 3) := by decide +kernel
theorem dX6_begin_107 : decode cX6_begin 107 = .ok (.iconst 0, 1) := by decide +kernel
theorem dX6_begin_108 : decode cX6_begin 108 = .ok (.iaload, 1) := by decide +kernel
theorem dX6_begin_109 : decode cX6_begin 109 = .ok (.iastore, 1) := by decide +kernel
theorem dX6_begin_110 : decode cX6_begin 110 = .ok (.aload_n 0, 1) := by decide +kernel
theorem dX6_begin_111 : decode cX6_begin 111 = .ok (.getfield 34, 3) := by decide +kernel
theorem dX6_begin_114 : decode cX6_begin 114 = .ok (.iconst 1, 1) := by decide +kernel
theorem dX6_begin_115 : decode cX6_begin 115 = .ok (.iconst 0, 1) := by decide +kernel
theorem dX6_begin_116 : decode cX6_begin 116 = .ok (.iastore, 1) := by decide +kernel
theorem dX6_begin_117 : decode cX6_begin 117 = .ok (.aload_n 0, 1) := by decide +kernel
theorem dX6_begin_118 : decode cX6_begin 118 = .ok (.getfield 37, 3) := by decide +kernel
theorem dX6_begin_121 : decode cX6_begin 121 = .ok (.iconst 1, 1) := by decide +kernel
theorem dX6_begin_122 : decode cX6_begin 122 = .ok (.iconst 0, 1) := by decide +kernel
theorem dX6_begin_123 : decode cX6_begin 123 = .ok (.iastore, 1) := by decide +kernel
theorem dX6_begin_124 : decode cX6_begin 124 = .ok (.aload_n 0, 1) := by decide +kernel
theorem dX6_begin_125 : decode cX6_begin 125 = .ok (.aload_n 0, 1) := by decide +kernel
theorem dX6_begin_126 : decode cX6_begin 126 = .ok (.getfield 138, 3) := by decide +kernel
theorem dX6_begin_129 : decode cX6_begin 129 = .ok (.putfield 141, 3) := by decide +kernel
theorem dX6_begin_132 : decode cX6_begin 132 = .ok (.aload_n 0, 1) := by decide +kernel
theorem dX6_begin_133 : decode cX6_begin 133 = .ok (.aload_n 0, 1) := by decide +kernel
theorem dX6_begin_134 : decode cX6_begin 134 = .ok (.getfield 144, 3) := by decide +kernel
theorem dX6_begin_137 : decode cX6_begin 137 = .ok (.putfield 147, 3) := by decide +kernel
theorem dX6_begin_140 : decode cX6_begin 140 = .ok (.return_, 1) := by decide +kernel
theorem dX6_depth_0 : decode cX6_depth 0 = .ok (.iconst 0, 1) := by decide +kernel
theorem dX6_depth_1 : decode cX6_depth 1 = .ok (.istore_n 3, 1) := by decide +kernel
theorem dX6_depth_2 : decode cX6_depth 2 = .ok (.aload_n 0, 1) := by decide +kernel
theorem dX6_depth_3 : decode cX6_depth 3 = .ok (.getfield 19, 3) := by decide +kernel
theorem dX6_depth_6 : decode cX6_depth 6 = .ok (.bipush 100, 2) := by decide +kernel
theorem dX6_depth_8 : decode cX6_depth 8 = .ok (.iload_n 1, 1) := by decide +kernel
theorem dX6_depth_9 : decode cX6_depth 9 = .ok (.imul, 1) := by decide +kernel
theorem dX6_depth_10 : decode cX6_depth 10 = .ok (.iload_n 2, 1) := by decide +kernel
theorem dX6_depth_11 : decode cX6_depth 11 = .ok (.iadd, 1) := by decide +kernel
theorem dX6_depth_12 : decode cX6_depth 12 = .ok (.iaload, 1) := by decide +kernel
theorem dX6_depth_13 : decode cX6_depth 13 = .ok (.istore 4, 2) := by decide +kernel
theorem dX6_depth_15 : decode cX6_depth 15 = .ok (.iload 4, 2) := by decide +kernel
theorem dX6_depth_17 : decode cX6_depth 17 = .ok (.iconst (-1), 1) := by decide +kernel
theorem dX6_depth_18 : decode cX6_depth 18 = .ok (.if_icmp .eq 23, 3) := by decide +kernel
theorem dX6_depth_21 : decode cX6_depth 21 = .ok (.iinc 3 1, 3) := by decide +kernel
theorem dX6_depth_24 : decode cX6_depth 24 = .ok (.aload_n 0, 1) := by decide +kernel
theorem dX6_depth_25 : decode cX6_depth 25 = .ok (.getfield 19, 3) := by decide +kernel
theorem dX6_depth_28 : decode cX6_depth 28 = .ok (.bipush 100, 2) := by decide +kernel
theorem dX6_depth_30 : decode cX6_depth 30 = .ok (.iload_n 1, 1) := by decide +kernel
theorem dX6_depth_31 : decode cX6_depth 31 = .ok (.imul, 1) := by decide +kernel
theorem dX6_depth_32 : decode cX6_depth 32 = .ok (.iload 4, 2) := by decide +kernel
theorem dX6_depth_34 : decode cX6_depth 34 = .ok (.iadd, 1) := by decide +kernel
theorem dX6_depth_35 : decode cX6_depth 35 = .ok (.iaload, 1) := by decide +kernel
theorem dX6_depth_36 : decode cX6_depth 36 = .ok (.istore 4, 2) := by decide +kernel
theorem dX6_depth_38 : decode cX6_depth 38 = .ok (.goto (-23), 3) := by decide +kernel
theorem dX6_depth_41 : decode cX6_depth 41 = .ok (.iload_n 3, 1) := by decide +kernel
theorem dX6_depth_42 : decode cX6_depth 42 = .ok (.ireturn, 1) := by decide +kernel
theorem dX6_isBelow_0 : decode cX6_isBelow 0 = .ok (.iload_n 2, 1) := by decide +kernel
theorem dX6_isBelow_1 : decode cX6_isBelow 1 = .ok (.istore 4, 2) := by decide +kernel
theorem dX6_isBelow_3 : decode cX6_isBelow 3 = .ok (.iload 4, 2) := by decide +kernel
theorem dX6_isBelow_5 : decode cX6_isBelow 5 = .ok (.iconst (-1), 1) := by decide +kernel
theorem dX6_isBelow_6 : decode cX6_isBelow 6 = .ok (.if_icmp .eq 26, 3) := by decide +kernel
theorem dX6_isBelow_9 : decode cX6_isBelow 9 = .ok (.iload 4, 2) := by decide +kernel
theorem dX6_isBelow_11 : decode cX6_isBelow 11 = .ok (.iload_n 3, 1) := by decide +kernel
theorem dX6_isBelow_12 : decode cX6_isBelow 12 = .ok (.if_icmp .eq 20, 3) := by decide +kernel
theorem dX6_isBelow_15 : decode cX6_isBelow 15 = .ok (.aload_n 0, 1) := by decide +kernel
theorem dX6_isBelow_16 : decode cX6_isBelow 16 = .ok (.getfield 19, 3) := by decide +kernel
theorem dX6_isBelow_19 : decode cX6_isBelow 19 = .ok (.bipush 100, 2) := by decide +kernel
theorem dX6_isBelow_21 : decode cX6_isBelow 21 = .ok (.iload_n 1, 1) := by decide +kernel
theorem dX6_isBelow_22 : decode cX6_isBelow 22 = .ok (.imul, 1) := by decide +kernel
theorem dX6_isBelow_23 : decode cX6_isBelow 23 = .ok (.iload 4, 2) := by decide +kernel
theorem dX6_isBelow_25 : decode cX6_isBelow 25 = .ok (.iadd, 1) := by decide +kernel
theorem dX6_isBelow_26 : decode cX6_isBelow 26 = .ok (.iaload, 1) := by decide +kernel
theorem dX6_isBelow_27 : decode cX6_isBelow 27 = .ok (.istore 4, 2) := by decide +kernel
theorem dX6_isBelow_29 : decode cX6_isBelow 29 = .ok (.goto (-26), 3) := by decide +kernel
theorem dX6_isBelow_32 : decode cX6_isBelow 32 = .ok (.iload 4, 2) := by decide +kernel
theorem dX6_isBelow_34 : decode cX6_isBelow 34 = .ok (.iload_n 3, 1) := by decide +kernel
theorem dX6_isBelow_35 : decode cX6_isBelow 35 = .ok (.if_icmp .ne 7, 3) := by decide +kernel
theorem dX6_isBelow_38 : decode cX6_isBelow 38 = .ok (.iconst 1, 1) := by decide +kernel
theorem dX6_isBelow_39 : decode cX6_isBelow 39 = .ok (.goto 4, 3) := by decide +kernel
theorem dX6_isBelow_42 : decode cX6_isBelow 42 = .ok (.iconst 0, 1) := by decide +kernel
theorem dX6_isBelow_43 : decode cX6_isBelow 43 = .ok (.ireturn, 1) := by decide +kernel
set_option maxRecDepth 20000 in
theorem ggX6_size_X6_isBelow : GoodIn wsX6_size wsX6_isBelow := goodIn_r _ [6, 7, 8, 9, 10, 11, 12, 13, 14, 15, 16, 17, 18, 19, 20, 21, 22, 23, 24, 25, 26, 27, 28, 29, 30, 31, 32, 33, 34, 35, 36, 37, 38, 39, 40, 41, 42, 43, 44, 45, 46, 47, 48, 49, 50, 51, 52, 53, 54, 55, 56, 57] rfl (by decide +kernel)
set_option maxRecDepth 20000 in
theorem gX6_size_X6_isBelow : GoodIn wsX6_size (wsV RX6 150 RX6 yX6_isBelow wsX6_isBelow) := goodIn_app (goodIn_of _ (by decide +kernel)) ggX6_size_X6_isBelow
theorem dX6_size_0 : decode cX6_size 0 = .ok (.iconst 0, 1) := by decide +kernel
theorem dX6_size_1 : decode cX6_size 1 = .ok (.istore_n 3, 1) := by decide +kernel
theorem dX6_size_2 : decode cX6_size 2 = .ok (.iconst 0, 1) := by decide +kernel
theorem dX6_size_3 : decode cX6_size 3 = .ok (.istore 4, 2) := by decide +kernel
theorem dX6_size_5 : decode cX6_size 5 = .ok (.iload 4, 2) := by decide +kernel
theorem dX6_size_7 : decode cX6_size 7 = .ok (.bipush 100, 2) := by decide +kernel
theorem dX6_size_9 : decode cX6_size 9 = .ok (.if_icmp .ge 49, 3) := by decide +kernel
theorem dX6_size_12 : decode cX6_size 12 = .ok (.iload_n 2, 1) := by decide +kernel
theorem dX6_size_13 : decode cX6_size 13 = .ok (.iconst (-1), 1) := by decide +kernel
theorem dX6_size_14 : decode cX6_size 14 = .ok (.if_icmp .eq 44, 3) := by decide +kernel
theorem dX6_size_17 : decode cX6_size 17 = .ok (.iload_n 3, 1) := by decide +kernel
theorem dX6_size_18 : decode cX6_size 18 = .ok (.aload_n 0, 1) := by decide +kernel
theorem dX6_size_19 : decode cX6_size 19 = .ok (.getfield 22, 3) := by decide +kernel
theorem dX6_size_22 : decode cX6_size 22 = .ok (.bipush 100, 2) := by decide +kernel
theorem dX6_size_24 : decode cX6_size 24 = .ok (.iload_n 1, 1) := by decide +kernel
theorem dX6_size_25 : decode cX6_size 25 = .ok (.imul, 1) := by decide +kernel
theorem dX6_size_26 : decode cX6_size 26 = .ok (.iload 4, 2) := by decide +kernel
theorem dX6_size_28 : decode cX6_size 28 = .ok (.iadd, 1) := by decide +kernel
theorem dX6_size_29 : decode cX6_size 29 = .ok (.iaload, 1) := by decide +kernel
theorem dX6_size_30 : decode cX6_size 30 = .ok (.iconst 1, 1) := by decide +kernel
theorem dX6_size_31 : decode cX6_size 31 = .ok (.if_icmp .ne 18, 3) := by decide +kernel
theorem dX6_size_34 : decode cX6_size 34 = .ok (.aload_n 0, 1) := by decide +kernel
theorem dX6_size_35 : decode cX6_size 35 = .ok (.iload_n 1, 1) := by decide +kernel
theorem dX6_size_36 : decode cX6_size 36 = .ok (.iload 4, 2) := by decide +kernel
theorem dX6_size_38 : decode cX6_size 38 = .ok (.iload_n 2, 1) := by decide +kernel
theorem dX6_size_39 : decode cX6_size 39 = .ok (.invokevirtual 150, 3) := by decide +kernel
theorem dX6_size_42 : decode cX6_size 42 = .ok (.ifCond .eq 7, 3) := by decide +kernel
theorem dX6_size_45 : decode cX6_size 45 = .ok (.iconst 1, 1) := by decide +kernel
theorem dX6_size_46 : decode cX6_size 46 = .ok (.goto 4, 3) := by decide +kernel
theorem dX6_size_49 : decode cX6_size 49 = .ok (.iconst 0, 1) := by decide +kernel
theorem dX6_size_50 : decode cX6_size 50 = .ok (.iadd, 1) := by decide +kernel
theorem dX6_size_51 : decode cX6_size 51 = .ok (.istore_n 3, 1) := by decide +kernel
theorem dX6_size_52 : decode cX6_size 52 = .ok (.iinc 4 1, 3) := by decide +kernel
theorem dX6_size_55 : decode cX6_size 55 = .ok (.goto (-50), 3) := by decide +kernel
theorem dX6_size_58 : decode cX6_size 58 = .ok (.iload_n 3, 1) := by decide +kernel
theorem dX6_size_59 : decode cX6_size 59 = .ok (.ireturn, 1) := by decide +kernel
set_option maxRecDepth 20000 in
theorem ggX6_tall_X6_depth : GoodIn wsX6_tall wsX6_depth := goodIn_r _ [6, 7, 8, 9, 10, 11, 12, 13, 14, 15, 16, 17, 18, 19, 20, 21, 22, 23, 24, 25, 26, 27, 28, 29, 30, 31, 32, 33, 34, 35, 36, 37, 38, 39, 40, 41, 42, 43, 44, 45, 46, 47, 48, 49, 50, 51, 52, 53, 54, 55, 56, 57] rfl (by decide +kernel)
set_option maxRecDepth 20000 in
theorem gX6_tall_X6_depth : GoodIn wsX6_tall (wsV RX6 154 RX6 yX6_depth wsX6_depth) := goodIn_app (goodIn_of _ (by decide +kernel)) ggX6_tall_X6_depth
theorem dX6_tall_0 : decode cX6_tall 0 = .ok (.iconst (-1), 1) := by decide +kernel
theorem dX6_tall_1 : decode cX6_tall 1 = .ok (.istore_n 2, 1) := by decide +kernel
theorem dX6_tall_2 : decode cX6_tall 2 = .ok (.iconst 0, 1) := by decide +kernel
theorem dX6_tall_3 : decode cX6_tall 3 = .ok (.istore_n 3, 1) := by decide +kernel
theorem dX6_tall_4 : decode cX6_tall 4 = .ok (.iload_n 3, 1) := by decide +kernel
theorem dX6_tall_5 : decode cX6_tall 5 = .ok (.bipush 100, 2) := by decide +kernel
theorem dX6_tall_7 : decode cX6_tall 7 = .ok (.if_icmp .ge 49, 3) := by decide +kernel
theorem dX6_tall_10 : decode cX6_tall 10 = .ok (.aload_n 0, 1) := by decide +kernel
theorem dX6_tall_11 : decode cX6_tall 11 = .ok (.getfield 22, 3) := by decide +kernel
theorem dX6_tall_14 : decode cX6_tall 14 = .ok (.bipush 100, 2) := by decide +kernel
theorem dX6_tall_16 : decode cX6_tall 16 = .ok (.iload_n 1, 1) := by decide +kernel
theorem dX6_tall_17 : decode cX6_tall 17 = .ok (.imul, 1) := by decide +kernel
theorem dX6_tall_18 : decode cX6_tall 18 = .ok (.iload_n 3, 1) := by decide +kernel
theorem dX6_tall_19 : decode cX6_tall 19 = .ok (.iadd, 1) := by decide +kernel
theorem dX6_tall_20 : decode cX6_tall 20 = .ok (.iaload, 1) := by decide +kernel
theorem dX6_tall_21 : decode cX6_tall 21 = .ok (.iconst 1, 1) := by decide +kernel
theorem dX6_tall_22 : decode cX6_tall 22 = .ok (.if_icmp .ne 12, 3) := by decide +kernel
theorem dX6_tall_25 : decode cX6_tall 25 = .ok (.aload_n 0, 1) := by decide +kernel
theorem dX6_tall_26 : decode cX6_tall 26 = .ok (.iload_n 1, 1) := by decide +kernel
theorem dX6_tall_27 : decode cX6_tall 27 = .ok (.iload_n 3, 1) := by decide +kernel
theorem dX6_tall_28 : decode cX6_tall 28 = .ok (.invokevirtual 154, 3) := by decide +kernel
theorem dX6_tall_31 : decode cX6_tall 31 = .ok (.goto 4, 3) := by decide +kernel
theorem dX6_tall_34 : decode cX6_tall 34 = .ok (.iconst (-1), 1) := by decide +kernel
theorem dX6_tall_35 : decode cX6_tall 35 = .ok (.istore 4, 2) := by decide +kernel
theorem dX6_tall_37 : decode cX6_tall 37 = .ok (.iload 4, 2) := by decide +kernel
theorem dX6_tall_39 : decode cX6_tall 39 = .ok (.iload_n 2, 1) := by decide +kernel
theorem dX6_tall_40 : decode cX6_tall 40 = .ok (.if_icmp .le 8, 3) := by decide +kernel
theorem dX6_tall_43 : decode cX6_tall 43 = .ok (.iload 4, 2) := by decide +kernel
theorem dX6_tall_45 : decode cX6_tall 45 = .ok (.goto 4, 3) := by decide +kernel
theorem dX6_tall_48 : decode cX6_tall 48 = .ok (.iload_n 2, 1) := by decide +kernel
theorem dX6_tall_49 : decode cX6_tall 49 = .ok (.istore_n 2, 1) := by decide +kernel
theorem dX6_tall_50 : decode cX6_tall 50 = .ok (.iinc 3 1, 3) := by decide +kernel
theorem dX6_tall_53 : decode cX6_tall 53 = .ok (.goto (-49), 3) := by decide +kernel
theorem dX6_tall_56 : decode cX6_tall 56 = .ok (.iload_n 2, 1) := by decide +kernel
theorem dX6_tall_57 : decode cX6_tall 57 = .ok (.ireturn, 1) := by decide +kernel
set_option maxRecDepth 20000 in
theorem ggX6_limit_X6_b : GoodIn wsX6_limit wsX6_b := goodIn_r _ [5, 6, 7, 14, 15, 16, 17, 18, 19, 20, 21, 22, 23, 24, 25, 26, 27, 28, 29, 30, 31, 32, 33, 34, 35, 36, 37, 38, 39, 40, 41, 42, 43, 44, 45, 46, 47, 48, 49, 50, 51, 52, 53, 54, 55, 56, 57, 58, 59, 60, 61, 62, 63] rfl (by decide +kernel)
set_option maxRecDepth 20000 in
theorem gX6_limit_X6_b : GoodIn wsX6_limit (wsV RX6 158 RX6 yX6_b wsX6_b) := goodIn_app (goodIn_of _ (by decide +kernel)) ggX6_limit_X6_b
set_option maxRecDepth 20000 in
theorem ggX6_limit_X6_a : GoodIn wsX6_limit wsX6_a := goodIn_r _ [11, 12, 13, 14, 15, 16, 17, 18, 19, 20, 21, 22, 23, 24, 25, 26, 27, 28, 29, 30, 31, 32, 33, 34, 35, 36, 37, 38, 39, 40, 41, 42, 43, 44, 45, 46, 47, 48, 49, 50, 51, 52, 53, 54, 55, 56, 57, 58, 59, 60, 61, 62, 63] rfl (by decide +kernel)
set_option maxRecDepth 20000 in
theorem gX6_limit_X6_a : GoodIn wsX6_limit (wsV RX6 161 RX6 yX6_a wsX6_a) := goodIn_app (goodIn_of _ (by decide +kernel)) ggX6_limit_X6_a
theorem dX6_limit_0 : decode cX6_limit 0 = .ok (.iconst 0, 1) := by decide +kernel
theorem dX6_limit_1 : decode cX6_limit 1 = .ok (.istore_n 3, 1) := by decide +kernel
theorem dX6_limit_2 : decode cX6_limit 2 = .ok (.aload_n 0, 1) := by decide +kernel
theorem dX6_limit_3 : decode cX6_limit 3 = .ok (.iload_n 1, 1) := by decide +kernel
theorem dX6_limit_4 : decode cX6_limit 4 = .ok (.invokevirtual 158, 3) := by decide +kernel
theorem dX6_limit_7 : decode cX6_limit 7 = .ok (.i2l, 1) := by decide +kernel
theorem dX6_limit_8 : decode cX6_limit 8 = .ok (.lstore 4, 2) := by decide +kernel
theorem dX6_limit_10 : decode cX6_limit 10 = .ok (.aload_n 0, 1) := by decide +kernel
theorem dX6_limit_11 : decode cX6_limit 11 = .ok (.iload_n 1, 1) := by decide +kernel
theorem dX6_limit_12 : decode cX6_limit 12 = .ok (.invokevirtual 161, 3) := by decide +kernel
theorem dX6_limit_15 : decode cX6_limit 15 = .ok (.i2l, 1) := by decide +kernel
theorem dX6_limit_16 : decode cX6_limit 16 = .ok (.iload_n 2, 1) := by decide +kernel
theorem dX6_limit_17 : decode cX6_limit 17 = .ok (.i2l, 1) := by decide +kernel
theorem dX6_limit_18 : decode cX6_limit 18 = .ok (.lmul, 1) := by decide +kernel
theorem dX6_limit_19 : decode cX6_limit 19 = .ok (.lstore 6, 2) := by decide +kernel
theorem dX6_limit_21 : decode cX6_limit 21 = .ok (.iload_n 2, 1) := by decide +kernel
theorem dX6_limit_22 : decode cX6_limit 22 = .ok (.iconst 1, 1) := by decide +kernel
theorem dX6_limit_23 : decode cX6_limit 23 = .ok (.if_icmp .le 39, 3) := by decide +kernel
theorem dX6_limit_26 : decode cX6_limit 26 = .ok (.lload 4, 2) := by decide +kernel
theorem dX6_limit_28 : decode cX6_limit 28 = .ok (.lload 6, 2) := by decide +kernel
theorem dX6_limit_30 : decode cX6_limit 30 = .ok (.lcmp, 1) := by decide +kernel
theorem dX6_limit_31 : decode cX6_limit 31 = .ok (.ifCond .gt 31, 3) := by decide +kernel
theorem dX6_limit_34 : decode cX6_limit 34 = .ok (.iinc 3 1, 3) := by decide +kernel
theorem dX6_limit_37 : decode cX6_limit 37 = .ok (.lload 4, 2) := by decide +kernel
theorem dX6_limit_39 : decode cX6_limit 39 = .ok (.aload_n 0, 1) := by decide +kernel
theorem dX6_limit_40 : decode cX6_limit 40 = .ok (.iload_n 1, 1) := by decide +kernel
theorem dX6_limit_41 : decode cX6_limit 41 = .ok (.invokevirtual 158, 3) := by decide +kernel
theorem dX6_limit_44 : decode cX6_limit 44 = .ok (.i2l, 1) := by decide +kernel
theorem dX6_limit_45 : decode cX6_limit 45 = .ok (.lmul, 1) := by decide +kernel
theorem dX6_limit_46 : decode cX6_limit 46 = .ok (.lstore 4, 2) := by decide +kernel
theorem dX6_limit_48 : decode cX6_limit 48 = .ok (.lload 6, 2) := by decide +kernel
theorem dX6_limit_50 : decode cX6_limit 50 = .ok (.aload_n 0, 1) := by decide +kernel
theorem dX6_limit_51 : decode cX6_limit 51 = .ok (.iload_n 1, 1) := by decide +kernel
theorem dX6_limit_52 : decode cX6_limit 52 = .ok (.invokevirtual 161, 3) := by decide +kernel
theorem dX6_limit_55 : decode cX6_limit 55 = .ok (.i2l, 1) := by decide +kernel
theorem dX6_limit_56 : decode cX6_limit 56 = .ok (.lmul, 1) := by decide +kernel
theorem dX6_limit_57 : decode cX6_limit 57 = .ok (.lstore 6, 2) := by decide +kernel
theorem dX6_limit_59 : decode cX6_limit 59 = .ok (.goto (-38), 3) := by decide +kernel
theorem dX6_limit_62 : decode cX6_limit 62 = .ok (.iload_n 3, 1) := by decide +kernel
theorem dX6_limit_63 : decode cX6_limit 63 = .ok (.ireturn, 1) := by decide +kernel
theorem dX6_hang_0 : decode cX6_hang 0 = .ok (.iload_n 2, 1) := by decide +kernel
theorem dX6_hang_1 : decode cX6_hang 1 = .ok (.iconst (-1), 1) := by decide +kernel
theorem dX6_hang_2 : decode cX6_hang 2 = .ok (.if_icmp .eq 15, 3) := by decide +kernel
theorem dX6_hang_5 : decode cX6_hang 5 = .ok (.aload_n 0, 1) := by decide +kernel
theorem dX6_hang_6 : decode cX6_hang 6 = .ok (.getfield 19, 3) := by decide +kernel
theorem dX6_hang_9 : decode cX6_hang 9 = .ok (.bipush 100, 2) := by decide +kernel
theorem dX6_hang_11 : decode cX6_hang 11 = .ok (.iload_n 1, 1) := by decide +kernel
theorem dX6_hang_12 : decode cX6_hang 12 = .ok (.imul, 1) := by decide +kernel
theorem dX6_hang_13 : decode cX6_hang 13 = .ok (.iload_n 2, 1) := by decide +kernel
theorem dX6_hang_14 : decode cX6_hang 14 = .ok (.iadd, 1) := by decide +kernel
theorem dX6_hang_15 : decode cX6_hang 15 = .ok (.iload_n 3, 1) := by decide +kernel
theorem dX6_hang_16 : decode cX6_hang 16 = .ok (.iastore, 1) := by decide +kernel
theorem dX6_hang_17 : decode cX6_hang 17 = .ok (.iload_n 3, 1) := by decide +kernel
theorem dX6_hang_18 : decode cX6_hang 18 = .ok (.iconst (-1), 1) := by decide +kernel
theorem dX6_hang_19 : decode cX6_hang 19 = .ok (.if_icmp .ne 10, 3) := by decide +kernel
theorem dX6_hang_22 : decode cX6_hang 22 = .ok (.aload_n 0, 1) := by decide +kernel
theorem dX6_hang_23 : decode cX6_hang 23 = .ok (.getfield 25, 3) := by decide +kernel
theorem dX6_hang_26 : decode cX6_hang 26 = .ok (.iload_n 1, 1) := by decide +kernel
theorem dX6_hang_27 : decode cX6_hang 27 = .ok (.iload_n 2, 1) := by decide +kernel
theorem dX6_hang_28 : decode cX6_hang 28 = .ok (.iastore, 1) := by decide +kernel
theorem dX6_hang_29 : decode cX6_hang 29 = .ok (.return_, 1) := by decide +kernel
set_option maxRecDepth 20000 in
theorem ggX6_layRow_X6_isBelow : GoodIn wsX6_layRow wsX6_isBelow := goodIn_r _ [7, 8, 9, 10, 11, 12, 13, 14, 15, 16, 17, 18, 19, 20, 21, 22, 23, 24, 25, 26, 27, 28, 29, 30, 31, 32, 33, 34, 35, 36, 37, 38, 39, 40, 41, 42, 43, 44, 45, 46, 47, 48, 49, 50, 51, 52, 53, 54, 55, 56, 57, 58] rfl (by decide +kernel)
set_option maxRecDepth 20000 in
theorem gX6_layRow_X6_isBelow : GoodIn wsX6_layRow (wsV RX6 150 RX6 yX6_isBelow wsX6_isBelow) := goodIn_app (goodIn_of _ (by decide +kernel)) ggX6_layRow_X6_isBelow
theorem dX6_layRow_0 : decode cX6_layRow 0 = .ok (.iconst 0, 1) := by decide +kernel
theorem dX6_layRow_1 : decode cX6_layRow 1 = .ok (.istore_n 3, 1) := by decide +kernel
theorem dX6_layRow_2 : decode cX6_layRow 2 = .ok (.iconst 0, 1) := by decide +kernel
theorem dX6_layRow_3 : decode cX6_layRow 3 = .ok (.istore 4, 2) := by decide +kernel
theorem dX6_layRow_5 : decode cX6_layRow 5 = .ok (.iload 4, 2) := by decide +kernel
theorem dX6_layRow_7 : decode cX6_layRow 7 = .ok (.bipush 100, 2) := by decide +kernel
theorem dX6_layRow_9 : decode cX6_layRow 9 = .ok (.if_icmp .ge 47, 3) := by decide +kernel
theorem dX6_layRow_12 : decode cX6_layRow 12 = .ok (.aload_n 0, 1) := by decide +kernel
theorem dX6_layRow_13 : decode cX6_layRow 13 = .ok (.getfield 22, 3) := by decide +kernel
theorem dX6_layRow_16 : decode cX6_layRow 16 = .ok (.bipush 100, 2) := by decide +kernel
theorem dX6_layRow_18 : decode cX6_layRow 18 = .ok (.iload_n 1, 1) := by decide +kernel
theorem dX6_layRow_19 : decode cX6_layRow 19 = .ok (.imul, 1) := by decide +kernel
theorem dX6_layRow_20 : decode cX6_layRow 20 = .ok (.iload 4, 2) := by decide +kernel
theorem dX6_layRow_22 : decode cX6_layRow 22 = .ok (.iadd, 1) := by decide +kernel
theorem dX6_layRow_23 : decode cX6_layRow 23 = .ok (.iaload, 1) := by decide +kernel
theorem dX6_layRow_24 : decode cX6_layRow 24 = .ok (.iconst 1, 1) := by decide +kernel
theorem dX6_layRow_25 : decode cX6_layRow 25 = .ok (.if_icmp .ne 25, 3) := by decide +kernel
theorem dX6_layRow_28 : decode cX6_layRow 28 = .ok (.aload_n 0, 1) := by decide +kernel
theorem dX6_layRow_29 : decode cX6_layRow 29 = .ok (.iload_n 1, 1) := by decide +kernel
theorem dX6_layRow_30 : decode cX6_layRow 30 = .ok (.iload 4, 2) := by decide +kernel
theorem dX6_layRow_32 : decode cX6_layRow 32 = .ok (.iload_n 2, 1) := by decide +kernel
theorem dX6_layRow_33 : decode cX6_layRow 33 = .ok (.invokevirtual 150, 3) := by decide +kernel
theorem dX6_layRow_36 : decode cX6_layRow 36 = .ok (.ifCond .eq 14, 3) := by decide +kernel
theorem dX6_layRow_39 : decode cX6_layRow 39 = .ok (.aload_n 0, 1) := by decide +kernel
theorem dX6_layRow_40 : decode cX6_layRow 40 = .ok (.getfield 49, 3) := by decide +kernel
theorem dX6_layRow_43 : decode cX6_layRow 43 = .ok (.iload_n 3, 1) := by decide +kernel
theorem dX6_layRow_44 : decode cX6_layRow 44 = .ok (.iload 4, 2) := by decide +kernel
theorem dX6_layRow_46 : decode cX6_layRow 46 = .ok (.iastore, 1) := by decide +kernel
theorem dX6_layRow_47 : decode cX6_layRow 47 = .ok (.iinc 3 1, 3) := by decide +kernel
theorem dX6_layRow_50 : decode cX6_layRow 50 = .ok (.iinc 4 1, 3) := by decide +kernel
theorem dX6_layRow_53 : decode cX6_layRow 53 = .ok (.goto (-48), 3) := by decide +kernel
theorem dX6_layRow_56 : decode cX6_layRow 56 = .ok (.return_, 1) := by decide +kernel
set_option maxRecDepth 20000 in
theorem ggX6_replace_X6_hang : GoodIn wsX6_replace wsX6_hang := goodIn_r _ [8, 1, 9, 10, 11, 12, 13, 14, 15, 16, 17, 18, 19, 20, 21, 22, 23, 24, 25, 26, 27, 28, 29, 30, 31, 32, 33, 34, 35, 36, 37, 38, 39, 40, 41, 42, 43, 44, 45, 46, 47, 48, 49, 50, 51, 52, 53, 54, 55, 56, 57, 58, 59] rfl (by decide +kernel)
set_option maxRecDepth 20000 in
theorem gX6_replace_X6_hang : GoodIn wsX6_replace (wsV RX6 164 RX6 yX6_hang wsX6_hang) := goodIn_app (goodIn_of _ (by decide +kernel)) ggX6_replace_X6_hang
theorem dX6_replace_0 : decode cX6_replace 0 = .ok (.aload_n 0, 1) := by decide +kernel
theorem dX6_replace_1 : decode cX6_replace 1 = .ok (.getfield 19, 3) := by decide +kernel
theorem dX6_replace_4 : decode cX6_replace 4 = .ok (.bipush 100, 2) := by decide +kernel
theorem dX6_replace_6 : decode cX6_replace 6 = .ok (.iload_n 1, 1) := by decide +kernel
theorem dX6_replace_7 : decode cX6_replace 7 = .ok (.imul, 1) := by decide +kernel
theorem dX6_replace_8 : decode cX6_replace 8 = .ok (.iload_n 2, 1) := by decide +kernel
theorem dX6_replace_9 : decode cX6_replace 9 = .ok (.iadd, 1) := by decide +kernel
theorem dX6_replace_10 : decode cX6_replace 10 = .ok (.iaload, 1) := by decide +kernel
theorem dX6_replace_11 : decode cX6_replace 11 = .ok (.istore 4, 2) := by decide +kernel
theorem dX6_replace_13 : decode cX6_replace 13 = .ok (.iload 4, 2) := by decide +kernel
theorem dX6_replace_15 : decode cX6_replace 15 = .ok (.iconst (-1), 1) := by decide +kernel
theorem dX6_replace_16 : decode cX6_replace 16 = .ok (.if_icmp .eq 35, 3) := by decide +kernel
theorem dX6_replace_19 : decode cX6_replace 19 = .ok (.aload_n 0, 1) := by decide +kernel
theorem dX6_replace_20 : decode cX6_replace 20 = .ok (.getfield 13, 3) := by decide +kernel
theorem dX6_replace_23 : decode cX6_replace 23 = .ok (.bipush 100, 2) := by decide +kernel
theorem dX6_replace_25 : decode cX6_replace 25 = .ok (.iload_n 1, 1) := by decide +kernel
theorem dX6_replace_26 : decode cX6_replace 26 = .ok (.imul, 1) := by decide +kernel
theorem dX6_replace_27 : decode cX6_replace 27 = .ok (.iload 4, 2) := by decide +kernel
theorem dX6_replace_29 : decode cX6_replace 29 = .ok (.iadd, 1) := by decide +kernel
theorem dX6_replace_30 : decode cX6_replace 30 = .ok (.iaload, 1) := by decide +kernel
theorem dX6_replace_31 : decode cX6_replace 31 = .ok (.iload_n 2, 1) := by decide +kernel
theorem dX6_replace_32 : decode cX6_replace 32 = .ok (.if_icmp .ne 19, 3) := by decide +kernel
theorem dX6_replace_35 : decode cX6_replace 35 = .ok (.aload_n 0, 1) := by decide +kernel
theorem dX6_replace_36 : decode cX6_replace 36 = .ok (.getfield 13, 3) := by decide +kernel
theorem dX6_replace_39 : decode cX6_replace 39 = .ok (.bipush 100, 2) := by decide +kernel
theorem dX6_replace_41 : decode cX6_replace 41 = .ok (.iload_n 1, 1) := by decide +kernel
theorem dX6_replace_42 : decode cX6_replace 42 = .ok (.imul, 1) := by decide +kernel
theorem dX6_replace_43 : decode cX6_replace 43 = .ok (.iload 4, 2) := by decide +kernel
theorem dX6_replace_45 : decode cX6_replace 45 = .ok (.iadd, 1) := by decide +kernel
theorem dX6_replace_46 : decode cX6_replace 46 = .ok (.iload_n 3, 1) := by decide +kernel
theorem dX6_replace_47 : decode cX6_replace 47 = .ok (.iastore, 1) := by decide +kernel
theorem dX6_replace_48 : decode cX6_replace 48 = .ok (.goto 22, 3) := by decide +kernel
theorem dX6_replace_51 : decode cX6_replace 51 = .ok (.iload 4, 2) := by decide +kernel
theorem dX6_replace_53 : decode cX6_replace 53 = .ok (.iconst (-1), 1) := by decide +kernel
theorem dX6_replace_54 : decode cX6_replace 54 = .ok (.if_icmp .eq 16, 3) := by decide +kernel
theorem dX6_replace_57 : decode cX6_replace 57 = .ok (.aload_n 0, 1) := by decide +kernel
theorem dX6_replace_58 : decode cX6_replace 58 = .ok (.getfield 16, 3) := by decide +kernel
theorem dX6_replace_61 : decode cX6_replace 61 = .ok (.bipush 100, 2) := by decide +kernel
theorem dX6_replace_63 : decode cX6_replace 63 = .ok (.iload_n 1, 1) := by decide +kernel
theorem dX6_replace_64 : decode cX6_replace 64 = .ok (.imul, 1) := by decide +kernel
theorem dX6_replace_65 : decode cX6_replace 65 = .ok (.iload 4, 2) := by decide +kernel
theorem dX6_replace_67 : decode cX6_replace 67 = .ok (.iadd, 1) := by decide +kernel
theorem dX6_replace_68 : decode cX6_replace 68 = .ok (.iload_n 3, 1) := by decide +kernel
theorem dX6_replace_69 : decode cX6_replace 69 = .ok (.iastore, 1) := by decide +kernel
theorem dX6_replace_70 : decode cX6_replace 70 = .ok (.aload_n 0, 1) := by decide +kernel
theorem dX6_replace_71 : decode cX6_replace 71 = .ok (.iload_n 1, 1) := by decide +kernel
theorem dX6_replace_72 : decode cX6_replace 72 = .ok (.iload_n 3, 1) := by decide +kernel
theorem dX6_replace_73 : decode cX6_replace 73 = .ok (.iload 4, 2) := by decide +kernel
theorem dX6_replace_75 : decode cX6_replace 75 = .ok (.invokevirtual 164, 3) := by decide +kernel
theorem dX6_replace_78 : decode cX6_replace 78 = .ok (.return_, 1) := by decide +kernel
set_option maxRecDepth 20000 in
theorem ggX6_build_X6_size : GoodIn wsX6_build wsX6_size := goodIn_r _ [15, 16, 17, 18, 19, 14, 20, 3, 40, 41, 42, 43, 44, 45, 46, 47, 48, 49, 50, 51, 52, 53, 54, 55, 56, 57, 58, 59, 60, 61, 62, 63, 64, 65, 66, 67, 68, 69, 70, 71, 72, 73, 74, 75, 76, 77, 78, 79, 80, 81, 82, 83, 84, 85, 86, 87, 88, 89] rfl (by decide +kernel)
set_option maxRecDepth 20000 in
theorem gX6_build_X6_size : GoodIn wsX6_build (wsV RX6 168 RX6 yX6_size wsX6_size) := goodIn_app (goodIn_of _ (by decide +kernel)) ggX6_build_X6_size
set_option maxRecDepth 20000 in
theorem ggX6_build_X6_layRow : GoodIn wsX6_build wsX6_layRow := goodIn_r _ [24, 16, 2, 17, 18, 19, 14, 20, 3, 40, 41, 42, 43, 44, 45, 46, 47, 48, 49, 50, 51, 52, 53, 54, 55, 56, 57, 58, 59, 60, 61, 62, 63, 64, 65, 66, 67, 68, 69, 70, 71, 72, 73, 74, 75, 76, 77, 78, 79, 80, 81, 82, 83, 84, 85, 86, 87, 88, 89] rfl (by decide +kernel)
set_option maxRecDepth 20000 in
theorem gX6_build_X6_layRow : GoodIn wsX6_build (wsV RX6 174 RX6 yX6_layRow wsX6_layRow) := goodIn_app (goodIn_of _ (by decide +kernel)) ggX6_build_X6_layRow
set_option maxRecDepth 20000 in
theorem ggX6_build_X6_replace : GoodIn wsX6_build wsX6_replace := goodIn_r _ [28, 3, 7, 8, 29, 30, 31, 14, 32, 33, 40, 41, 42, 43, 44, 45, 46, 47, 48, 49, 50, 51, 52, 53, 54, 55, 56, 57, 58, 59, 60, 61, 62, 63, 64, 65, 66, 67, 68, 69, 70, 71, 72, 73, 74, 75, 76, 77, 78, 79, 80, 81, 82, 83, 84, 85, 86, 87, 88, 89] rfl (by decide +kernel)
set_option maxRecDepth 20000 in
theorem gX6_build_X6_replace : GoodIn wsX6_build (wsV RX6 178 RX6 yX6_replace wsX6_replace) := goodIn_app (goodIn_of _ (by decide +kernel)) ggX6_build_X6_replace
set_option maxRecDepth 20000 in
theorem ggX6_build_X6_pay : GoodIn wsX6_build wsX6_pay := goodIn_r _ [37, 38, 39, 40, 41, 42, 43, 44, 45, 46, 47, 48, 49, 50, 51, 52, 53, 54, 55, 56, 57, 58, 59, 60, 61, 62, 63, 64, 65, 66, 67, 68, 69, 70, 71, 72, 73, 74, 75, 76, 77, 78, 79, 80, 81, 82, 83, 84, 85, 86, 87, 88, 89] rfl (by decide +kernel)
set_option maxRecDepth 20000 in
theorem gX6_build_X6_pay : GoodIn wsX6_build (wsV RX6 181 RX6 yX6_pay wsX6_pay) := goodIn_app (goodIn_of _ (by decide +kernel)) ggX6_build_X6_pay
theorem dX6_build_0 : decode cX6_build 0 = .ok (.aload_n 0, 1) := by decide +kernel
theorem dX6_build_1 : decode cX6_build 1 = .ok (.aload_n 0, 1) := by decide +kernel
theorem dX6_build_2 : decode cX6_build 2 = .ok (.iload_n 1, 1) := by decide +kernel
theorem dX6_build_3 : decode cX6_build 3 = .ok (.iload_n 2, 1) := by decide +kernel
theorem dX6_build_4 : decode cX6_build 4 = .ok (.invokevirtual 168, 3) := by decide +kernel
theorem dX6_build_7 : decode cX6_build 7 = .ok (.putfield 171, 3) := by decide +kernel
theorem dX6_build_10 : decode cX6_build 10 = .ok (.aload_n 0, 1) := by decide +kernel
theorem dX6_build_11 : decode cX6_build 11 = .ok (.iload_n 1, 1) := by decide +kernel
theorem dX6_build_12 : decode cX6_build 12 = .ok (.iload_n 2, 1) := by decide +kernel
theorem dX6_build_13 : decode cX6_build 13 = .ok (.invokevirtual 174, 3) := by decide +kernel
theorem dX6_build_16 : decode cX6_build 16 = .ok (.aload_n 0, 1) := by decide +kernel
theorem dX6_build_17 : decode cX6_build 17 = .ok (.getfield 49, 3) := by decide +kernel
theorem dX6_build_20 : decode cX6_build 20 = .ok (.aload_n 0, 1) := by decide +kernel
theorem dX6_build_21 : decode cX6_build 21 = .ok (.getfield 171, 3) := by decide +kernel
theorem dX6_build_24 : decode cX6_build 24 = .ok (.iconst 1, 1) := by decide +kernel
theorem dX6_build_25 : decode cX6_build 25 = .ok (.isub, 1) := by decide +kernel
theorem dX6_build_26 : decode cX6_build 26 = .ok (.iconst 2, 1) := by decide +kernel
theorem dX6_build_27 : decode cX6_build 27 = .ok (.idiv, 1) := by decide +kernel
theorem dX6_build_28 : decode cX6_build 28 = .ok (.iaload, 1) := by decide +kernel
theorem dX6_build_29 : decode cX6_build 29 = .ok (.istore_n 3, 1) := by decide +kernel
theorem dX6_build_30 : decode cX6_build 30 = .ok (.aload_n 0, 1) := by decide +kernel
theorem dX6_build_31 : decode cX6_build 31 = .ok (.getfield 19, 3) := by decide +kernel
theorem dX6_build_34 : decode cX6_build 34 = .ok (.bipush 100, 2) := by decide +kernel
theorem dX6_build_36 : decode cX6_build 36 = .ok (.iload_n 1, 1) := by decide +kernel
theorem dX6_build_37 : decode cX6_build 37 = .ok (.imul, 1) := by decide +kernel
theorem dX6_build_38 : decode cX6_build 38 = .ok (.iload_n 2, 1) := by decide +kernel
theorem dX6_build_39 : decode cX6_build 39 = .ok (.iadd, 1) := by decide +kernel
theorem dX6_build_40 : decode cX6_build 40 = .ok (.iaload, 1) := by decide +kernel
theorem dX6_build_41 : decode cX6_build 41 = .ok (.istore 4, 2) := by decide +kernel
theorem dX6_build_43 : decode cX6_build 43 = .ok (.iload_n 3, 1) := by decide +kernel
theorem dX6_build_44 : decode cX6_build 44 = .ok (.iload_n 2, 1) := by decide +kernel
theorem dX6_build_45 : decode cX6_build 45 = .ok (.if_icmp .eq 10, 3) := by decide +kernel
theorem dX6_build_48 : decode cX6_build 48 = .ok (.aload_n 0, 1) := by decide +kernel
theorem dX6_build_49 : decode cX6_build 49 = .ok (.iload_n 1, 1) := by decide +kernel
theorem dX6_build_50 : decode cX6_build 50 = .ok (.iload_n 2, 1) := by decide +kernel
theorem dX6_build_51 : decode cX6_build 51 = .ok (.iload_n 3, 1) := by decide +kernel
theorem dX6_build_52 : decode cX6_build 52 = .ok (.invokevirtual 178, 3) := by decide +kernel
theorem dX6_build_55 : decode cX6_build 55 = .ok (.iconst 1, 1) := by decide +kernel
theorem dX6_build_56 : decode cX6_build 56 = .ok (.istore 5, 2) := by decide +kernel
theorem dX6_build_58 : decode cX6_build 58 = .ok (.aload_n 0, 1) := by decide +kernel
theorem dX6_build_59 : decode cX6_build 59 = .ok (.getfield 52, 3) := by decide +kernel
theorem dX6_build_62 : decode cX6_build 62 = .ok (.iconst 0, 1) := by decide +kernel
theorem dX6_build_63 : decode cX6_build 63 = .ok (.iconst 0, 1) := by decide +kernel
theorem dX6_build_64 : decode cX6_build 64 = .ok (.iastore, 1) := by decide +kernel
theorem dX6_build_65 : decode cX6_build 65 = .ok (.aload_n 0, 1) := by decide +kernel
theorem dX6_build_66 : decode cX6_build 66 = .ok (.getfield 55, 3) := by decide +kernel
theorem dX6_build_69 : decode cX6_build 69 = .ok (.iconst 0, 1) := by decide +kernel
theorem dX6_build_70 : decode cX6_build 70 = .ok (.aload_n 0, 1) := by decide +kernel
theorem dX6_build_71 : decode cX6_build 71 = .ok (.getfield 171, 3) := by decide +kernel
theorem dX6_build_74 : decode cX6_build 74 = .ok (.iconst 1, 1) := by decide +kernel
theorem dX6_build_75 : decode cX6_build 75 = .ok (.isub, 1) := by decide +kernel
theorem dX6_build_76 : decode cX6_build 76 = .ok (.iastore, 1) := by decide +kernel
theorem dX6_build_77 : decode cX6_build 77 = .ok (.aload_n 0, 1) := by decide +kernel
theorem dX6_build_78 : decode cX6_build 78 = .ok (.getfield 58, 3) := by decide +kernel
theorem dX6_build_81 : decode cX6_build 81 = .ok (.iconst 0, 1) := by decide +kernel
theorem dX6_build_82 : decode cX6_build 82 = .ok (.iload 4, 2) := by decide +kernel
theorem dX6_build_84 : decode cX6_build 84 = .ok (.iastore, 1) := by decide +kernel
theorem dX6_build_85 : decode cX6_build 85 = .ok (.iconst 0, 1) := by decide +kernel
theorem dX6_build_86 : decode cX6_build 86 = .ok (.istore 6, 2) := by decide +kernel
theorem dX6_build_88 : decode cX6_build 88 = .ok (.iload 6, 2) := by decide +kernel
theorem dX6_build_90 : decode cX6_build 90 = .ok (.iload 5, 2) := by decide +kernel
theorem dX6_build_92 : decode cX6_build 92 = .ok (.if_icmp .ge 216, 3) := by decide +kernel
theorem dX6_build_95 : decode cX6_build 95 = .ok (.aload_n 0, 1) := by decide +kernel
theorem dX6_build_96 : decode cX6_build 96 = .ok (.getfield 52, 3) := by decide +kernel
theorem dX6_build_99 : decode cX6_build 99 = .ok (.iload 6, 2) := by decide +kernel
theorem dX6_build_101 : decode cX6_build 101 = .ok (.iaload, 1) := by decide +kernel
theorem dX6_build_102 : decode cX6_build 102 = .ok (.istore 7, 2) := by decide +kernel
theorem dX6_build_104 : decode cX6_build 104 = .ok (.aload_n 0, 1) := by decide +kernel
theorem dX6_build_105 : decode cX6_build 105 = .ok (.getfield 55, 3) := by decide +kernel
theorem dX6_build_108 : decode cX6_build 108 = .ok (.iload 6, 2) := by decide +kernel
theorem dX6_build_110 : decode cX6_build 110 = .ok (.iaload, 1) := by decide +kernel
theorem dX6_build_111 : decode cX6_build 111 = .ok (.istore 8, 2) := by decide +kernel
theorem dX6_build_113 : decode cX6_build 113 = .ok (.iload 7, 2) := by decide +kernel
theorem dX6_build_115 : decode cX6_build 115 = .ok (.iload 8, 2) := by decide +kernel
theorem dX6_build_117 : decode cX6_build 117 = .ok (.iadd, 1) := by decide +kernel
theorem dX6_build_118 : decode cX6_build 118 = .ok (.iconst 2, 1) := by decide +kernel
theorem dX6_build_119 : decode cX6_build 119 = .ok (.idiv, 1) := by decide +kernel
theorem dX6_build_120 : decode cX6_build 120 = .ok (.istore 9, 2) := by decide +kernel
theorem dX6_build_122 : decode cX6_build 122 = .ok (.aload_n 0, 1) := by decide +kernel
theorem dX6_build_123 : decode cX6_build 123 = .ok (.getfield 49, 3) := by decide +kernel
theorem dX6_build_126 : decode cX6_build 126 = .ok (.iload 9, 2) := by decide +kernel
theorem dX6_build_128 : decode cX6_build 128 = .ok (.iaload, 1) := by decide +kernel
theorem dX6_build_129 : decode cX6_build 129 = .ok (.istore 10, 2) := by decide +kernel
theorem dX6_build_131 : decode cX6_build 131 = .ok (.aload_n 0, 1) := by decide +kernel
theorem dX6_build_132 : decode cX6_build 132 = .ok (.getfield 19, 3) := by decide +kernel
theorem dX6_build_135 : decode cX6_build 135 = .ok (.bipush 100, 2) := by decide +kernel
theorem dX6_build_137 : decode cX6_build 137 = .ok (.iload_n 1, 1) := by decide +kernel
theorem dX6_build_138 : decode cX6_build 138 = .ok (.imul, 1) := by decide +kernel
theorem dX6_build_139 : decode cX6_build 139 = .ok (.iload 10, 2) := by decide +kernel
theorem dX6_build_141 : decode cX6_build 141 = .ok (.iadd, 1) := by decide +kernel
theorem dX6_build_142 : decode cX6_build 142 = .ok (.aload_n 0, 1) := by decide +kernel
theorem dX6_build_143 : decode cX6_build 143 = .ok (.getfield 58, 3) := by decide +kernel
theorem dX6_build_146 : decode cX6_build 146 = .ok (.iload 6, 2) := by decide +kernel
theorem dX6_build_148 : decode cX6_build 148 = .ok (.iaload, 1) := by decide +kernel
theorem dX6_build_149 : decode cX6_build 149 = .ok (.iastore, 1) := by decide +kernel
theorem dX6_build_150 : decode cX6_build 150 = .ok (.aload_n 0, 1) := by decide +kernel
theorem dX6_build_151 : decode cX6_build 151 = .ok (.getfield 13, 3) := by decide +kernel
theorem dX6_build_154 : decode cX6_build 154 = .ok (.bipush 100, 2) := by decide +kernel
theorem dX6_build_156 : decode cX6_build 156 = .ok (.iload_n 1, 1) := by decide +kernel
theorem dX6_build_157 : decode cX6_build 157 = .ok (.imul, 1) := by decide +kernel
theorem dX6_build_158 : decode cX6_build 158 = .ok (.iload 10, 2) := by decide +kernel
theorem dX6_build_160 : decode cX6_build 160 = .ok (.iadd, 1) := by decide +kernel
theorem dX6_build_161 : decode cX6_build 161 = .ok (.iload 7, 2) := by decide +kernel
theorem dX6_build_163 : decode cX6_build 163 = .ok (.iload 9, 2) := by decide +kernel
theorem dX6_build_165 : decode cX6_build 165 = .ok (.if_icmp .ge 20, 3) := by decide +kernel
theorem dX6_build_168 : decode cX6_build 168 = .ok (.aload_n 0, 1) := by decide +kernel
theorem dX6_build_169 : decode cX6_build 169 = .ok (.getfield 49, 3) := by decide +kernel
theorem dX6_build_172 : decode cX6_build 172 = .ok (.iload 7, 2) := by decide +kernel
theorem dX6_build_174 : decode cX6_build 174 = .ok (.iload 9, 2) := by decide +kernel
theorem dX6_build_176 : decode cX6_build 176 = .ok (.iadd, 1) := by decide +kernel
theorem dX6_build_177 : decode cX6_build 177 = .ok (.iconst 1, 1) := by decide +kernel
theorem dX6_build_178 : decode cX6_build 178 = .ok (.isub, 1) := by decide +kernel
theorem dX6_build_179 : decode cX6_build 179 = .ok (.iconst 2, 1) := by decide +kernel
theorem dX6_build_180 : decode cX6_build 180 = .ok (.idiv, 1) := by decide +kernel
theorem dX6_build_181 : decode cX6_build 181 = .ok (.iaload, 1) := by decide +kernel
theorem dX6_build_182 : decode cX6_build 182 = .ok (.goto 4, 3) := by decide +kernel
theorem dX6_build_185 : decode cX6_build 185 = .ok (.iconst (-1), 1) := by decide +kernel
theorem dX6_build_186 : decode cX6_build 186 = .ok (.iastore, 1) := by decide +kernel
theorem dX6_build_187 : decode cX6_build 187 = .ok (.aload_n 0, 1) := by decide +kernel
theorem dX6_build_188 : decode cX6_build 188 = .ok (.getfield 16, 3) := by decide +kernel
theorem dX6_build_191 : decode cX6_build 191 = .ok (.bipush 100, 2) := by decide +kernel
theorem dX6_build_193 : decode cX6_build 193 = .ok (.iload_n 1, 1) := by decide +kernel
theorem dX6_build_194 : decode cX6_build 194 = .ok (.imul, 1) := by decide +kernel
theorem dX6_build_195 : decode cX6_build 195 = .ok (.iload 10, 2) := by decide +kernel
theorem dX6_build_197 : decode cX6_build 197 = .ok (.iadd, 1) := by decide +kernel
theorem dX6_build_198 : decode cX6_build 198 = .ok (.iload 9, 2) := by decide +kernel
theorem dX6_build_200 : decode cX6_build 200 = .ok (.iload 8, 2) := by decide +kernel
theorem dX6_build_202 : decode cX6_build 202 = .ok (.if_icmp .ge 20, 3) := by decide +kernel
theorem dX6_build_205 : decode cX6_build 205 = .ok (.aload_n 0, 1) := by decide +kernel
theorem dX6_build_206 : decode cX6_build 206 = .ok (.getfield 49, 3) := by decide +kernel
