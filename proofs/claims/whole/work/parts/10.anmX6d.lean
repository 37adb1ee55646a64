theorem dX6_drawn_50 : decode cX6_drawn 50 = .ok (.iconst 0, 1) := by decide +kernel
theorem dX6_drawn_51 : decode cX6_drawn 51 = .ok (.istore 4, 2) := by decide +kernel
theorem dX6_drawn_53 : decode cX6_drawn 53 = .ok (.iload 4, 2) := by decide +kernel
theorem dX6_drawn_55 : decode cX6_drawn 55 = .ok (.iload_n 1, 1) := by decide +kernel
theorem dX6_drawn_56 : decode cX6_drawn 56 = .ok (.if_icmp .ge 59, 3) := by decide +kernel
theorem dX6_drawn_59 : decode cX6_drawn 59 = .ok (.aload_n 0, 1) := by decide +kernel
theorem dX6_drawn_60 : decode cX6_drawn 60 = .ok (.bipush 100, 2) := by decide +kernel
theorem dX6_drawn_62 : decode cX6_drawn 62 = .ok (.invokevirtual 311, 3) := by decide +kernel
theorem dX6_drawn_65 : decode cX6_drawn 65 = .ok (.istore 5, 2) := by decide +kernel
theorem dX6_drawn_67 : decode cX6_drawn 67 = .ok (.aload_n 0, 1) := by decide +kernel
theorem dX6_drawn_68 : decode cX6_drawn 68 = .ok (.getfield 22, 3) := by decide +kernel
theorem dX6_drawn_71 : decode cX6_drawn 71 = .ok (.bipush 100, 2) := by decide +kernel
theorem dX6_drawn_73 : decode cX6_drawn 73 = .ok (.iload 5, 2) := by decide +kernel
theorem dX6_drawn_75 : decode cX6_drawn 75 = .ok (.iadd, 1) := by decide +kernel
theorem dX6_drawn_76 : decode cX6_drawn 76 = .ok (.iaload, 1) := by decide +kernel
theorem dX6_drawn_77 : decode cX6_drawn 77 = .ok (.iconst 1, 1) := by decide +kernel
theorem dX6_drawn_78 : decode cX6_drawn 78 = .ok (.if_icmp .ne 13, 3) := by decide +kernel
theorem dX6_drawn_81 : decode cX6_drawn 81 = .ok (.aload_n 0, 1) := by decide +kernel
theorem dX6_drawn_82 : decode cX6_drawn 82 = .ok (.iconst 1, 1) := by decide +kernel
theorem dX6_drawn_83 : decode cX6_drawn 83 = .ok (.iload 5, 2) := by decide +kernel
theorem dX6_drawn_85 : decode cX6_drawn 85 = .ok (.invokevirtual 233, 3) := by decide +kernel
theorem dX6_drawn_88 : decode cX6_drawn 88 = .ok (.goto 21, 3) := by decide +kernel
theorem dX6_drawn_91 : decode cX6_drawn 91 = .ok (.aload_n 0, 1) := by decide +kernel
theorem dX6_drawn_92 : decode cX6_drawn 92 = .ok (.getfield 28, 3) := by decide +kernel
theorem dX6_drawn_95 : decode cX6_drawn 95 = .ok (.iconst 1, 1) := by decide +kernel
theorem dX6_drawn_96 : decode cX6_drawn 96 = .ok (.iaload, 1) := by decide +kernel
theorem dX6_drawn_97 : decode cX6_drawn 97 = .ok (.bipush 40, 2) := by decide +kernel
theorem dX6_drawn_99 : decode cX6_drawn 99 = .ok (.if_icmp .ge 10, 3) := by decide +kernel
theorem dX6_drawn_102 : decode cX6_drawn 102 = .ok (.aload_n 0, 1) := by decide +kernel
theorem dX6_drawn_103 : decode cX6_drawn 103 = .ok (.iconst 1, 1) := by decide +kernel
theorem dX6_drawn_104 : decode cX6_drawn 104 = .ok (.iload 5, 2) := by decide +kernel
theorem dX6_drawn_106 : decode cX6_drawn 106 = .ok (.invokevirtual 227, 3) := by decide +kernel
theorem dX6_drawn_109 : decode cX6_drawn 109 = .ok (.iinc 4 1, 3) := by decide +kernel
theorem dX6_drawn_112 : decode cX6_drawn 112 = .ok (.goto (-59), 3) := by decide +kernel
theorem dX6_drawn_115 : decode cX6_drawn 115 = .ok (.iload_n 3, 1) := by decide +kernel
theorem dX6_drawn_116 : decode cX6_drawn 116 = .ok (.ifCond .ne 12, 3) := by decide +kernel
theorem dX6_drawn_119 : decode cX6_drawn 119 = .ok (.aload_n 0, 1) := by decide +kernel
theorem dX6_drawn_120 : decode cX6_drawn 120 = .ok (.getfield 37, 3) := by decide +kernel
theorem dX6_drawn_123 : decode cX6_drawn 123 = .ok (.iconst 1, 1) := by decide +kernel
theorem dX6_drawn_124 : decode cX6_drawn 124 = .ok (.iaload, 1) := by decide +kernel
theorem dX6_drawn_125 : decode cX6_drawn 125 = .ok (.goto 20, 3) := by decide +kernel
theorem dX6_drawn_128 : decode cX6_drawn 128 = .ok (.iload_n 3, 1) := by decide +kernel
theorem dX6_drawn_129 : decode cX6_drawn 129 = .ok (.iconst 1, 1) := by decide +kernel
theorem dX6_drawn_130 : decode cX6_drawn 130 = .ok (.if_icmp .ne 11, 3) := by decide +kernel
theorem dX6_drawn_133 : decode cX6_drawn 133 = .ok (.aload_n 0, 1) := by decide +kernel
theorem dX6_drawn_134 : decode cX6_drawn 134 = .ok (.iconst 1, 1) := by decide +kernel
theorem dX6_drawn_135 : decode cX6_drawn 135 = .ok (.invokevirtual 258, 3) := by decide +kernel
theorem dX6_drawn_138 : decode cX6_drawn 138 = .ok (.goto 7, 3) := by decide +kernel
theorem dX6_drawn_141 : decode cX6_drawn 141 = .ok (.aload_n 0, 1) := by decide +kernel
theorem dX6_drawn_142 : decode cX6_drawn 142 = .ok (.getfield 299, 3) := by decide +kernel
theorem dX6_drawn_145 : decode cX6_drawn 145 = .ok (.ireturn, 1) := by decide +kernel
set_option maxRecDepth 20000 in
theorem ggX6_image_X6_lacks : GoodIn wsX6_image wsX6_lacks := goodIn_r _ [41, 42, 46, 47, 48, 49, 50, 51, 52, 53, 54, 55, 56, 57, 58, 59, 60, 61, 62, 63, 64, 65, 66, 67, 68, 69, 70, 71, 72, 73, 74, 75, 76, 77, 78, 79, 80, 81, 82, 83, 84, 85, 86, 87, 88, 89, 90, 91, 92, 93, 94, 95] rfl (by decide +kernel)
set_option maxRecDepth 20000 in
theorem gX6_image_X6_lacks : GoodIn wsX6_image (wsV RX6 236 RX6 yX6_lacks wsX6_lacks) := goodIn_app (goodIn_of _ (by decide +kernel)) ggX6_image_X6_lacks
set_option maxRecDepth 20000 in
theorem ggX6_image_X6_copy : GoodIn wsX6_image wsX6_copy := goodIn_r _ [45] rfl (by decide +kernel)
set_option maxRecDepth 20000 in
theorem gX6_image_X6_copy : GoodIn wsX6_image (va_wsS RX6 314 yX6_copy wsX6_copy) := goodIn_app (goodIn_of _ (by decide +kernel)) ggX6_image_X6_copy
theorem dX6_image_0 : decode cX6_image 0 = .ok (.aload_n 0, 1) := by decide +kernel
theorem dX6_image_1 : decode cX6_image 1 = .ok (.invokevirtual 236, 3) := by decide +kernel
theorem dX6_image_4 : decode cX6_image 4 = .ok (.ifCond .eq 6, 3) := by decide +kernel
theorem dX6_image_7 : decode cX6_image 7 = .ok (.bipush (-103), 2) := by decide +kernel
theorem dX6_image_9 : decode cX6_image 9 = .ok (.ireturn, 1) := by decide +kernel
theorem dX6_image_10 : decode cX6_image 10 = .ok (.aload_n 0, 1) := by decide +kernel
theorem dX6_image_11 : decode cX6_image 11 = .ok (.getfield 13, 3) := by decide +kernel
theorem dX6_image_14 : decode cX6_image 14 = .ok (.aload_n 0, 1) := by decide +kernel
theorem dX6_image_15 : decode cX6_image 15 = .ok (.getfield 64, 3) := by decide +kernel
theorem dX6_image_18 : decode cX6_image 18 = .ok (.invokestatic 314, 3) := by decide +kernel
theorem dX6_image_21 : decode cX6_image 21 = .ok (.aload_n 0, 1) := by decide +kernel
theorem dX6_image_22 : decode cX6_image 22 = .ok (.getfield 16, 3) := by decide +kernel
theorem dX6_image_25 : decode cX6_image 25 = .ok (.aload_n 0, 1) := by decide +kernel
theorem dX6_image_26 : decode cX6_image 26 = .ok (.getfield 67, 3) := by decide +kernel
theorem dX6_image_29 : decode cX6_image 29 = .ok (.invokestatic 314, 3) := by decide +kernel
theorem dX6_image_32 : decode cX6_image 32 = .ok (.aload_n 0, 1) := by decide +kernel
theorem dX6_image_33 : decode cX6_image 33 = .ok (.getfield 19, 3) := by decide +kernel
theorem dX6_image_36 : decode cX6_image 36 = .ok (.aload_n 0, 1) := by decide +kernel
theorem dX6_image_37 : decode cX6_image 37 = .ok (.getfield 70, 3) := by decide +kernel
theorem dX6_image_40 : decode cX6_image 40 = .ok (.invokestatic 314, 3) := by decide +kernel
theorem dX6_image_43 : decode cX6_image 43 = .ok (.aload_n 0, 1) := by decide +kernel
theorem dX6_image_44 : decode cX6_image 44 = .ok (.getfield 22, 3) := by decide +kernel
theorem dX6_image_47 : decode cX6_image 47 = .ok (.aload_n 0, 1) := by decide +kernel
theorem dX6_image_48 : decode cX6_image 48 = .ok (.getfield 73, 3) := by decide +kernel
theorem dX6_image_51 : decode cX6_image 51 = .ok (.invokestatic 314, 3) := by decide +kernel
theorem dX6_image_54 : decode cX6_image 54 = .ok (.aload_n 0, 1) := by decide +kernel
theorem dX6_image_55 : decode cX6_image 55 = .ok (.getfield 40, 3) := by decide +kernel
theorem dX6_image_58 : decode cX6_image 58 = .ok (.aload_n 0, 1) := by decide +kernel
theorem dX6_image_59 : decode cX6_image 59 = .ok (.getfield 76, 3) := by decide +kernel
theorem dX6_image_62 : decode cX6_image 62 = .ok (.invokestatic 314, 3) := by decide +kernel
theorem dX6_image_65 : decode cX6_image 65 = .ok (.aload_n 0, 1) := by decide +kernel
theorem dX6_image_66 : decode cX6_image 66 = .ok (.getfield 43, 3) := by decide +kernel
theorem dX6_image_69 : decode cX6_image 69 = .ok (.aload_n 0, 1) := by decide +kernel
theorem dX6_image_70 : decode cX6_image 70 = .ok (.getfield 79, 3) := by decide +kernel
theorem dX6_image_73 : decode cX6_image 73 = .ok (.invokestatic 314, 3) := by decide +kernel
theorem dX6_image_76 : decode cX6_image 76 = .ok (.aload_n 0, 1) := by decide +kernel
theorem dX6_image_77 : decode cX6_image 77 = .ok (.getfield 46, 3) := by decide +kernel
theorem dX6_image_80 : decode cX6_image 80 = .ok (.aload_n 0, 1) := by decide +kernel
theorem dX6_image_81 : decode cX6_image 81 = .ok (.getfield 82, 3) := by decide +kernel
theorem dX6_image_84 : decode cX6_image 84 = .ok (.invokestatic 314, 3) := by decide +kernel
theorem dX6_image_87 : decode cX6_image 87 = .ok (.aload_n 0, 1) := by decide +kernel
theorem dX6_image_88 : decode cX6_image 88 = .ok (.getfield 61, 3) := by decide +kernel
theorem dX6_image_91 : decode cX6_image 91 = .ok (.aload_n 0, 1) := by decide +kernel
theorem dX6_image_92 : decode cX6_image 92 = .ok (.getfield 85, 3) := by decide +kernel
theorem dX6_image_95 : decode cX6_image 95 = .ok (.invokestatic 314, 3) := by decide +kernel
theorem dX6_image_98 : decode cX6_image 98 = .ok (.aload_n 0, 1) := by decide +kernel
theorem dX6_image_99 : decode cX6_image 99 = .ok (.aload_n 0, 1) := by decide +kernel
theorem dX6_image_100 : decode cX6_image 100 = .ok (.getfield 25, 3) := by decide +kernel
theorem dX6_image_103 : decode cX6_image 103 = .ok (.iconst 0, 1) := by decide +kernel
theorem dX6_image_104 : decode cX6_image 104 = .ok (.iaload, 1) := by decide +kernel
theorem dX6_image_105 : decode cX6_image 105 = .ok (.putfield 318, 3) := by decide +kernel
theorem dX6_image_108 : decode cX6_image 108 = .ok (.aload_n 0, 1) := by decide +kernel
theorem dX6_image_109 : decode cX6_image 109 = .ok (.aload_n 0, 1) := by decide +kernel
theorem dX6_image_110 : decode cX6_image 110 = .ok (.getfield 28, 3) := by decide +kernel
theorem dX6_image_113 : decode cX6_image 113 = .ok (.iconst 0, 1) := by decide +kernel
theorem dX6_image_114 : decode cX6_image 114 = .ok (.iaload, 1) := by decide +kernel
theorem dX6_image_115 : decode cX6_image 115 = .ok (.putfield 321, 3) := by decide +kernel
theorem dX6_image_118 : decode cX6_image 118 = .ok (.aload_n 0, 1) := by decide +kernel
theorem dX6_image_119 : decode cX6_image 119 = .ok (.aload_n 0, 1) := by decide +kernel
theorem dX6_image_120 : decode cX6_image 120 = .ok (.getfield 31, 3) := by decide +kernel
theorem dX6_image_123 : decode cX6_image 123 = .ok (.iconst 0, 1) := by decide +kernel
theorem dX6_image_124 : decode cX6_image 124 = .ok (.iaload, 1) := by decide +kernel
theorem dX6_image_125 : decode cX6_image 125 = .ok (.putfield 324, 3) := by decide +kernel
theorem dX6_image_128 : decode cX6_image 128 = .ok (.aload_n 0, 1) := by decide +kernel
theorem dX6_image_129 : decode cX6_image 129 = .ok (.aload_n 0, 1) := by decide +kernel
theorem dX6_image_130 : decode cX6_image 130 = .ok (.getfield 34, 3) := by decide +kernel
theorem dX6_image_133 : decode cX6_image 133 = .ok (.iconst 0, 1) := by decide +kernel
theorem dX6_image_134 : decode cX6_image 134 = .ok (.iaload, 1) := by decide +kernel
theorem dX6_image_135 : decode cX6_image 135 = .ok (.putfield 327, 3) := by decide +kernel
theorem dX6_image_138 : decode cX6_image 138 = .ok (.aload_n 0, 1) := by decide +kernel
theorem dX6_image_139 : decode cX6_image 139 = .ok (.aload_n 0, 1) := by decide +kernel
theorem dX6_image_140 : decode cX6_image 140 = .ok (.getfield 37, 3) := by decide +kernel
theorem dX6_image_143 : decode cX6_image 143 = .ok (.iconst 0, 1) := by decide +kernel
theorem dX6_image_144 : decode cX6_image 144 = .ok (.iaload, 1) := by decide +kernel
theorem dX6_image_145 : decode cX6_image 145 = .ok (.putfield 330, 3) := by decide +kernel
theorem dX6_image_148 : decode cX6_image 148 = .ok (.aload_n 0, 1) := by decide +kernel
theorem dX6_image_149 : decode cX6_image 149 = .ok (.aload_n 0, 1) := by decide +kernel
theorem dX6_image_150 : decode cX6_image 150 = .ok (.getfield 184, 3) := by decide +kernel
theorem dX6_image_153 : decode cX6_image 153 = .ok (.putfield 333, 3) := by decide +kernel
theorem dX6_image_156 : decode cX6_image 156 = .ok (.aload_n 0, 1) := by decide +kernel
theorem dX6_image_157 : decode cX6_image 157 = .ok (.aload_n 0, 1) := by decide +kernel
theorem dX6_image_158 : decode cX6_image 158 = .ok (.getfield 187, 3) := by decide +kernel
theorem dX6_image_161 : decode cX6_image 161 = .ok (.putfield 336, 3) := by decide +kernel
theorem dX6_image_164 : decode cX6_image 164 = .ok (.aload_n 0, 1) := by decide +kernel
theorem dX6_image_165 : decode cX6_image 165 = .ok (.aload_n 0, 1) := by decide +kernel
theorem dX6_image_166 : decode cX6_image 166 = .ok (.getfield 211, 3) := by decide +kernel
theorem dX6_image_169 : decode cX6_image 169 = .ok (.putfield 339, 3) := by decide +kernel
theorem dX6_image_172 : decode cX6_image 172 = .ok (.aload_n 0, 1) := by decide +kernel
theorem dX6_image_173 : decode cX6_image 173 = .ok (.aload_n 0, 1) := by decide +kernel
theorem dX6_image_174 : decode cX6_image 174 = .ok (.getfield 218, 3) := by decide +kernel
theorem dX6_image_177 : decode cX6_image 177 = .ok (.putfield 342, 3) := by decide +kernel
theorem dX6_image_180 : decode cX6_image 180 = .ok (.aload_n 0, 1) := by decide +kernel
theorem dX6_image_181 : decode cX6_image 181 = .ok (.aload_n 0, 1) := by decide +kernel
theorem dX6_image_182 : decode cX6_image 182 = .ok (.getfield 224, 3) := by decide +kernel
theorem dX6_image_185 : decode cX6_image 185 = .ok (.putfield 88, 3) := by decide +kernel
theorem dX6_image_188 : decode cX6_image 188 = .ok (.aload_n 0, 1) := by decide +kernel
theorem dX6_image_189 : decode cX6_image 189 = .ok (.getfield 28, 3) := by decide +kernel
theorem dX6_image_192 : decode cX6_image 192 = .ok (.iconst 0, 1) := by decide +kernel
theorem dX6_image_193 : decode cX6_image 193 = .ok (.iaload, 1) := by decide +kernel
theorem dX6_image_194 : decode cX6_image 194 = .ok (.ireturn, 1) := by decide +kernel
set_option maxRecDepth 20000 in
theorem ggX6_restore_X6_copy : GoodIn wsX6_restore wsX6_copy := goodIn_r _ [40] rfl (by decide +kernel)
set_option maxRecDepth 20000 in
theorem gX6_restore_X6_copy : GoodIn wsX6_restore (va_wsS RX6 314 yX6_copy wsX6_copy) := goodIn_app (goodIn_of _ (by decide +kernel)) ggX6_restore_X6_copy
theorem dX6_restore_0 : decode cX6_restore 0 = .ok (.aload_n 0, 1) := by decide +kernel
theorem dX6_restore_1 : decode cX6_restore 1 = .ok (.getfield 88, 3) := by decide +kernel
theorem dX6_restore_4 : decode cX6_restore 4 = .ok (.aload_n 0, 1) := by decide +kernel
theorem dX6_restore_5 : decode cX6_restore 5 = .ok (.getfield 224, 3) := by decide +kernel
theorem dX6_restore_8 : decode cX6_restore 8 = .ok (.if_icmp .eq 6, 3) := by decide +kernel
theorem dX6_restore_11 : decode cX6_restore 11 = .ok (.bipush (-103), 2) := by decide +kernel
theorem dX6_restore_13 : decode cX6_restore 13 = .ok (.ireturn, 1) := by decide +kernel
theorem dX6_restore_14 : decode cX6_restore 14 = .ok (.aload_n 0, 1) := by decide +kernel
theorem dX6_restore_15 : decode cX6_restore 15 = .ok (.getfield 64, 3) := by decide +kernel
theorem dX6_restore_18 : decode cX6_restore 18 = .ok (.aload_n 0, 1) := by decide +kernel
theorem dX6_restore_19 : decode cX6_restore 19 = .ok (.getfield 13, 3) := by decide +kernel
theorem dX6_restore_22 : decode cX6_restore 22 = .ok (.invokestatic 314, 3) := by decide +kernel
theorem dX6_restore_25 : decode cX6_restore 25 = .ok (.aload_n 0, 1) := by decide +kernel
theorem dX6_restore_26 : decode cX6_restore 26 = .ok (.getfield 67, 3) := by decide +kernel
theorem dX6_restore_29 : decode cX6_restore 29 = .ok (.aload_n 0, 1) := by decide +kernel
theorem dX6_restore_30 : decode cX6_restore 30 = .ok (.getfield 16, 3) := by decide +kernel
theorem dX6_restore_33 : decode cX6_restore 33 = .ok (.invokestatic 314, 3) := by decide +kernel
theorem dX6_restore_36 : decode cX6_restore 36 = .ok (.aload_n 0, 1) := by decide +kernel
theorem dX6_restore_37 : decode cX6_restore 37 = .ok (.getfield 70, 3) := by decide +kernel
theorem dX6_restore_40 : decode cX6_restore 40 = .ok (.aload_n 0, 1) := by decide +kernel
theorem dX6_restore_41 : decode cX6_restore 41 = .ok (.getfield 19, 3) := by decide +kernel
theorem dX6_restore_44 : decode cX6_restore 44 = .ok (.invokestatic 314, 3) := by decide +kernel
theorem dX6_restore_47 : decode cX6_restore 47 = .ok (.aload_n 0, 1) := by decide +kernel
theorem dX6_restore_48 : decode cX6_restore 48 = .ok (.getfield 73, 3) := by decide +kernel
theorem dX6_restore_51 : decode cX6_restore 51 = .ok (.aload_n 0, 1) := by decide +kernel
theorem dX6_restore_52 : decode cX6_restore 52 = .ok (.getfield 22, 3) := by decide +kernel
theorem dX6_restore_55 : decode cX6_restore 55 = .ok (.invokestatic 314, 3) := by decide +kernel
theorem dX6_restore_58 : decode cX6_restore 58 = .ok (.aload_n 0, 1) := by decide +kernel
theorem dX6_restore_59 : decode cX6_restore 59 = .ok (.getfield 76, 3) := by decide +kernel
theorem dX6_restore_62 : decode cX6_restore 62 = .ok (.aload_n 0, 1) := by decide +kernel
theorem dX6_restore_63 : decode cX6_restore 63 = .ok (.getfield 40, 3) := by decide +kernel
theorem dX6_restore_66 : decode cX6_restore 66 = .ok (.invokestatic 314, 3) := by decide +kernel
theorem dX6_restore_69 : decode cX6_restore 69 = .ok (.aload_n 0, 1) := by decide +kernel
theorem dX6_restore_70 : decode cX6_restore 70 = .ok (.getfield 79, 3) := by decide +kernel
theorem dX6_restore_73 : decode cX6_restore 73 = .ok (.aload_n 0, 1) := by decide +kernel
theorem dX6_restore_74 : decode cX6_restore 74 = .ok (.getfield 43, 3) := by decide +kernel
theorem dX6_restore_77 : decode cX6_restore 77 = .ok (.invokestatic 314, 3) := by decide +kernel
theorem dX6_restore_80 : decode cX6_restore 80 = .ok (.aload_n 0, 1) := by decide +kernel
theorem dX6_restore_81 : decode cX6_restore 81 = .ok (.getfield 82, 3) := by decide +kernel
theorem dX6_restore_84 : decode cX6_restore 84 = .ok (.aload_n 0, 1) := by decide +kernel
theorem dX6_restore_85 : decode cX6_restore 85 = .ok (.getfield 46, 3) := by decide +kernel
theorem dX6_restore_88 : decode cX6_restore 88 = .ok (.invokestatic 314, 3) := by decide +kernel
theorem dX6_restore_91 : decode cX6_restore 91 = .ok (.aload_n 0, 1) := by decide +kernel
theorem dX6_restore_92 : decode cX6_restore 92 = .ok (.getfield 85, 3) := by decide +kernel
theorem dX6_restore_95 : decode cX6_restore 95 = .ok (.aload_n 0, 1) := by decide +kernel
theorem dX6_restore_96 : decode cX6_restore 96 = .ok (.getfield 61, 3) := by decide +kernel
theorem dX6_restore_99 : decode cX6_restore 99 = .ok (.invokestatic 314, 3) := by decide +kernel
theorem dX6_restore_102 : decode cX6_restore 102 = .ok (.aload_n 0, 1) := by decide +kernel
theorem dX6_restore_103 : decode cX6_restore 103 = .ok (.getfield 25, 3) := by decide +kernel
theorem dX6_restore_106 : decode cX6_restore 106 = .ok (.iconst 0, 1) := by decide +kernel
theorem dX6_restore_107 : decode cX6_restore 107 = .ok (.aload_n 0, 1) := by decide +kernel
theorem dX6_restore_108 : decode cX6_restore 108 = .ok (.getfield 318, 3) := by decide +kernel
theorem dX6_restore_111 : decode cX6_restore 111 = .ok (.iastore, 1) := by decide +kernel
theorem dX6_restore_112 : decode cX6_restore 112 = .ok (.aload_n 0, 1) := by decide +kernel
theorem dX6_restore_113 : decode cX6_restore 113 = .ok (.getfield 28, 3) := by decide +kernel
theorem dX6_restore_116 : decode cX6_restore 116 = .ok (.iconst 0, 1) := by decide +kernel
theorem dX6_restore_117 : decode cX6_restore 117 = .ok (.aload_n 0, 1) := by decide +kernel
theorem dX6_restore_118 : decode cX6_restore 118 = .ok (.getfield 321, 3) := by decide +kernel
theorem dX6_restore_121 : decode cX6_restore 121 = .ok (.iastore, 1) := by decide +kernel
theorem dX6_restore_122 : decode cX6_restore 122 = .ok (.aload_n 0, 1) := by decide +kernel
theorem dX6_restore_123 : decode cX6_restore 123 = .ok (.getfield 31, 3) := by decide +kernel
theorem dX6_restore_126 : decode cX6_restore 126 = .ok (.iconst 0, 1) := by decide +kernel
theorem dX6_restore_127 : decode cX6_restore 127 = .ok (.aload_n 0, 1) := by decide +kernel
theorem dX6_restore_128 : decode cX6_restore 128 = .ok (.getfield 324, 3) := by decide +kernel
theorem dX6_restore_131 : decode cX6_restore 131 = .ok (.iastore, 1) := by decide +kernel
theorem dX6_restore_132 : decode cX6_restore 132 = .ok (.aload_n 0, 1) := by decide +kernel
theorem dX6_restore_133 : decode cX6_restore 133 = .ok (.getfield 34, 3) := by decide +kernel
theorem dX6_restore_136 : decode cX6_restore 136 = .ok (.iconst 0, 1) := by decide +kernel
theorem dX6_restore_137 : decode cX6_restore 137 = .ok (.aload_n 0, 1) := by decide +kernel
theorem dX6_restore_138 : decode cX6_restore 138 = .ok (.getfield 327, 3) := by decide +kernel
theorem dX6_restore_141 : decode cX6_restore 141 = .ok (.iastore, 1) := by decide +kernel
theorem dX6_restore_142 : decode cX6_restore 142 = .ok (.aload_n 0, 1) := by decide +kernel
theorem dX6_restore_143 : decode cX6_restore 143 = .ok (.getfield 37, 3) := by decide +kernel
theorem dX6_restore_146 : decode cX6_restore 146 = .ok (.iconst 0, 1) := by decide +kernel
theorem dX6_restore_147 : decode cX6_restore 147 = .ok (.aload_n 0, 1) := by decide +kernel
theorem dX6_restore_148 : decode cX6_restore 148 = .ok (.getfield 330, 3) := by decide +kernel
theorem dX6_restore_151 : decode cX6_restore 151 = .ok (.iastore, 1) := by decide +kernel
theorem dX6_restore_152 : decode cX6_restore 152 = .ok (.aload_n 0, 1) := by decide +kernel
theorem dX6_restore_153 : decode cX6_restore 153 = .ok (.aload_n 0, 1) := by decide +kernel
theorem dX6_restore_154 : decode cX6_restore 154 = .ok (.getfield 333, 3) := by decide +kernel
theorem dX6_restore_157 : decode cX6_restore 157 = .ok (.putfield 184, 3) := by decide +kernel
theorem dX6_restore_160 : decode cX6_restore 160 = .ok (.aload_n 0, 1) := by decide +kernel
theorem dX6_restore_161 : decode cX6_restore 161 = .ok (.aload_n 0, 1) := by decide +kernel
theorem dX6_restore_162 : decode cX6_restore 162 = .ok (.getfield 336, 3) := by decide +kernel
theorem dX6_restore_165 : decode cX6_restore 165 = .ok (.putfield 187, 3) := by decide +kernel
theorem dX6_restore_168 : decode cX6_restore 168 = .ok (.aload_n 0, 1) := by decide +kernel
theorem dX6_restore_169 : decode cX6_restore 169 = .ok (.aload_n 0, 1) := by decide +kernel
theorem dX6_restore_170 : decode cX6_restore 170 = .ok (.getfield 339, 3) := by decide +kernel
theorem dX6_restore_173 : decode cX6_restore 173 = .ok (.putfield 211, 3) := by decide +kernel
theorem dX6_restore_176 : decode cX6_restore 176 = .ok (.aload_n 0, 1) := by decide +kernel
theorem dX6_restore_177 : decode cX6_restore 177 = .ok (.aload_n 0, 1) := by decide +kernel
theorem dX6_restore_178 : decode cX6_restore 178 = .ok (.getfield 342, 3) := by decide +kernel
theorem dX6_restore_181 : decode cX6_restore 181 = .ok (.putfield 218, 3) := by decide +kernel
theorem dX6_restore_184 : decode cX6_restore 184 = .ok (.aload_n 0, 1) := by decide +kernel
theorem dX6_restore_185 : decode cX6_restore 185 = .ok (.getfield 28, 3) := by decide +kernel
theorem dX6_restore_188 : decode cX6_restore 188 = .ok (.iconst 0, 1) := by decide +kernel
theorem dX6_restore_189 : decode cX6_restore 189 = .ok (.iaload, 1) := by decide +kernel
theorem dX6_restore_190 : decode cX6_restore 190 = .ok (.ireturn, 1) := by decide +kernel
theorem dX6_countOf_0 : decode cX6_countOf 0 = .ok (.iload_n 1, 1) := by decide +kernel
theorem dX6_countOf_1 : decode cX6_countOf 1 = .ok (.tableswitch 89 0 7 #[47, 54, 59, 64, 69, 74, 79, 84], 47) := by decide +kernel
theorem dX6_countOf_48 : decode cX6_countOf 48 = .ok (.aload_n 0, 1) := by decide +kernel
theorem dX6_countOf_49 : decode cX6_countOf 49 = .ok (.getfield 28, 3) := by decide +kernel
theorem dX6_countOf_52 : decode cX6_countOf 52 = .ok (.iconst 0, 1) := by decide +kernel
theorem dX6_countOf_53 : decode cX6_countOf 53 = .ok (.iaload, 1) := by decide +kernel
theorem dX6_countOf_54 : decode cX6_countOf 54 = .ok (.ireturn, 1) := by decide +kernel
theorem dX6_countOf_55 : decode cX6_countOf 55 = .ok (.aload_n 0, 1) := by decide +kernel
theorem dX6_countOf_56 : decode cX6_countOf 56 = .ok (.getfield 138, 3) := by decide +kernel
theorem dX6_countOf_59 : decode cX6_countOf 59 = .ok (.ireturn, 1) := by decide +kernel
theorem dX6_countOf_60 : decode cX6_countOf 60 = .ok (.aload_n 0, 1) := by decide +kernel
theorem dX6_countOf_61 : decode cX6_countOf 61 = .ok (.getfield 144, 3) := by decide +kernel
theorem dX6_countOf_64 : decode cX6_countOf 64 = .ok (.ireturn, 1) := by decide +kernel
theorem dX6_countOf_65 : decode cX6_countOf 65 = .ok (.aload_n 0, 1) := by decide +kernel
theorem dX6_countOf_66 : decode cX6_countOf 66 = .ok (.getfield 193, 3) := by decide +kernel
theorem dX6_countOf_69 : decode cX6_countOf 69 = .ok (.ireturn, 1) := by decide +kernel
theorem dX6_countOf_70 : decode cX6_countOf 70 = .ok (.aload_n 0, 1) := by decide +kernel
theorem dX6_countOf_71 : decode cX6_countOf 71 = .ok (.getfield 211, 3) := by decide +kernel
theorem dX6_countOf_74 : decode cX6_countOf 74 = .ok (.ireturn, 1) := by decide +kernel
theorem dX6_countOf_75 : decode cX6_countOf 75 = .ok (.aload_n 0, 1) := by decide +kernel
theorem dX6_countOf_76 : decode cX6_countOf 76 = .ok (.getfield 218, 3) := by decide +kernel
theorem dX6_countOf_79 : decode cX6_countOf 79 = .ok (.ireturn, 1) := by decide +kernel
theorem dX6_countOf_80 : decode cX6_countOf 80 = .ok (.aload_n 0, 1) := by decide +kernel
theorem dX6_countOf_81 : decode cX6_countOf 81 = .ok (.getfield 98, 3) := by decide +kernel
theorem dX6_countOf_84 : decode cX6_countOf 84 = .ok (.ireturn, 1) := by decide +kernel
theorem dX6_countOf_85 : decode cX6_countOf 85 = .ok (.aload_n 0, 1) := by decide +kernel
theorem dX6_countOf_86 : decode cX6_countOf 86 = .ok (.getfield 224, 3) := by decide +kernel
theorem dX6_countOf_89 : decode cX6_countOf 89 = .ok (.ireturn, 1) := by decide +kernel
theorem dX6_countOf_90 : decode cX6_countOf 90 = .ok (.bipush (-102), 2) := by decide +kernel
theorem dX6_countOf_92 : decode cX6_countOf 92 = .ok (.ireturn, 1) := by decide +kernel
set_option maxRecDepth 20000 in
theorem ggX6_count_X6_countOf : GoodIn wsX6_count wsX6_countOf := goodIn_r _ [5, 6, 7, 8, 9, 10, 11, 12, 13, 14, 15, 16, 17, 18, 19, 20, 21, 22, 23, 24, 25, 26, 27, 28, 29, 30, 31, 32, 33, 34, 35, 36, 37, 38, 39, 40, 41, 42, 43, 44, 45, 46, 47, 48, 49, 50, 51, 52, 53, 54, 55, 56, 57, 58, 59, 60, 61, 62, 63] rfl (by decide +kernel)
set_option maxRecDepth 20000 in
theorem gX6_count_X6_countOf : GoodIn wsX6_count (wsV RX6 345 RX6 yX6_countOf wsX6_countOf) := goodIn_app (goodIn_of _ (by decide +kernel)) ggX6_count_X6_countOf
theorem dX6_count_0 : decode cX6_count 0 = .ok (.aload_n 0, 1) := by decide +kernel
theorem dX6_count_1 : decode cX6_count 1 = .ok (.iload_n 1, 1) := by decide +kernel
theorem dX6_count_2 : decode cX6_count 2 = .ok (.invokevirtual 345, 3) := by decide +kernel
theorem dX6_count_5 : decode cX6_count 5 = .ok (.ireturn, 1) := by decide +kernel
theorem dX6_say_0 : decode cX6_say 0 = .ok (.aload_n 0, 1) := by decide +kernel
theorem dX6_say_1 : decode cX6_say 1 = .ok (.ldc2_w 348, 3) := by decide +kernel
theorem dX6_say_4 : decode cX6_say 4 = .ok (.aload_n 0, 1) := by decide +kernel
theorem dX6_say_5 : decode cX6_say 5 = .ok (.getfield 350, 3) := by decide +kernel
theorem dX6_say_8 : decode cX6_say 8 = .ok (.lmul, 1) := by decide +kernel
theorem dX6_say_9 : decode cX6_say 9 = .ok (.lload_n 1, 1) := by decide +kernel
theorem dX6_say_10 : decode cX6_say 10 = .ok (.ladd, 1) := by decide +kernel
theorem dX6_say_11 : decode cX6_say 11 = .ok (.putfield 350, 3) := by decide +kernel
theorem dX6_say_14 : decode cX6_say 14 = .ok (.return_, 1) := by decide +kernel
set_option maxRecDepth 20000 in
theorem ggX6_sayShelf_X6_ledgerOf : GoodIn wsX6_sayShelf wsX6_ledgerOf := goodIn_r _ [7, 1, 8, 9, 10, 11, 12, 13, 14, 15, 16, 6, 17, 18, 19, 20, 21, 22, 23, 24, 25, 26, 27, 28, 29, 30, 31, 32, 33, 34, 35, 36, 37, 38, 39, 129, 130, 131, 132, 133, 134, 135, 136, 137, 138, 139, 140, 141, 142, 143, 144, 145, 146, 147, 148, 149, 150, 151, 152, 153, 154, 155, 156, 157, 158, 159, 160, 161, 162, 163, 164, 165, 166, 167, 168, 169, 170, 171, 172, 173, 174, 175, 176, 177, 178] rfl (by decide +kernel)
set_option maxRecDepth 20000 in
theorem gX6_sayShelf_X6_ledgerOf : GoodIn wsX6_sayShelf (wsV RX6 264 RX6 yX6_ledgerOf wsX6_ledgerOf) := goodIn_app (goodIn_of _ (by decide +kernel)) ggX6_sayShelf_X6_ledgerOf
set_option maxRecDepth 20000 in
theorem ggX6_sayShelf_X6_say : GoodIn wsX6_sayShelf wsX6_say := goodIn_r _ [43, 44, 45, 129, 130, 131, 132, 133, 134, 135, 136, 137, 138, 139, 140, 141, 142, 143, 144, 145, 146, 147, 148, 149, 150, 151, 152, 153, 154, 155, 156, 157, 158, 159, 160, 161, 162, 163, 164, 165, 166, 167, 168, 169, 170, 171, 172, 173, 174, 175, 176, 177, 178] rfl (by decide +kernel)
set_option maxRecDepth 20000 in
theorem gX6_sayShelf_X6_say : GoodIn wsX6_sayShelf (wsV RX6 354 RX6 yX6_say wsX6_say) := goodIn_app (goodIn_of _ (by decide +kernel)) ggX6_sayShelf_X6_say
set_option maxRecDepth 20000 in
theorem ggX6_sayShelf_X6_wouldOf : GoodIn wsX6_sayShelf wsX6_wouldOf := goodIn_r _ [49, 18, 50, 51, 52, 53, 6, 54, 55, 56, 23, 57, 1, 8, 12, 13, 38, 39, 32, 33, 58, 59, 60, 61, 62, 63, 64, 65, 66, 67, 68, 69, 70, 19, 20, 21, 22, 71, 72, 73, 74, 10, 11, 24, 25, 26, 27, 28, 29, 30, 31, 34, 35, 36, 37, 75, 76, 77, 78, 79, 80, 81, 82, 83, 84, 85, 86, 87, 88, 89, 90, 91, 92, 93, 94, 95, 96, 97, 98, 99, 100, 101, 102, 129, 130, 131, 132, 133, 134, 135, 136, 137, 138, 139, 140, 141, 142, 143, 144, 145, 146, 147, 148, 149, 150, 151, 152, 153, 154, 155, 156, 157, 158, 159, 160, 161, 162, 163, 164, 165, 166, 167, 168, 169, 170, 171, 172, 173, 174, 175, 176, 177, 178] rfl (by decide +kernel)
set_option maxRecDepth 20000 in
theorem gX6_sayShelf_X6_wouldOf : GoodIn wsX6_sayShelf (wsV RX6 270 RX6 yX6_wouldOf wsX6_wouldOf) := goodIn_app (goodIn_of _ (by decide +kernel)) ggX6_sayShelf_X6_wouldOf
set_option maxRecDepth 20000 in
theorem ggX6_sayShelf_X6_aheadOf : GoodIn wsX6_sayShelf wsX6_aheadOf := goodIn_r _ [106, 1, 18, 50, 51, 52, 53, 6, 54, 55, 56, 23, 57, 8, 12, 13, 38, 39, 32, 33, 107, 108, 109, 110, 62, 19, 20, 21, 22, 71, 72, 73, 74, 10, 11, 111, 112, 113, 114, 115, 116, 117, 118, 99, 100, 101, 102, 67, 68, 69, 70, 28, 29, 30, 31, 34, 35, 36, 37, 87, 88, 89, 90, 91, 92, 93, 94, 79, 80, 81, 82, 83, 84, 85, 86, 95, 96, 97, 98, 129, 130, 131, 132, 133, 134, 135, 136, 137, 138, 139, 140, 141, 142, 143, 144, 145, 146, 147, 148, 149, 150, 151, 152, 153, 154, 155, 156, 157, 158, 159, 160, 161, 162, 163, 164, 165, 166, 167, 168, 169, 170, 171, 172, 173, 174, 175, 176, 177, 178] rfl (by decide +kernel)
set_option maxRecDepth 20000 in
theorem gX6_sayShelf_X6_aheadOf : GoodIn wsX6_sayShelf (wsV RX6 280 RX6 yX6_aheadOf wsX6_aheadOf) := goodIn_app (goodIn_of _ (by decide +kernel)) ggX6_sayShelf_X6_aheadOf
set_option maxRecDepth 20000 in
theorem ggX6_sayShelf_X6_replayOf : GoodIn wsX6_sayShelf wsX6_replayOf := goodIn_r _ [122, 39, 33, 123, 124, 13, 125, 126, 127, 6, 128, 18, 57, 1, 8, 12, 107, 108, 109, 110, 62, 50, 19, 20, 21, 22, 23, 71, 72, 73, 74, 10, 11, 111, 112, 113, 114, 55, 56, 115, 116, 117, 118, 99, 100, 101, 102, 67, 68, 69, 70, 28, 29, 30, 31, 32, 34, 35, 36, 37, 38, 87, 88, 89, 90, 91, 92, 93, 94, 79, 80, 81, 82, 83, 84, 85, 86, 95, 96, 97, 98, 58, 59, 60, 61, 63, 64, 65, 66, 24, 25, 26, 27, 75, 76, 77, 78, 14, 15, 16, 17, 129, 130, 131, 132, 133, 134, 135, 136, 137, 138, 139, 140, 141, 142, 143, 144, 145, 146, 147, 148, 149, 150, 151, 152, 153, 154, 155, 156, 157, 158, 159, 160, 161, 162, 163, 164, 165, 166, 167, 168, 169, 170, 171, 172, 173, 174, 175, 176, 177, 178] rfl (by decide +kernel)
set_option maxRecDepth 20000 in
theorem gX6_sayShelf_X6_replayOf : GoodIn wsX6_sayShelf (wsV RX6 276 RX6 yX6_replayOf wsX6_replayOf) := goodIn_app (goodIn_of _ (by decide +kernel)) ggX6_sayShelf_X6_replayOf
theorem dX6_sayShelf_0 : decode cX6_sayShelf 0 = .ok (.iconst 0, 1) := by decide +kernel
theorem dX6_sayShelf_1 : decode cX6_sayShelf 1 = .ok (.istore_n 1, 1) := by decide +kernel
theorem dX6_sayShelf_2 : decode cX6_sayShelf 2 = .ok (.iload_n 1, 1) := by decide +kernel
theorem dX6_sayShelf_3 : decode cX6_sayShelf 3 = .ok (.bipush 7, 2) := by decide +kernel
theorem dX6_sayShelf_5 : decode cX6_sayShelf 5 = .ok (.if_icmp .ge 19, 3) := by decide +kernel
theorem dX6_sayShelf_8 : decode cX6_sayShelf 8 = .ok (.aload_n 0, 1) := by decide +kernel
theorem dX6_sayShelf_9 : decode cX6_sayShelf 9 = .ok (.aload_n 0, 1) := by decide +kernel
theorem dX6_sayShelf_10 : decode cX6_sayShelf 10 = .ok (.iload_n 1, 1) := by decide +kernel
theorem dX6_sayShelf_11 : decode cX6_sayShelf 11 = .ok (.invokevirtual 264, 3) := by decide +kernel
theorem dX6_sayShelf_14 : decode cX6_sayShelf 14 = .ok (.i2l, 1) := by decide +kernel
theorem dX6_sayShelf_15 : decode cX6_sayShelf 15 = .ok (.invokevirtual 354, 3) := by decide +kernel
theorem dX6_sayShelf_18 : decode cX6_sayShelf 18 = .ok (.iinc 1 1, 3) := by decide +kernel
theorem dX6_sayShelf_21 : decode cX6_sayShelf 21 = .ok (.goto (-19), 3) := by decide +kernel
theorem dX6_sayShelf_24 : decode cX6_sayShelf 24 = .ok (.aload_n 0, 1) := by decide +kernel
theorem dX6_sayShelf_25 : decode cX6_sayShelf 25 = .ok (.aload_n 0, 1) := by decide +kernel
theorem dX6_sayShelf_26 : decode cX6_sayShelf 26 = .ok (.getfield 28, 3) := by decide +kernel
theorem dX6_sayShelf_29 : decode cX6_sayShelf 29 = .ok (.iconst 0, 1) := by decide +kernel
theorem dX6_sayShelf_30 : decode cX6_sayShelf 30 = .ok (.iaload, 1) := by decide +kernel
theorem dX6_sayShelf_31 : decode cX6_sayShelf 31 = .ok (.bipush 40, 2) := by decide +kernel
theorem dX6_sayShelf_33 : decode cX6_sayShelf 33 = .ok (.if_icmp .ne 9, 3) := by decide +kernel
theorem dX6_sayShelf_36 : decode cX6_sayShelf 36 = .ok (.ldc2_w 358, 3) := by decide +kernel
theorem dX6_sayShelf_39 : decode cX6_sayShelf 39 = .ok (.goto 10, 3) := by decide +kernel
theorem dX6_sayShelf_42 : decode cX6_sayShelf 42 = .ok (.aload_n 0, 1) := by decide +kernel
theorem dX6_sayShelf_43 : decode cX6_sayShelf 43 = .ok (.bipush 50, 2) := by decide +kernel
theorem dX6_sayShelf_45 : decode cX6_sayShelf 45 = .ok (.invokevirtual 270, 3) := by decide +kernel
theorem dX6_sayShelf_48 : decode cX6_sayShelf 48 = .ok (.i2l, 1) := by decide +kernel
theorem dX6_sayShelf_49 : decode cX6_sayShelf 49 = .ok (.invokevirtual 354, 3) := by decide +kernel
theorem dX6_sayShelf_52 : decode cX6_sayShelf 52 = .ok (.aload_n 0, 1) := by decide +kernel
theorem dX6_sayShelf_53 : decode cX6_sayShelf 53 = .ok (.aload_n 0, 1) := by decide +kernel
theorem dX6_sayShelf_54 : decode cX6_sayShelf 54 = .ok (.invokevirtual 280, 3) := by decide +kernel
theorem dX6_sayShelf_57 : decode cX6_sayShelf 57 = .ok (.i2l, 1) := by decide +kernel
theorem dX6_sayShelf_58 : decode cX6_sayShelf 58 = .ok (.invokevirtual 354, 3) := by decide +kernel
theorem dX6_sayShelf_61 : decode cX6_sayShelf 61 = .ok (.aload_n 0, 1) := by decide +kernel
theorem dX6_sayShelf_62 : decode cX6_sayShelf 62 = .ok (.aload_n 0, 1) := by decide +kernel
theorem dX6_sayShelf_63 : decode cX6_sayShelf 63 = .ok (.iconst 2, 1) := by decide +kernel
theorem dX6_sayShelf_64 : decode cX6_sayShelf 64 = .ok (.iconst 3, 1) := by decide +kernel
theorem dX6_sayShelf_65 : decode cX6_sayShelf 65 = .ok (.iconst 0, 1) := by decide +kernel
theorem dX6_sayShelf_66 : decode cX6_sayShelf 66 = .ok (.invokevirtual 276, 3) := by decide +kernel
theorem dX6_sayShelf_69 : decode cX6_sayShelf 69 = .ok (.i2l, 1) := by decide +kernel
theorem dX6_sayShelf_70 : decode cX6_sayShelf 70 = .ok (.invokevirtual 354, 3) := by decide +kernel
theorem dX6_sayShelf_73 : decode cX6_sayShelf 73 = .ok (.aload_n 0, 1) := by decide +kernel
theorem dX6_sayShelf_74 : decode cX6_sayShelf 74 = .ok (.aload_n 0, 1) := by decide +kernel
theorem dX6_sayShelf_75 : decode cX6_sayShelf 75 = .ok (.iconst 2, 1) := by decide +kernel
theorem dX6_sayShelf_76 : decode cX6_sayShelf 76 = .ok (.iconst 3, 1) := by decide +kernel
theorem dX6_sayShelf_77 : decode cX6_sayShelf 77 = .ok (.iconst 1, 1) := by decide +kernel
theorem dX6_sayShelf_78 : decode cX6_sayShelf 78 = .ok (.invokevirtual 276, 3) := by decide +kernel
theorem dX6_sayShelf_81 : decode cX6_sayShelf 81 = .ok (.i2l, 1) := by decide +kernel
theorem dX6_sayShelf_82 : decode cX6_sayShelf 82 = .ok (.invokevirtual 354, 3) := by decide +kernel
theorem dX6_sayShelf_85 : decode cX6_sayShelf 85 = .ok (.return_, 1) := by decide +kernel
set_option maxRecDepth 20000 in
theorem ggX6_digest_X6_say : GoodIn wsX6_digest wsX6_say := goodIn_r _ [10, 11, 2, 171, 172, 173, 174, 175, 176, 177, 178, 179, 180, 181, 182, 183, 184, 185, 186, 187, 188, 189, 190, 191, 192, 193, 194, 195, 196, 197, 198, 199, 200, 201, 202, 203, 204, 205, 206, 207, 208, 209, 210, 211, 212, 213, 214, 215, 216, 217, 218, 219, 220] rfl (by decide +kernel)
set_option maxRecDepth 20000 in
theorem gX6_digest_X6_say : GoodIn wsX6_digest (wsV RX6 354 RX6 yX6_say wsX6_say) := goodIn_app (goodIn_of _ (by decide +kernel)) ggX6_digest_X6_say
set_option maxRecDepth 20000 in
theorem ggX6_digest_X6_tellEntry : GoodIn wsX6_digest wsX6_tellEntry := goodIn_r _ [15, 16, 17, 18, 19, 20, 21, 22, 23, 9, 24, 25, 26, 27, 28, 3, 29, 30, 31, 32, 33, 34, 35, 36, 171, 172, 173, 174, 175, 176, 177, 178, 179, 180, 181, 182, 183, 184, 185, 186, 187, 188, 189, 190, 191, 192, 193, 194, 195, 196, 197, 198, 199, 200, 201, 202, 203, 204, 205, 206, 207, 208, 209, 210, 211, 212, 213, 214, 215, 216, 217, 218, 219, 220] rfl (by decide +kernel)
set_option maxRecDepth 20000 in
theorem gX6_digest_X6_tellEntry : GoodIn wsX6_digest (wsV RX6 248 RX6 yX6_tellEntry wsX6_tellEntry) := goodIn_app (goodIn_of _ (by decide +kernel)) ggX6_digest_X6_tellEntry
set_option maxRecDepth 20000 in
theorem ggX6_digest_X6_lacks : GoodIn wsX6_digest wsX6_lacks := goodIn_r _ [40, 41, 171, 172, 173, 174, 175, 176, 177, 178, 179, 180, 181, 182, 183, 184, 185, 186, 187, 188, 189, 190, 191, 192, 193, 194, 195, 196, 197, 198, 199, 200, 201, 202, 203, 204, 205, 206, 207, 208, 209, 210, 211, 212, 213, 214, 215, 216, 217, 218, 219, 220] rfl (by decide +kernel)
set_option maxRecDepth 20000 in
theorem gX6_digest_X6_lacks : GoodIn wsX6_digest (wsV RX6 236 RX6 yX6_lacks wsX6_lacks) := goodIn_app (goodIn_of _ (by decide +kernel)) ggX6_digest_X6_lacks
set_option maxRecDepth 20000 in
theorem ggX6_digest_X6_sayShelf : GoodIn wsX6_digest wsX6_sayShelf := goodIn_r _ [45, 46, 47, 48, 49, 50, 9, 51, 52, 53, 54, 55, 56, 57, 58, 59, 60, 61, 3, 21, 22, 23, 24, 20, 62, 63, 64, 65, 66, 67, 68, 69, 41, 70, 71, 72, 73, 74, 75, 76, 6, 7, 8, 10, 11, 2, 77, 78, 79, 80, 81, 82, 83, 84, 85, 18, 19, 86, 87, 88, 89, 90, 91, 92, 93, 94, 95, 96, 97, 98, 99, 100, 101, 102, 103, 104, 105, 106, 107, 25, 26, 27, 28, 29, 30, 31, 32, 108, 109, 110, 111, 112, 113, 114, 115, 116, 117, 118, 119, 120, 121, 122, 123, 124, 125, 126, 127, 128, 129, 130, 131, 132, 133, 134, 135, 136, 137, 138, 139, 140, 141, 142, 143, 144, 145, 146, 147, 148, 149, 171, 172, 173, 174, 175, 176, 177, 178, 179, 180, 181, 182, 183, 184, 185, 186, 187, 188, 189, 190, 191, 192, 193, 194, 195, 196, 197, 198, 199, 200, 201, 202, 203, 204, 205, 206, 207, 208, 209, 210, 211, 212, 213, 214, 215, 216, 217, 218, 219, 220] rfl (by decide +kernel)
set_option maxRecDepth 20000 in
theorem gX6_digest_X6_sayShelf : GoodIn wsX6_digest (wsV RX6 362 RX6 yX6_sayShelf wsX6_sayShelf) := goodIn_app (goodIn_of _ (by decide +kernel)) ggX6_digest_X6_sayShelf
set_option maxRecDepth 20000 in
theorem ggX6_digest_X6_sortsOf : GoodIn wsX6_digest wsX6_sortsOf := goodIn_r _ [153, 154, 155, 156, 157, 9, 158, 171, 172, 173, 174, 175, 176, 177, 178, 179, 180, 181, 182, 183, 184, 185, 186, 187, 188, 189, 190, 191, 192, 193, 194, 195, 196, 197, 198, 199, 200, 201, 202, 203, 204, 205, 206, 207, 208, 209, 210, 211, 212, 213, 214, 215, 216, 217, 218, 219, 220] rfl (by decide +kernel)
set_option maxRecDepth 20000 in
theorem gX6_digest_X6_sortsOf : GoodIn wsX6_digest (wsV RX6 288 RX6 yX6_sortsOf wsX6_sortsOf) := goodIn_app (goodIn_of _ (by decide +kernel)) ggX6_digest_X6_sortsOf
set_option maxRecDepth 20000 in
theorem ggX6_digest_X6_askOf : GoodIn wsX6_digest wsX6_askOf := goodIn_r _ [162, 150, 151, 152, 9, 153, 154, 155, 156, 157, 158, 163, 164, 165, 171, 172, 173, 174, 175, 176, 177, 178, 179, 180, 181, 182, 183, 184, 185, 186, 187, 188, 189, 190, 191, 192, 193, 194, 195, 196, 197, 198, 199, 200, 201, 202, 203, 204, 205, 206, 207, 208, 209, 210, 211, 212, 213, 214, 215, 216, 217, 218, 219, 220] rfl (by decide +kernel)
set_option maxRecDepth 20000 in
theorem gX6_digest_X6_askOf : GoodIn wsX6_digest (wsV RX6 294 RX6 yX6_askOf wsX6_askOf) := goodIn_app (goodIn_of _ (by decide +kernel)) ggX6_digest_X6_askOf
set_option maxRecDepth 20000 in
theorem ggX6_digest_X6_countOf : GoodIn wsX6_digest wsX6_countOf := goodIn_r _ [169, 46, 75, 41, 91, 144, 154, 4, 170, 171, 172, 173, 174, 175, 176, 177, 178, 179, 180, 181, 182, 183, 184, 185, 186, 187, 188, 189, 190, 191, 192, 193, 194, 195, 196, 197, 198, 199, 200, 201, 202, 203, 204, 205, 206, 207, 208, 209, 210, 211, 212, 213, 214, 215, 216, 217, 218, 219, 220] rfl (by decide +kernel)
set_option maxRecDepth 20000 in
theorem gX6_digest_X6_countOf : GoodIn wsX6_digest (wsV RX6 345 RX6 yX6_countOf wsX6_countOf) := goodIn_app (goodIn_of _ (by decide +kernel)) ggX6_digest_X6_countOf
theorem dX6_digest_0 : decode cX6_digest 0 = .ok (.aload_n 0, 1) := by decide +kernel
theorem dX6_digest_1 : decode cX6_digest 1 = .ok (.ldc2_w 360, 3) := by decide +kernel
theorem dX6_digest_4 : decode cX6_digest 4 = .ok (.putfield 350, 3) := by decide +kernel
theorem dX6_digest_7 : decode cX6_digest 7 = .ok (.iconst 0, 1) := by decide +kernel
theorem dX6_digest_8 : decode cX6_digest 8 = .ok (.istore_n 1, 1) := by decide +kernel
theorem dX6_digest_9 : decode cX6_digest 9 = .ok (.iload_n 1, 1) := by decide +kernel
theorem dX6_digest_10 : decode cX6_digest 10 = .ok (.bipush 100, 2) := by decide +kernel
theorem dX6_digest_12 : decode cX6_digest 12 = .ok (.if_icmp .ge 50, 3) := by decide +kernel
theorem dX6_digest_15 : decode cX6_digest 15 = .ok (.aload_n 0, 1) := by decide +kernel
theorem dX6_digest_16 : decode cX6_digest 16 = .ok (.getfield 22, 3) := by decide +kernel
theorem dX6_digest_19 : decode cX6_digest 19 = .ok (.iload_n 1, 1) := by decide +kernel
theorem dX6_digest_20 : decode cX6_digest 20 = .ok (.iaload, 1) := by decide +kernel
theorem dX6_digest_21 : decode cX6_digest 21 = .ok (.iconst 1, 1) := by decide +kernel
theorem dX6_digest_22 : decode cX6_digest 22 = .ok (.if_icmp .ne 34, 3) := by decide +kernel
theorem dX6_digest_25 : decode cX6_digest 25 = .ok (.aload_n 0, 1) := by decide +kernel
theorem dX6_digest_26 : decode cX6_digest 26 = .ok (.iload_n 1, 1) := by decide +kernel
theorem dX6_digest_27 : decode cX6_digest 27 = .ok (.i2l, 1) := by decide +kernel
theorem dX6_digest_28 : decode cX6_digest 28 = .ok (.invokevirtual 354, 3) := by decide +kernel
theorem dX6_digest_31 : decode cX6_digest 31 = .ok (.iconst 0, 1) := by decide +kernel
theorem dX6_digest_32 : decode cX6_digest 32 = .ok (.istore_n 2, 1) := by decide +kernel
theorem dX6_digest_33 : decode cX6_digest 33 = .ok (.iload_n 2, 1) := by decide +kernel
theorem dX6_digest_34 : decode cX6_digest 34 = .ok (.bipush 7, 2) := by decide +kernel
theorem dX6_digest_36 : decode cX6_digest 36 = .ok (.if_icmp .ge 20, 3) := by decide +kernel
theorem dX6_digest_39 : decode cX6_digest 39 = .ok (.aload_n 0, 1) := by decide +kernel
theorem dX6_digest_40 : decode cX6_digest 40 = .ok (.aload_n 0, 1) := by decide +kernel
theorem dX6_digest_41 : decode cX6_digest 41 = .ok (.iload_n 1, 1) := by decide +kernel
theorem dX6_digest_42 : decode cX6_digest 42 = .ok (.iload_n 2, 1) := by decide +kernel
theorem dX6_digest_43 : decode cX6_digest 43 = .ok (.invokevirtual 248, 3) := by decide +kernel
theorem dX6_digest_46 : decode cX6_digest 46 = .ok (.i2l, 1) := by decide +kernel
theorem dX6_digest_47 : decode cX6_digest 47 = .ok (.invokevirtual 354, 3) := by decide +kernel
theorem dX6_digest_50 : decode cX6_digest 50 = .ok (.iinc 2 1, 3) := by decide +kernel
theorem dX6_digest_53 : decode cX6_digest 53 = .ok (.goto (-20), 3) := by decide +kernel
theorem dX6_digest_56 : decode cX6_digest 56 = .ok (.iinc 1 1, 3) := by decide +kernel
theorem dX6_digest_59 : decode cX6_digest 59 = .ok (.goto (-50), 3) := by decide +kernel
theorem dX6_digest_62 : decode cX6_digest 62 = .ok (.aload_n 0, 1) := by decide +kernel
theorem dX6_digest_63 : decode cX6_digest 63 = .ok (.invokevirtual 236, 3) := by decide +kernel
theorem dX6_digest_66 : decode cX6_digest 66 = .ok (.ifCond .ne 7, 3) := by decide +kernel
theorem dX6_digest_69 : decode cX6_digest 69 = .ok (.aload_n 0, 1) := by decide +kernel
theorem dX6_digest_70 : decode cX6_digest 70 = .ok (.invokevirtual 362, 3) := by decide +kernel
theorem dX6_digest_73 : decode cX6_digest 73 = .ok (.aload_n 0, 1) := by decide +kernel
theorem dX6_digest_74 : decode cX6_digest 74 = .ok (.aload_n 0, 1) := by decide +kernel
theorem dX6_digest_75 : decode cX6_digest 75 = .ok (.bipush 7, 2) := by decide +kernel
theorem dX6_digest_77 : decode cX6_digest 77 = .ok (.invokevirtual 288, 3) := by decide +kernel
theorem dX6_digest_80 : decode cX6_digest 80 = .ok (.i2l, 1) := by decide +kernel
theorem dX6_digest_81 : decode cX6_digest 81 = .ok (.invokevirtual 354, 3) := by decide +kernel
theorem dX6_digest_84 : decode cX6_digest 84 = .ok (.aload_n 0, 1) := by decide +kernel
theorem dX6_digest_85 : decode cX6_digest 85 = .ok (.aload_n 0, 1) := by decide +kernel
theorem dX6_digest_86 : decode cX6_digest 86 = .ok (.bipush 7, 2) := by decide +kernel
theorem dX6_digest_88 : decode cX6_digest 88 = .ok (.invokevirtual 294, 3) := by decide +kernel
theorem dX6_digest_91 : decode cX6_digest 91 = .ok (.i2l, 1) := by decide +kernel
theorem dX6_digest_92 : decode cX6_digest 92 = .ok (.invokevirtual 354, 3) := by decide +kernel
theorem dX6_digest_95 : decode cX6_digest 95 = .ok (.iconst 0, 1) := by decide +kernel
theorem dX6_digest_96 : decode cX6_digest 96 = .ok (.istore_n 1, 1) := by decide +kernel
theorem dX6_digest_97 : decode cX6_digest 97 = .ok (.iload_n 1, 1) := by decide +kernel
theorem dX6_digest_98 : decode cX6_digest 98 = .ok (.aload_n 0, 1) := by decide +kernel
theorem dX6_digest_99 : decode cX6_digest 99 = .ok (.getfield 98, 3) := by decide +kernel
theorem dX6_digest_102 : decode cX6_digest 102 = .ok (.if_icmp .ge 20, 3) := by decide +kernel
theorem dX6_digest_105 : decode cX6_digest 105 = .ok (.aload_n 0, 1) := by decide +kernel
theorem dX6_digest_106 : decode cX6_digest 106 = .ok (.aload_n 0, 1) := by decide +kernel
theorem dX6_digest_107 : decode cX6_digest 107 = .ok (.getfield 7, 3) := by decide +kernel
theorem dX6_digest_110 : decode cX6_digest 110 = .ok (.iload_n 1, 1) := by decide +kernel
theorem dX6_digest_111 : decode cX6_digest 111 = .ok (.iaload, 1) := by decide +kernel
theorem dX6_digest_112 : decode cX6_digest 112 = .ok (.i2l, 1) := by decide +kernel
theorem dX6_digest_113 : decode cX6_digest 113 = .ok (.invokevirtual 354, 3) := by decide +kernel
theorem dX6_digest_116 : decode cX6_digest 116 = .ok (.iinc 1 1, 3) := by decide +kernel
theorem dX6_digest_119 : decode cX6_digest 119 = .ok (.goto (-22), 3) := by decide +kernel
theorem dX6_digest_122 : decode cX6_digest 122 = .ok (.iconst 0, 1) := by decide +kernel
theorem dX6_digest_123 : decode cX6_digest 123 = .ok (.istore_n 1, 1) := by decide +kernel
theorem dX6_digest_124 : decode cX6_digest 124 = .ok (.iload_n 1, 1) := by decide +kernel
theorem dX6_digest_125 : decode cX6_digest 125 = .ok (.bipush 8, 2) := by decide +kernel
theorem dX6_digest_127 : decode cX6_digest 127 = .ok (.if_icmp .ge 19, 3) := by decide +kernel
theorem dX6_digest_130 : decode cX6_digest 130 = .ok (.aload_n 0, 1) := by decide +kernel
theorem dX6_digest_131 : decode cX6_digest 131 = .ok (.aload_n 0, 1) := by decide +kernel
theorem dX6_digest_132 : decode cX6_digest 132 = .ok (.iload_n 1, 1) := by decide +kernel
theorem dX6_digest_133 : decode cX6_digest 133 = .ok (.invokevirtual 345, 3) := by decide +kernel
theorem dX6_digest_136 : decode cX6_digest 136 = .ok (.i2l, 1) := by decide +kernel
theorem dX6_digest_137 : decode cX6_digest 137 = .ok (.invokevirtual 354, 3) := by decide +kernel
theorem dX6_digest_140 : decode cX6_digest 140 = .ok (.iinc 1 1, 3) := by decide +kernel
theorem dX6_digest_143 : decode cX6_digest 143 = .ok (.goto (-19), 3) := by decide +kernel
theorem dX6_digest_146 : decode cX6_digest 146 = .ok (.aload_n 0, 1) := by decide +kernel
theorem dX6_digest_147 : decode cX6_digest 147 = .ok (.getfield 350, 3) := by decide +kernel
theorem dX6_digest_150 : decode cX6_digest 150 = .ok (.lreturn, 1) := by decide +kernel
