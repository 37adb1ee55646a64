theorem dX5_take_27 : decode cX5_take 27 = .ok (.invokestatic 124, 3) := by decide +kernel
theorem dX5_take_30 : decode cX5_take 30 = .ok (.ifCond .ne 6, 3) := by decide +kernel
theorem dX5_take_33 : decode cX5_take 33 = .ok (.bipush (-103), 2) := by decide +kernel
theorem dX5_take_35 : decode cX5_take 35 = .ok (.ireturn, 1) := by decide +kernel
theorem dX5_take_36 : decode cX5_take 36 = .ok (.aload_n 0, 1) := by decide +kernel
theorem dX5_take_37 : decode cX5_take 37 = .ok (.getfield 19, 3) := by decide +kernel
theorem dX5_take_40 : decode cX5_take 40 = .ok (.getfield 96, 3) := by decide +kernel
theorem dX5_take_43 : decode cX5_take 43 = .ok (.iload_n 1, 1) := by decide +kernel
theorem dX5_take_44 : decode cX5_take 44 = .ok (.iaload, 1) := by decide +kernel
theorem dX5_take_45 : decode cX5_take 45 = .ok (.istore_n 2, 1) := by decide +kernel
theorem dX5_take_46 : decode cX5_take 46 = .ok (.aload_n 0, 1) := by decide +kernel
theorem dX5_take_47 : decode cX5_take 47 = .ok (.getfield 19, 3) := by decide +kernel
theorem dX5_take_50 : decode cX5_take 50 = .ok (.iload_n 1, 1) := by decide +kernel
theorem dX5_take_51 : decode cX5_take 51 = .ok (.invokevirtual 130, 3) := by decide +kernel
theorem dX5_take_54 : decode cX5_take 54 = .ok (.iload_n 2, 1) := by decide +kernel
theorem dX5_take_55 : decode cX5_take 55 = .ok (.ireturn, 1) := by decide +kernel
set_option maxRecDepth 20000 in
theorem ggX5_tell_X4_has : GoodIn wsX5_tell wsX4_has := goodIn_r _ [13, 14, 112, 113, 114, 115, 116, 117, 118, 119, 120, 121, 122, 123] (by decide +kernel) (by decide +kernel)
set_option maxRecDepth 20000 in
theorem gX5_tell_X4_has : GoodIn wsX5_tell (wsV RX5 89 RX4 yX4_has wsX4_has) := goodIn_app (goodIn_of _ (by decide +kernel)) ggX5_tell_X4_has
set_option maxRecDepth 20000 in
theorem ggX5_tell_X3_remove : GoodIn wsX5_tell wsX3_remove := goodIn_r _ [19, 20, 21, 22, 23, 24, 25, 26, 27, 28, 29, 30, 31, 32, 33, 12, 34, 35, 36, 37, 38, 39, 10, 11, 13, 14, 40, 41, 42, 43, 44, 45, 46, 47, 48, 49, 50, 51, 52, 53, 54, 55, 56, 57, 58, 59, 60, 61, 62, 63, 64, 65, 66, 67, 68, 69, 70, 71, 72, 73, 74, 75, 76, 77, 78, 79, 80, 81, 82, 83, 84, 85, 86, 87, 88, 89, 90, 91, 92, 93, 18, 94, 95, 96, 6, 7, 8, 104, 105, 106, 107, 108, 109, 110, 111, 124, 125, 112, 113, 114, 115, 116, 117, 118, 119, 120, 121, 122, 123] (by decide +kernel) (by decide +kernel)
set_option maxRecDepth 20000 in
theorem gX5_tell_X3_remove : GoodIn wsX5_tell (wsV RX5 130 RX3 yX3_remove wsX3_remove) := goodIn_app (goodIn_of _ (by decide +kernel)) ggX5_tell_X3_remove
theorem dX5_tell_0 : decode cX5_tell 0 = .ok (.aload_n 0, 1) := by decide +kernel
theorem dX5_tell_1 : decode cX5_tell 1 = .ok (.getfield 19, 3) := by decide +kernel
theorem dX5_tell_4 : decode cX5_tell 4 = .ok (.getfield 83, 3) := by decide +kernel
theorem dX5_tell_7 : decode cX5_tell 7 = .ok (.iload_n 1, 1) := by decide +kernel
theorem dX5_tell_8 : decode cX5_tell 8 = .ok (.invokevirtual 89, 3) := by decide +kernel
theorem dX5_tell_11 : decode cX5_tell 11 = .ok (.ifCond .ne 6, 3) := by decide +kernel
theorem dX5_tell_14 : decode cX5_tell 14 = .ok (.bipush (-101), 2) := by decide +kernel
theorem dX5_tell_16 : decode cX5_tell 16 = .ok (.ireturn, 1) := by decide +kernel
theorem dX5_tell_17 : decode cX5_tell 17 = .ok (.aload_n 0, 1) := by decide +kernel
theorem dX5_tell_18 : decode cX5_tell 18 = .ok (.getfield 19, 3) := by decide +kernel
theorem dX5_tell_21 : decode cX5_tell 21 = .ok (.getfield 96, 3) := by decide +kernel
theorem dX5_tell_24 : decode cX5_tell 24 = .ok (.iload_n 1, 1) := by decide +kernel
theorem dX5_tell_25 : decode cX5_tell 25 = .ok (.iaload, 1) := by decide +kernel
theorem dX5_tell_26 : decode cX5_tell 26 = .ok (.istore_n 2, 1) := by decide +kernel
theorem dX5_tell_27 : decode cX5_tell 27 = .ok (.aload_n 0, 1) := by decide +kernel
theorem dX5_tell_28 : decode cX5_tell 28 = .ok (.getfield 19, 3) := by decide +kernel
theorem dX5_tell_31 : decode cX5_tell 31 = .ok (.getfield 92, 3) := by decide +kernel
theorem dX5_tell_34 : decode cX5_tell 34 = .ok (.iload_n 1, 1) := by decide +kernel
theorem dX5_tell_35 : decode cX5_tell 35 = .ok (.iaload, 1) := by decide +kernel
theorem dX5_tell_36 : decode cX5_tell 36 = .ok (.iconst 2, 1) := by decide +kernel
theorem dX5_tell_37 : decode cX5_tell 37 = .ok (.if_icmp .ne 24, 3) := by decide +kernel
theorem dX5_tell_40 : decode cX5_tell 40 = .ok (.aload_n 0, 1) := by decide +kernel
theorem dX5_tell_41 : decode cX5_tell 41 = .ok (.getfield 19, 3) := by decide +kernel
theorem dX5_tell_44 : decode cX5_tell 44 = .ok (.getfield 96, 3) := by decide +kernel
theorem dX5_tell_47 : decode cX5_tell 47 = .ok (.iload_n 1, 1) := by decide +kernel
theorem dX5_tell_48 : decode cX5_tell 48 = .ok (.iload_n 2, 1) := by decide +kernel
theorem dX5_tell_49 : decode cX5_tell 49 = .ok (.iconst 1, 1) := by decide +kernel
theorem dX5_tell_50 : decode cX5_tell 50 = .ok (.iadd, 1) := by decide +kernel
theorem dX5_tell_51 : decode cX5_tell 51 = .ok (.sipush 999, 3) := by decide +kernel
theorem dX5_tell_54 : decode cX5_tell 54 = .ok (.invokestatic 134, 3) := by decide +kernel
theorem dX5_tell_57 : decode cX5_tell 57 = .ok (.iastore, 1) := by decide +kernel
theorem dX5_tell_58 : decode cX5_tell 58 = .ok (.goto 24, 3) := by decide +kernel
theorem dX5_tell_61 : decode cX5_tell 61 = .ok (.aload_n 0, 1) := by decide +kernel
theorem dX5_tell_62 : decode cX5_tell 62 = .ok (.getfield 19, 3) := by decide +kernel
theorem dX5_tell_65 : decode cX5_tell 65 = .ok (.getfield 92, 3) := by decide +kernel
theorem dX5_tell_68 : decode cX5_tell 68 = .ok (.iload_n 1, 1) := by decide +kernel
theorem dX5_tell_69 : decode cX5_tell 69 = .ok (.iaload, 1) := by decide +kernel
theorem dX5_tell_70 : decode cX5_tell 70 = .ok (.iconst 3, 1) := by decide +kernel
theorem dX5_tell_71 : decode cX5_tell 71 = .ok (.if_icmp .ne 11, 3) := by decide +kernel
theorem dX5_tell_74 : decode cX5_tell 74 = .ok (.aload_n 0, 1) := by decide +kernel
theorem dX5_tell_75 : decode cX5_tell 75 = .ok (.getfield 19, 3) := by decide +kernel
theorem dX5_tell_78 : decode cX5_tell 78 = .ok (.iload_n 1, 1) := by decide +kernel
theorem dX5_tell_79 : decode cX5_tell 79 = .ok (.invokevirtual 130, 3) := by decide +kernel
theorem dX5_tell_82 : decode cX5_tell 82 = .ok (.iload_n 2, 1) := by decide +kernel
theorem dX5_tell_83 : decode cX5_tell 83 = .ok (.ireturn, 1) := by decide +kernel
set_option maxRecDepth 20000 in
theorem ggX5_flatten_X4_buildAll : GoodIn wsX5_flatten wsX4_buildAll := goodIn_r _ [9, 10, 11, 12, 13, 14, 8, 15, 16, 17, 18, 19, 20, 21, 22, 23, 24, 25, 26, 27, 28, 29, 30, 31, 32, 33, 34, 35, 36, 63, 64, 65, 66, 67, 68, 69, 70, 71, 72, 73, 74] (by decide +kernel) (by decide +kernel)
set_option maxRecDepth 20000 in
theorem gX5_flatten_X4_buildAll : GoodIn wsX5_flatten (wsV RX5 140 RX4 yX4_buildAll wsX4_buildAll) := goodIn_app (goodIn_of _ (by decide +kernel)) ggX5_flatten_X4_buildAll
set_option maxRecDepth 20000 in
theorem ggX5_flatten_X3_settle : GoodIn wsX5_flatten wsX3_settle := goodIn_r _ [41, 42, 43, 44, 45, 46, 47, 55, 56, 57, 58, 59, 60, 61, 62] (by decide +kernel) (by decide +kernel)
set_option maxRecDepth 20000 in
theorem gX5_flatten_X3_settle : GoodIn wsX5_flatten (wsV RX5 143 RX3 yX3_settle wsX3_settle) := goodIn_app (goodIn_of _ (by decide +kernel)) ggX5_flatten_X3_settle
theorem dX5_flatten_0 : decode cX5_flatten 0 = .ok (.aload_n 0, 1) := by decide +kernel
theorem dX5_flatten_1 : decode cX5_flatten 1 = .ok (.getfield 73, 3) := by decide +kernel
theorem dX5_flatten_4 : decode cX5_flatten 4 = .ok (.ifCond .ne 6, 3) := by decide +kernel
theorem dX5_flatten_7 : decode cX5_flatten 7 = .ok (.bipush (-103), 2) := by decide +kernel
theorem dX5_flatten_9 : decode cX5_flatten 9 = .ok (.ireturn, 1) := by decide +kernel
theorem dX5_flatten_10 : decode cX5_flatten 10 = .ok (.aload_n 0, 1) := by decide +kernel
theorem dX5_flatten_11 : decode cX5_flatten 11 = .ok (.getfield 19, 3) := by decide +kernel
theorem dX5_flatten_14 : decode cX5_flatten 14 = .ok (.aload_n 0, 1) := by decide +kernel
theorem dX5_flatten_15 : decode cX5_flatten 15 = .ok (.getfield 19, 3) := by decide +kernel
theorem dX5_flatten_18 : decode cX5_flatten 18 = .ok (.getfield 83, 3) := by decide +kernel
theorem dX5_flatten_21 : decode cX5_flatten 21 = .ok (.invokevirtual 140, 3) := by decide +kernel
theorem dX5_flatten_24 : decode cX5_flatten 24 = .ok (.invokevirtual 143, 3) := by decide +kernel
theorem dX5_flatten_27 : decode cX5_flatten 27 = .ok (.aload_n 0, 1) := by decide +kernel
theorem dX5_flatten_28 : decode cX5_flatten 28 = .ok (.getfield 19, 3) := by decide +kernel
theorem dX5_flatten_31 : decode cX5_flatten 31 = .ok (.getfield 83, 3) := by decide +kernel
theorem dX5_flatten_34 : decode cX5_flatten 34 = .ok (.getfield 86, 3) := by decide +kernel
theorem dX5_flatten_37 : decode cX5_flatten 37 = .ok (.ireturn, 1) := by decide +kernel
set_option maxRecDepth 20000 in
theorem ggX5_ledger_X4_tall : GoodIn wsX5_ledger wsX4_tall := goodIn_r _ [15, 16, 17, 18, 19, 20, 21, 22, 14, 23, 24, 25, 26, 27, 28, 29, 30, 31, 32, 54, 55, 56, 57, 58, 59, 60, 61, 62, 63, 64, 65] (by decide +kernel) (by decide +kernel)
set_option maxRecDepth 20000 in
theorem gX5_ledger_X4_tall : GoodIn wsX5_ledger (wsV RX5 146 RX4 yX4_tall wsX4_tall) := goodIn_app (goodIn_of _ (by decide +kernel)) ggX5_ledger_X4_tall
set_option maxRecDepth 20000 in
theorem ggX5_ledger_X4_limit : GoodIn wsX5_ledger wsX4_limit := goodIn_r _ [36, 37, 38, 54, 55, 56, 57, 58, 59, 60, 61, 62, 63, 64, 65] (by decide +kernel) (by decide +kernel)
set_option maxRecDepth 20000 in
theorem gX5_ledger_X4_limit : GoodIn wsX5_ledger (wsV RX5 149 RX4 yX4_limit wsX4_limit) := goodIn_app (goodIn_of _ (by decide +kernel)) ggX5_ledger_X4_limit
theorem dX5_ledger_0 : decode cX5_ledger 0 = .ok (.iload_n 1, 1) := by decide +kernel
theorem dX5_ledger_1 : decode cX5_ledger 1 = .ok (.ifCond .lt 9, 3) := by decide +kernel
theorem dX5_ledger_4 : decode cX5_ledger 4 = .ok (.iload_n 1, 1) := by decide +kernel
theorem dX5_ledger_5 : decode cX5_ledger 5 = .ok (.bipush 6, 2) := by decide +kernel
theorem dX5_ledger_7 : decode cX5_ledger 7 = .ok (.if_icmp .le 6, 3) := by decide +kernel
theorem dX5_ledger_10 : decode cX5_ledger 10 = .ok (.bipush (-102), 2) := by decide +kernel
theorem dX5_ledger_12 : decode cX5_ledger 12 = .ok (.ireturn, 1) := by decide +kernel
theorem dX5_ledger_13 : decode cX5_ledger 13 = .ok (.aload_n 0, 1) := by decide +kernel
theorem dX5_ledger_14 : decode cX5_ledger 14 = .ok (.getfield 73, 3) := by decide +kernel
theorem dX5_ledger_17 : decode cX5_ledger 17 = .ok (.ifCond .ne 6, 3) := by decide +kernel
theorem dX5_ledger_20 : decode cX5_ledger 20 = .ok (.bipush (-103), 2) := by decide +kernel
theorem dX5_ledger_22 : decode cX5_ledger 22 = .ok (.ireturn, 1) := by decide +kernel
theorem dX5_ledger_23 : decode cX5_ledger 23 = .ok (.iload_n 1, 1) := by decide +kernel
theorem dX5_ledger_24 : decode cX5_ledger 24 = .ok (.tableswitch 116 0 5 #[40, 51, 72, 83, 94, 105], 40) := by decide +kernel
theorem dX5_ledger_64 : decode cX5_ledger 64 = .ok (.aload_n 0, 1) := by decide +kernel
theorem dX5_ledger_65 : decode cX5_ledger 65 = .ok (.getfield 19, 3) := by decide +kernel
theorem dX5_ledger_68 : decode cX5_ledger 68 = .ok (.getfield 83, 3) := by decide +kernel
theorem dX5_ledger_71 : decode cX5_ledger 71 = .ok (.invokevirtual 146, 3) := by decide +kernel
theorem dX5_ledger_74 : decode cX5_ledger 74 = .ok (.ireturn, 1) := by decide +kernel
theorem dX5_ledger_75 : decode cX5_ledger 75 = .ok (.aload_n 0, 1) := by decide +kernel
theorem dX5_ledger_76 : decode cX5_ledger 76 = .ok (.getfield 19, 3) := by decide +kernel
theorem dX5_ledger_79 : decode cX5_ledger 79 = .ok (.getfield 83, 3) := by decide +kernel
theorem dX5_ledger_82 : decode cX5_ledger 82 = .ok (.aload_n 0, 1) := by decide +kernel
theorem dX5_ledger_83 : decode cX5_ledger 83 = .ok (.getfield 19, 3) := by decide +kernel
theorem dX5_ledger_86 : decode cX5_ledger 86 = .ok (.getfield 83, 3) := by decide +kernel
theorem dX5_ledger_89 : decode cX5_ledger 89 = .ok (.getfield 86, 3) := by decide +kernel
theorem dX5_ledger_92 : decode cX5_ledger 92 = .ok (.invokevirtual 149, 3) := by decide +kernel
theorem dX5_ledger_95 : decode cX5_ledger 95 = .ok (.ireturn, 1) := by decide +kernel
theorem dX5_ledger_96 : decode cX5_ledger 96 = .ok (.aload_n 0, 1) := by decide +kernel
theorem dX5_ledger_97 : decode cX5_ledger 97 = .ok (.getfield 19, 3) := by decide +kernel
theorem dX5_ledger_100 : decode cX5_ledger 100 = .ok (.getfield 83, 3) := by decide +kernel
theorem dX5_ledger_103 : decode cX5_ledger 103 = .ok (.getfield 152, 3) := by decide +kernel
theorem dX5_ledger_106 : decode cX5_ledger 106 = .ok (.ireturn, 1) := by decide +kernel
theorem dX5_ledger_107 : decode cX5_ledger 107 = .ok (.aload_n 0, 1) := by decide +kernel
theorem dX5_ledger_108 : decode cX5_ledger 108 = .ok (.getfield 19, 3) := by decide +kernel
theorem dX5_ledger_111 : decode cX5_ledger 111 = .ok (.getfield 155, 3) := by decide +kernel
theorem dX5_ledger_114 : decode cX5_ledger 114 = .ok (.ldc 158, 2) := by decide +kernel
theorem dX5_ledger_116 : decode cX5_ledger 116 = .ok (.iadd, 1) := by decide +kernel
theorem dX5_ledger_117 : decode cX5_ledger 117 = .ok (.ireturn, 1) := by decide +kernel
theorem dX5_ledger_118 : decode cX5_ledger 118 = .ok (.aload_n 0, 1) := by decide +kernel
theorem dX5_ledger_119 : decode cX5_ledger 119 = .ok (.getfield 19, 3) := by decide +kernel
theorem dX5_ledger_122 : decode cX5_ledger 122 = .ok (.getfield 159, 3) := by decide +kernel
theorem dX5_ledger_125 : decode cX5_ledger 125 = .ok (.ldc 158, 2) := by decide +kernel
theorem dX5_ledger_127 : decode cX5_ledger 127 = .ok (.iadd, 1) := by decide +kernel
theorem dX5_ledger_128 : decode cX5_ledger 128 = .ok (.ireturn, 1) := by decide +kernel
theorem dX5_ledger_129 : decode cX5_ledger 129 = .ok (.aload_n 0, 1) := by decide +kernel
theorem dX5_ledger_130 : decode cX5_ledger 130 = .ok (.getfield 19, 3) := by decide +kernel
theorem dX5_ledger_133 : decode cX5_ledger 133 = .ok (.getfield 83, 3) := by decide +kernel
theorem dX5_ledger_136 : decode cX5_ledger 136 = .ok (.getfield 162, 3) := by decide +kernel
theorem dX5_ledger_139 : decode cX5_ledger 139 = .ok (.ireturn, 1) := by decide +kernel
theorem dX5_ledger_140 : decode cX5_ledger 140 = .ok (.aload_n 0, 1) := by decide +kernel
theorem dX5_ledger_141 : decode cX5_ledger 141 = .ok (.getfield 19, 3) := by decide +kernel
theorem dX5_ledger_144 : decode cX5_ledger 144 = .ok (.getfield 83, 3) := by decide +kernel
theorem dX5_ledger_147 : decode cX5_ledger 147 = .ok (.getfield 165, 3) := by decide +kernel
theorem dX5_ledger_150 : decode cX5_ledger 150 = .ok (.ireturn, 1) := by decide +kernel
set_option maxRecDepth 20000 in
theorem ggX5_would_X5_isNoKey : GoodIn wsX5_would wsX5_isNoKey := goodIn_r _ [7] (by decide +kernel) (by decide +kernel)
set_option maxRecDepth 20000 in
theorem gX5_would_X5_isNoKey : GoodIn wsX5_would (va_wsS RX5 121 yX5_isNoKey wsX5_isNoKey) := goodIn_app (goodIn_of _ (by decide +kernel)) ggX5_would_X5_isNoKey
set_option maxRecDepth 20000 in
theorem ggX5_would_X4_isFull : GoodIn wsX5_would wsX4_isFull := goodIn_r _ [12, 13, 64, 65, 66, 67, 68, 69, 70, 71, 72, 73, 74, 75] (by decide +kernel) (by decide +kernel)
set_option maxRecDepth 20000 in
theorem gX5_would_X4_isFull : GoodIn wsX5_would (wsV RX5 127 RX4 yX4_isFull wsX4_isFull) := goodIn_app (goodIn_of _ (by decide +kernel)) ggX5_would_X4_isFull
set_option maxRecDepth 20000 in
theorem ggX5_would_X4_has : GoodIn wsX5_would wsX4_has := goodIn_r _ [17, 18, 64, 65, 66, 67, 68, 69, 70, 71, 72, 73, 74, 75] (by decide +kernel) (by decide +kernel)
set_option maxRecDepth 20000 in
theorem gX5_would_X4_has : GoodIn wsX5_would (wsV RX5 89 RX4 yX4_has wsX4_has) := goodIn_app (goodIn_of _ (by decide +kernel)) ggX5_would_X4_has
set_option maxRecDepth 20000 in
theorem ggX5_would_X4_wouldBuild : GoodIn wsX5_would wsX4_wouldBuild := goodIn_r _ [22, 18, 23, 24, 25, 26, 11, 27, 28, 29, 30, 31, 15, 16, 17, 32, 33, 34, 35, 13, 36, 37, 38, 39, 40, 41, 42, 43, 44, 45, 46, 47, 48, 64, 65, 66, 67, 68, 69, 70, 71, 72, 73, 74, 75] (by decide +kernel) (by decide +kernel)
set_option maxRecDepth 20000 in
theorem gX5_would_X4_wouldBuild : GoodIn wsX5_would (wsV RX5 168 RX4 yX4_wouldBuild wsX4_wouldBuild) := goodIn_app (goodIn_of _ (by decide +kernel)) ggX5_would_X4_wouldBuild
theorem dX5_would_0 : decode cX5_would 0 = .ok (.iload_n 1, 1) := by decide +kernel
theorem dX5_would_1 : decode cX5_would 1 = .ok (.invokestatic 121, 3) := by decide +kernel
theorem dX5_would_4 : decode cX5_would 4 = .ok (.ifCond .eq 6, 3) := by decide +kernel
theorem dX5_would_7 : decode cX5_would 7 = .ok (.bipush (-102), 2) := by decide +kernel
theorem dX5_would_9 : decode cX5_would 9 = .ok (.ireturn, 1) := by decide +kernel
theorem dX5_would_10 : decode cX5_would 10 = .ok (.aload_n 0, 1) := by decide +kernel
theorem dX5_would_11 : decode cX5_would 11 = .ok (.getfield 73, 3) := by decide +kernel
theorem dX5_would_14 : decode cX5_would 14 = .ok (.ifCond .eq 16, 3) := by decide +kernel
theorem dX5_would_17 : decode cX5_would 17 = .ok (.aload_n 0, 1) := by decide +kernel
theorem dX5_would_18 : decode cX5_would 18 = .ok (.getfield 19, 3) := by decide +kernel
theorem dX5_would_21 : decode cX5_would 21 = .ok (.getfield 83, 3) := by decide +kernel
theorem dX5_would_24 : decode cX5_would 24 = .ok (.invokevirtual 127, 3) := by decide +kernel
theorem dX5_would_27 : decode cX5_would 27 = .ok (.ifCond .eq 6, 3) := by decide +kernel
theorem dX5_would_30 : decode cX5_would 30 = .ok (.bipush (-103), 2) := by decide +kernel
theorem dX5_would_32 : decode cX5_would 32 = .ok (.ireturn, 1) := by decide +kernel
theorem dX5_would_33 : decode cX5_would 33 = .ok (.aload_n 0, 1) := by decide +kernel
theorem dX5_would_34 : decode cX5_would 34 = .ok (.getfield 19, 3) := by decide +kernel
theorem dX5_would_37 : decode cX5_would 37 = .ok (.getfield 83, 3) := by decide +kernel
theorem dX5_would_40 : decode cX5_would 40 = .ok (.iload_n 1, 1) := by decide +kernel
theorem dX5_would_41 : decode cX5_would 41 = .ok (.invokevirtual 89, 3) := by decide +kernel
theorem dX5_would_44 : decode cX5_would 44 = .ok (.ifCond .eq 7, 3) := by decide +kernel
theorem dX5_would_47 : decode cX5_would 47 = .ok (.iconst (-1), 1) := by decide +kernel
theorem dX5_would_48 : decode cX5_would 48 = .ok (.goto 14, 3) := by decide +kernel
theorem dX5_would_51 : decode cX5_would 51 = .ok (.aload_n 0, 1) := by decide +kernel
theorem dX5_would_52 : decode cX5_would 52 = .ok (.getfield 19, 3) := by decide +kernel
theorem dX5_would_55 : decode cX5_would 55 = .ok (.getfield 83, 3) := by decide +kernel
theorem dX5_would_58 : decode cX5_would 58 = .ok (.iload_n 1, 1) := by decide +kernel
theorem dX5_would_59 : decode cX5_would 59 = .ok (.invokevirtual 168, 3) := by decide +kernel
theorem dX5_would_62 : decode cX5_would 62 = .ok (.ireturn, 1) := by decide +kernel
set_option maxRecDepth 20000 in
theorem ggX5_dear_X4_isFull : GoodIn wsX5_dear wsX4_isFull := goodIn_r _ [8, 9, 60, 61, 62, 63, 64, 65, 66, 67, 68, 69, 70, 71] (by decide +kernel) (by decide +kernel)
set_option maxRecDepth 20000 in
theorem gX5_dear_X4_isFull : GoodIn wsX5_dear (wsV RX5 127 RX4 yX4_isFull wsX4_isFull) := goodIn_app (goodIn_of _ (by decide +kernel)) ggX5_dear_X4_isFull
set_option maxRecDepth 20000 in
theorem ggX5_dear_X4_has : GoodIn wsX5_dear wsX4_has := goodIn_r _ [13, 14, 60, 61, 62, 63, 64, 65, 66, 67, 68, 69, 70, 71] (by decide +kernel) (by decide +kernel)
set_option maxRecDepth 20000 in
theorem gX5_dear_X4_has : GoodIn wsX5_dear (wsV RX5 89 RX4 yX4_has wsX4_has) := goodIn_app (goodIn_of _ (by decide +kernel)) ggX5_dear_X4_has
set_option maxRecDepth 20000 in
theorem ggX5_dear_X4_wouldBuild : GoodIn wsX5_dear wsX4_wouldBuild := goodIn_r _ [18, 14, 19, 20, 21, 22, 7, 23, 24, 25, 26, 27, 11, 12, 13, 28, 29, 30, 31, 9, 32, 33, 34, 35, 36, 37, 38, 39, 40, 41, 42, 43, 44, 60, 61, 62, 63, 64, 65, 66, 67, 68, 69, 70, 71] (by decide +kernel) (by decide +kernel)
set_option maxRecDepth 20000 in
theorem gX5_dear_X4_wouldBuild : GoodIn wsX5_dear (wsV RX5 168 RX4 yX4_wouldBuild wsX4_wouldBuild) := goodIn_app (goodIn_of _ (by decide +kernel)) ggX5_dear_X4_wouldBuild
theorem dX5_dear_0 : decode cX5_dear 0 = .ok (.iload_n 1, 1) := by decide +kernel
theorem dX5_dear_1 : decode cX5_dear 1 = .ok (.ifCond .lt 8, 3) := by decide +kernel
theorem dX5_dear_4 : decode cX5_dear 4 = .ok (.iload_n 1, 1) := by decide +kernel
theorem dX5_dear_5 : decode cX5_dear 5 = .ok (.iconst 1, 1) := by decide +kernel
theorem dX5_dear_6 : decode cX5_dear 6 = .ok (.if_icmp .le 6, 3) := by decide +kernel
theorem dX5_dear_9 : decode cX5_dear 9 = .ok (.bipush (-102), 2) := by decide +kernel
theorem dX5_dear_11 : decode cX5_dear 11 = .ok (.ireturn, 1) := by decide +kernel
theorem dX5_dear_12 : decode cX5_dear 12 = .ok (.aload_n 0, 1) := by decide +kernel
theorem dX5_dear_13 : decode cX5_dear 13 = .ok (.getfield 73, 3) := by decide +kernel
theorem dX5_dear_16 : decode cX5_dear 16 = .ok (.ifCond .ne 6, 3) := by decide +kernel
theorem dX5_dear_19 : decode cX5_dear 19 = .ok (.bipush (-103), 2) := by decide +kernel
theorem dX5_dear_21 : decode cX5_dear 21 = .ok (.ireturn, 1) := by decide +kernel
theorem dX5_dear_22 : decode cX5_dear 22 = .ok (.aload_n 0, 1) := by decide +kernel
theorem dX5_dear_23 : decode cX5_dear 23 = .ok (.getfield 19, 3) := by decide +kernel
theorem dX5_dear_26 : decode cX5_dear 26 = .ok (.getfield 83, 3) := by decide +kernel
theorem dX5_dear_29 : decode cX5_dear 29 = .ok (.invokevirtual 127, 3) := by decide +kernel
theorem dX5_dear_32 : decode cX5_dear 32 = .ok (.ifCond .eq 5, 3) := by decide +kernel
theorem dX5_dear_35 : decode cX5_dear 35 = .ok (.iconst (-1), 1) := by decide +kernel
theorem dX5_dear_36 : decode cX5_dear 36 = .ok (.ireturn, 1) := by decide +kernel
theorem dX5_dear_37 : decode cX5_dear 37 = .ok (.iconst (-1), 1) := by decide +kernel
theorem dX5_dear_38 : decode cX5_dear 38 = .ok (.istore_n 2, 1) := by decide +kernel
theorem dX5_dear_39 : decode cX5_dear 39 = .ok (.iconst (-1), 1) := by decide +kernel
theorem dX5_dear_40 : decode cX5_dear 40 = .ok (.istore_n 3, 1) := by decide +kernel
theorem dX5_dear_41 : decode cX5_dear 41 = .ok (.iconst 0, 1) := by decide +kernel
theorem dX5_dear_42 : decode cX5_dear 42 = .ok (.istore 4, 2) := by decide +kernel
theorem dX5_dear_44 : decode cX5_dear 44 = .ok (.iload 4, 2) := by decide +kernel
theorem dX5_dear_46 : decode cX5_dear 46 = .ok (.bipush 100, 2) := by decide +kernel
theorem dX5_dear_48 : decode cX5_dear 48 = .ok (.if_icmp .ge 54, 3) := by decide +kernel
theorem dX5_dear_51 : decode cX5_dear 51 = .ok (.aload_n 0, 1) := by decide +kernel
theorem dX5_dear_52 : decode cX5_dear 52 = .ok (.getfield 19, 3) := by decide +kernel
theorem dX5_dear_55 : decode cX5_dear 55 = .ok (.getfield 83, 3) := by decide +kernel
theorem dX5_dear_58 : decode cX5_dear 58 = .ok (.iload 4, 2) := by decide +kernel
theorem dX5_dear_60 : decode cX5_dear 60 = .ok (.invokevirtual 89, 3) := by decide +kernel
theorem dX5_dear_63 : decode cX5_dear 63 = .ok (.ifCond .eq 7, 3) := by decide +kernel
theorem dX5_dear_66 : decode cX5_dear 66 = .ok (.iconst (-1), 1) := by decide +kernel
theorem dX5_dear_67 : decode cX5_dear 67 = .ok (.goto 15, 3) := by decide +kernel
theorem dX5_dear_70 : decode cX5_dear 70 = .ok (.aload_n 0, 1) := by decide +kernel
theorem dX5_dear_71 : decode cX5_dear 71 = .ok (.getfield 19, 3) := by decide +kernel
theorem dX5_dear_74 : decode cX5_dear 74 = .ok (.getfield 83, 3) := by decide +kernel
theorem dX5_dear_77 : decode cX5_dear 77 = .ok (.iload 4, 2) := by decide +kernel
theorem dX5_dear_79 : decode cX5_dear 79 = .ok (.invokevirtual 168, 3) := by decide +kernel
theorem dX5_dear_82 : decode cX5_dear 82 = .ok (.istore 5, 2) := by decide +kernel
theorem dX5_dear_84 : decode cX5_dear 84 = .ok (.iload 5, 2) := by decide +kernel
theorem dX5_dear_86 : decode cX5_dear 86 = .ok (.iload_n 3, 1) := by decide +kernel
theorem dX5_dear_87 : decode cX5_dear 87 = .ok (.if_icmp .le 9, 3) := by decide +kernel
theorem dX5_dear_90 : decode cX5_dear 90 = .ok (.iload 4, 2) := by decide +kernel
theorem dX5_dear_92 : decode cX5_dear 92 = .ok (.istore_n 2, 1) := by decide +kernel
theorem dX5_dear_93 : decode cX5_dear 93 = .ok (.iload 5, 2) := by decide +kernel
theorem dX5_dear_95 : decode cX5_dear 95 = .ok (.istore_n 3, 1) := by decide +kernel
theorem dX5_dear_96 : decode cX5_dear 96 = .ok (.iinc 4 1, 3) := by decide +kernel
theorem dX5_dear_99 : decode cX5_dear 99 = .ok (.goto (-55), 3) := by decide +kernel
theorem dX5_dear_102 : decode cX5_dear 102 = .ok (.iload_n 1, 1) := by decide +kernel
theorem dX5_dear_103 : decode cX5_dear 103 = .ok (.ifCond .ne 7, 3) := by decide +kernel
theorem dX5_dear_106 : decode cX5_dear 106 = .ok (.iload_n 2, 1) := by decide +kernel
theorem dX5_dear_107 : decode cX5_dear 107 = .ok (.goto 4, 3) := by decide +kernel
theorem dX5_dear_110 : decode cX5_dear 110 = .ok (.iload_n 3, 1) := by decide +kernel
theorem dX5_dear_111 : decode cX5_dear 111 = .ok (.ireturn, 1) := by decide +kernel
set_option maxRecDepth 20000 in
theorem ggX5_replay_X5_isRatio : GoodIn wsX5_replay wsX5_isRatio := goodIn_r _ [11] (by decide +kernel) (by decide +kernel)
set_option maxRecDepth 20000 in
theorem gX5_replay_X5_isRatio : GoodIn wsX5_replay (va_wsS RX5 171 yX5_isRatio wsX5_isRatio) := goodIn_app (goodIn_of _ (by decide +kernel)) ggX5_replay_X5_isRatio
set_option maxRecDepth 20000 in
theorem ggX5_replay_X4_begin : GoodIn wsX5_replay wsX4_begin := goodIn_r _ [16, 17, 18, 19, 20, 21, 22, 23, 24, 25, 26, 27, 28, 132, 133, 134, 135, 136, 137, 138, 139, 140, 141, 142, 143] (by decide +kernel) (by decide +kernel)
set_option maxRecDepth 20000 in
theorem gX5_replay_X4_begin : GoodIn wsX5_replay (wsV RX5 174 RX4 yX4_begin wsX4_begin) := goodIn_app (goodIn_of _ (by decide +kernel)) ggX5_replay_X4_begin
set_option maxRecDepth 20000 in
theorem ggX5_replay_X4_turn : GoodIn wsX5_replay wsX4_turn := goodIn_r _ [32, 33, 34, 35, 15, 36, 17, 37, 38, 39, 40, 21, 22, 41, 42, 43, 44, 18, 45, 46, 47, 48, 49, 50, 51, 52, 53, 54, 55, 56, 57, 58, 59, 60, 61, 62, 63, 64, 65, 66, 67, 68, 69, 70, 71, 20, 19, 72, 73, 74, 75, 76, 77, 78, 79, 23, 24, 80, 81, 82, 83, 84, 85, 86, 87, 88, 89, 90, 91, 92, 93, 94, 95, 96, 97, 98, 99, 100, 101, 102, 103, 104, 105, 106, 107, 108, 109, 110, 132, 133, 134, 135, 136, 137, 138, 139, 140, 141, 142, 143] (by decide +kernel) (by decide +kernel)
set_option maxRecDepth 20000 in
theorem gX5_replay_X4_turn : GoodIn wsX5_replay (wsV RX5 187 RX4 yX4_turn wsX4_turn) := goodIn_app (goodIn_of _ (by decide +kernel)) ggX5_replay_X4_turn
set_option maxRecDepth 20000 in
theorem ggX5_replay_X4_tall : GoodIn wsX5_replay wsX4_tall := goodIn_r _ [114, 96, 97, 98, 99, 33, 34, 35, 15, 36, 17, 41, 42, 43, 44, 18, 45, 46, 47, 132, 133, 134, 135, 136, 137, 138, 139, 140, 141, 142, 143] (by decide +kernel) (by decide +kernel)
set_option maxRecDepth 20000 in
theorem gX5_replay_X4_tall : GoodIn wsX5_replay (wsV RX5 146 RX4 yX4_tall wsX4_tall) := goodIn_app (goodIn_of _ (by decide +kernel)) ggX5_replay_X4_tall
theorem dX5_replay_0 : decode cX5_replay 0 = .ok (.iload_n 1, 1) := by decide +kernel
theorem dX5_replay_1 : decode cX5_replay 1 = .ok (.iload_n 2, 1) := by decide +kernel
theorem dX5_replay_2 : decode cX5_replay 2 = .ok (.invokestatic 171, 3) := by decide +kernel
theorem dX5_replay_5 : decode cX5_replay 5 = .ok (.ifCond .eq 12, 3) := by decide +kernel
theorem dX5_replay_8 : decode cX5_replay 8 = .ok (.iload_n 3, 1) := by decide +kernel
theorem dX5_replay_9 : decode cX5_replay 9 = .ok (.ifCond .lt 8, 3) := by decide +kernel
theorem dX5_replay_12 : decode cX5_replay 12 = .ok (.iload_n 3, 1) := by decide +kernel
theorem dX5_replay_13 : decode cX5_replay 13 = .ok (.iconst 1, 1) := by decide +kernel
theorem dX5_replay_14 : decode cX5_replay 14 = .ok (.if_icmp .le 6, 3) := by decide +kernel
theorem dX5_replay_17 : decode cX5_replay 17 = .ok (.bipush (-102), 2) := by decide +kernel
theorem dX5_replay_19 : decode cX5_replay 19 = .ok (.ireturn, 1) := by decide +kernel
theorem dX5_replay_20 : decode cX5_replay 20 = .ok (.aload_n 0, 1) := by decide +kernel
theorem dX5_replay_21 : decode cX5_replay 21 = .ok (.getfield 73, 3) := by decide +kernel
theorem dX5_replay_24 : decode cX5_replay 24 = .ok (.ifCond .ne 6, 3) := by decide +kernel
theorem dX5_replay_27 : decode cX5_replay 27 = .ok (.bipush (-103), 2) := by decide +kernel
theorem dX5_replay_29 : decode cX5_replay 29 = .ok (.ireturn, 1) := by decide +kernel
theorem dX5_replay_30 : decode cX5_replay 30 = .ok (.aload_n 0, 1) := by decide +kernel
theorem dX5_replay_31 : decode cX5_replay 31 = .ok (.getfield 29, 3) := by decide +kernel
theorem dX5_replay_34 : decode cX5_replay 34 = .ok (.iload_n 1, 1) := by decide +kernel
theorem dX5_replay_35 : decode cX5_replay 35 = .ok (.iload_n 2, 1) := by decide +kernel
theorem dX5_replay_36 : decode cX5_replay 36 = .ok (.invokevirtual 174, 3) := by decide +kernel
theorem dX5_replay_39 : decode cX5_replay 39 = .ok (.iconst 0, 1) := by decide +kernel
theorem dX5_replay_40 : decode cX5_replay 40 = .ok (.istore 4, 2) := by decide +kernel
theorem dX5_replay_42 : decode cX5_replay 42 = .ok (.iload 4, 2) := by decide +kernel
theorem dX5_replay_44 : decode cX5_replay 44 = .ok (.aload_n 0, 1) := by decide +kernel
theorem dX5_replay_45 : decode cX5_replay 45 = .ok (.getfield 19, 3) := by decide +kernel
theorem dX5_replay_48 : decode cX5_replay 48 = .ok (.getfield 177, 3) := by decide +kernel
theorem dX5_replay_51 : decode cX5_replay 51 = .ok (.getfield 181, 3) := by decide +kernel
theorem dX5_replay_54 : decode cX5_replay 54 = .ok (.if_icmp .ge 29, 3) := by decide +kernel
theorem dX5_replay_57 : decode cX5_replay 57 = .ok (.aload_n 0, 1) := by decide +kernel
theorem dX5_replay_58 : decode cX5_replay 58 = .ok (.getfield 29, 3) := by decide +kernel
theorem dX5_replay_61 : decode cX5_replay 61 = .ok (.aload_n 0, 1) := by decide +kernel
theorem dX5_replay_62 : decode cX5_replay 62 = .ok (.getfield 19, 3) := by decide +kernel
theorem dX5_replay_65 : decode cX5_replay 65 = .ok (.getfield 177, 3) := by decide +kernel
theorem dX5_replay_68 : decode cX5_replay 68 = .ok (.getfield 184, 3) := by decide +kernel
theorem dX5_replay_71 : decode cX5_replay 71 = .ok (.iload 4, 2) := by decide +kernel
theorem dX5_replay_73 : decode cX5_replay 73 = .ok (.iaload, 1) := by decide +kernel
theorem dX5_replay_74 : decode cX5_replay 74 = .ok (.invokevirtual 187, 3) := by decide +kernel
theorem dX5_replay_77 : decode cX5_replay 77 = .ok (.iinc 4 1, 3) := by decide +kernel
theorem dX5_replay_80 : decode cX5_replay 80 = .ok (.goto (-38), 3) := by decide +kernel
theorem dX5_replay_83 : decode cX5_replay 83 = .ok (.iload_n 3, 1) := by decide +kernel
theorem dX5_replay_84 : decode cX5_replay 84 = .ok (.ifCond .ne 13, 3) := by decide +kernel
theorem dX5_replay_87 : decode cX5_replay 87 = .ok (.aload_n 0, 1) := by decide +kernel
theorem dX5_replay_88 : decode cX5_replay 88 = .ok (.getfield 29, 3) := by decide +kernel
theorem dX5_replay_91 : decode cX5_replay 91 = .ok (.getfield 165, 3) := by decide +kernel
theorem dX5_replay_94 : decode cX5_replay 94 = .ok (.goto 10, 3) := by decide +kernel
theorem dX5_replay_97 : decode cX5_replay 97 = .ok (.aload_n 0, 1) := by decide +kernel
theorem dX5_replay_98 : decode cX5_replay 98 = .ok (.getfield 29, 3) := by decide +kernel
theorem dX5_replay_101 : decode cX5_replay 101 = .ok (.invokevirtual 146, 3) := by decide +kernel
theorem dX5_replay_104 : decode cX5_replay 104 = .ok (.ireturn, 1) := by decide +kernel
set_option maxRecDepth 20000 in
theorem ggX5_ahead_X4_isFew : GoodIn wsX5_ahead wsX4_isFew := goodIn_r _ [9, 10, 11, 12, 28, 29, 30, 31, 32, 33, 34, 35, 36, 37, 38, 39] (by decide +kernel) (by decide +kernel)
set_option maxRecDepth 20000 in
theorem gX5_ahead_X4_isFew : GoodIn wsX5_ahead (wsV RX5 190 RX4 yX4_isFew wsX4_isFew) := goodIn_app (goodIn_of _ (by decide +kernel)) ggX5_ahead_X4_isFew
theorem dX5_ahead_0 : decode cX5_ahead 0 = .ok (.aload_n 0, 1) := by decide +kernel
theorem dX5_ahead_1 : decode cX5_ahead 1 = .ok (.getfield 73, 3) := by decide +kernel
theorem dX5_ahead_4 : decode cX5_ahead 4 = .ok (.ifCond .ne 6, 3) := by decide +kernel
theorem dX5_ahead_7 : decode cX5_ahead 7 = .ok (.bipush (-103), 2) := by decide +kernel
theorem dX5_ahead_9 : decode cX5_ahead 9 = .ok (.ireturn, 1) := by decide +kernel
theorem dX5_ahead_10 : decode cX5_ahead 10 = .ok (.aload_n 0, 1) := by decide +kernel
theorem dX5_ahead_11 : decode cX5_ahead 11 = .ok (.getfield 19, 3) := by decide +kernel
theorem dX5_ahead_14 : decode cX5_ahead 14 = .ok (.getfield 83, 3) := by decide +kernel
theorem dX5_ahead_17 : decode cX5_ahead 17 = .ok (.getfield 86, 3) := by decide +kernel
theorem dX5_ahead_20 : decode cX5_ahead 20 = .ok (.istore_n 1, 1) := by decide +kernel
theorem dX5_ahead_21 : decode cX5_ahead 21 = .ok (.iload_n 1, 1) := by decide +kernel
theorem dX5_ahead_22 : decode cX5_ahead 22 = .ok (.iconst 1, 1) := by decide +kernel
theorem dX5_ahead_23 : decode cX5_ahead 23 = .ok (.isub, 1) := by decide +kernel
theorem dX5_ahead_24 : decode cX5_ahead 24 = .ok (.istore_n 2, 1) := by decide +kernel
theorem dX5_ahead_25 : decode cX5_ahead 25 = .ok (.iload_n 2, 1) := by decide +kernel
theorem dX5_ahead_26 : decode cX5_ahead 26 = .ok (.ifCond .le 27, 3) := by decide +kernel
theorem dX5_ahead_29 : decode cX5_ahead 29 = .ok (.aload_n 0, 1) := by decide +kernel
theorem dX5_ahead_30 : decode cX5_ahead 30 = .ok (.getfield 19, 3) := by decide +kernel
theorem dX5_ahead_33 : decode cX5_ahead 33 = .ok (.getfield 83, 3) := by decide +kernel
theorem dX5_ahead_36 : decode cX5_ahead 36 = .ok (.iload_n 2, 1) := by decide +kernel
theorem dX5_ahead_37 : decode cX5_ahead 37 = .ok (.invokevirtual 190, 3) := by decide +kernel
theorem dX5_ahead_40 : decode cX5_ahead 40 = .ok (.ifCond .eq 7, 3) := by decide +kernel
theorem dX5_ahead_43 : decode cX5_ahead 43 = .ok (.iload_n 1, 1) := by decide +kernel
theorem dX5_ahead_44 : decode cX5_ahead 44 = .ok (.iload_n 2, 1) := by decide +kernel
theorem dX5_ahead_45 : decode cX5_ahead 45 = .ok (.isub, 1) := by decide +kernel
theorem dX5_ahead_46 : decode cX5_ahead 46 = .ok (.ireturn, 1) := by decide +kernel
theorem dX5_ahead_47 : decode cX5_ahead 47 = .ok (.iinc 2 (-1), 3) := by decide +kernel
theorem dX5_ahead_50 : decode cX5_ahead 50 = .ok (.goto (-25), 3) := by decide +kernel
theorem dX5_ahead_53 : decode cX5_ahead 53 = .ok (.iconst (-1), 1) := by decide +kernel
theorem dX5_ahead_54 : decode cX5_ahead 54 = .ok (.ireturn, 1) := by decide +kernel
set_option maxRecDepth 20000 in
theorem ggX5_see_X5_isNoKey : GoodIn wsX5_see wsX5_isNoKey := goodIn_r _ [9] (by decide +kernel) (by decide +kernel)
set_option maxRecDepth 20000 in
theorem gX5_see_X5_isNoKey : GoodIn wsX5_see (va_wsS RX5 121 yX5_isNoKey wsX5_isNoKey) := goodIn_app (goodIn_of _ (by decide +kernel)) ggX5_see_X5_isNoKey
set_option maxRecDepth 20000 in
theorem ggX5_see_X2_add : GoodIn wsX5_see wsX2_add := goodIn_r _ [14, 15, 16, 17, 33, 34, 35] (by decide +kernel) (by decide +kernel)
set_option maxRecDepth 20000 in
theorem gX5_see_X2_add : GoodIn wsX5_see (wsV RX5 200 RX2 yX2_add wsX2_add) := goodIn_app (goodIn_of _ (by decide +kernel)) ggX5_see_X2_add
theorem dX5_see_0 : decode cX5_see 0 = .ok (.iload_n 1, 1) := by decide +kernel
theorem dX5_see_1 : decode cX5_see 1 = .ok (.invokestatic 121, 3) := by decide +kernel
theorem dX5_see_4 : decode cX5_see 4 = .ok (.ifCond .ne 15, 3) := by decide +kernel
theorem dX5_see_7 : decode cX5_see 7 = .ok (.iload_n 2, 1) := by decide +kernel
theorem dX5_see_8 : decode cX5_see 8 = .ok (.ifCond .lt 11, 3) := by decide +kernel
theorem dX5_see_11 : decode cX5_see 11 = .ok (.iload_n 2, 1) := by decide +kernel
theorem dX5_see_12 : decode cX5_see 12 = .ok (.getstatic 193, 3) := by decide +kernel
theorem dX5_see_15 : decode cX5_see 15 = .ok (.arraylength, 1) := by decide +kernel
theorem dX5_see_16 : decode cX5_see 16 = .ok (.if_icmp .lt 6, 3) := by decide +kernel
theorem dX5_see_19 : decode cX5_see 19 = .ok (.bipush (-102), 2) := by decide +kernel
theorem dX5_see_21 : decode cX5_see 21 = .ok (.ireturn, 1) := by decide +kernel
theorem dX5_see_22 : decode cX5_see 22 = .ok (.aload_n 0, 1) := by decide +kernel
theorem dX5_see_23 : decode cX5_see 23 = .ok (.getfield 73, 3) := by decide +kernel
theorem dX5_see_26 : decode cX5_see 26 = .ok (.ifCond .ne 6, 3) := by decide +kernel
theorem dX5_see_29 : decode cX5_see 29 = .ok (.bipush (-103), 2) := by decide +kernel
theorem dX5_see_31 : decode cX5_see 31 = .ok (.ireturn, 1) := by decide +kernel
theorem dX5_see_32 : decode cX5_see 32 = .ok (.iload_n 3, 1) := by decide +kernel
theorem dX5_see_33 : decode cX5_see 33 = .ok (.ifCond .eq 11, 3) := by decide +kernel
theorem dX5_see_36 : decode cX5_see 36 = .ok (.getstatic 193, 3) := by decide +kernel
theorem dX5_see_39 : decode cX5_see 39 = .ok (.iload_n 2, 1) := by decide +kernel
theorem dX5_see_40 : decode cX5_see 40 = .ok (.iaload, 1) := by decide +kernel
theorem dX5_see_41 : decode cX5_see 41 = .ok (.goto 13, 3) := by decide +kernel
theorem dX5_see_44 : decode cX5_see 44 = .ok (.bipush 31, 2) := by decide +kernel
theorem dX5_see_46 : decode cX5_see 46 = .ok (.getstatic 193, 3) := by decide +kernel
theorem dX5_see_49 : decode cX5_see 49 = .ok (.iload_n 2, 1) := by decide +kernel
theorem dX5_see_50 : decode cX5_see 50 = .ok (.iaload, 1) := by decide +kernel
theorem dX5_see_51 : decode cX5_see 51 = .ok (.iconst (-1), 1) := by decide +kernel
theorem dX5_see_52 : decode cX5_see 52 = .ok (.ixor, 1) := by decide +kernel
theorem dX5_see_53 : decode cX5_see 53 = .ok (.iand, 1) := by decide +kernel
theorem dX5_see_54 : decode cX5_see 54 = .ok (.istore 4, 2) := by decide +kernel
theorem dX5_see_56 : decode cX5_see 56 = .ok (.aload_n 0, 1) := by decide +kernel
theorem dX5_see_57 : decode cX5_see 57 = .ok (.getfield 19, 3) := by decide +kernel
theorem dX5_see_60 : decode cX5_see 60 = .ok (.getfield 196, 3) := by decide +kernel
theorem dX5_see_63 : decode cX5_see 63 = .ok (.iload_n 1, 1) := by decide +kernel
theorem dX5_see_64 : decode cX5_see 64 = .ok (.iload 4, 2) := by decide +kernel
theorem dX5_see_66 : decode cX5_see 66 = .ok (.invokevirtual 200, 3) := by decide +kernel
theorem dX5_see_69 : decode cX5_see 69 = .ok (.ifCond .eq 16, 3) := by decide +kernel
theorem dX5_see_72 : decode cX5_see 72 = .ok (.aload_n 0, 1) := by decide +kernel
theorem dX5_see_73 : decode cX5_see 73 = .ok (.getfield 19, 3) := by decide +kernel
theorem dX5_see_76 : decode cX5_see 76 = .ok (.getfield 196, 3) := by decide +kernel
theorem dX5_see_79 : decode cX5_see 79 = .ok (.getfield 205, 3) := by decide +kernel
theorem dX5_see_82 : decode cX5_see 82 = .ok (.goto 5, 3) := by decide +kernel
theorem dX5_see_85 : decode cX5_see 85 = .ok (.bipush (-104), 2) := by decide +kernel
theorem dX5_see_87 : decode cX5_see 87 = .ok (.ireturn, 1) := by decide +kernel
theorem dX5_forget_0 : decode cX5_forget 0 = .ok (.aload_n 0, 1) := by decide +kernel
theorem dX5_forget_1 : decode cX5_forget 1 = .ok (.getfield 19, 3) := by decide +kernel
theorem dX5_forget_4 : decode cX5_forget 4 = .ok (.getfield 196, 3) := by decide +kernel
theorem dX5_forget_7 : decode cX5_forget 7 = .ok (.getfield 205, 3) := by decide +kernel
theorem dX5_forget_10 : decode cX5_forget 10 = .ok (.istore_n 1, 1) := by decide +kernel
theorem dX5_forget_11 : decode cX5_forget 11 = .ok (.aload_n 0, 1) := by decide +kernel
theorem dX5_forget_12 : decode cX5_forget 12 = .ok (.getfield 19, 3) := by decide +kernel
theorem dX5_forget_15 : decode cX5_forget 15 = .ok (.getfield 196, 3) := by decide +kernel
theorem dX5_forget_18 : decode cX5_forget 18 = .ok (.iconst 0, 1) := by decide +kernel
theorem dX5_forget_19 : decode cX5_forget 19 = .ok (.putfield 205, 3) := by decide +kernel
theorem dX5_forget_22 : decode cX5_forget 22 = .ok (.iload_n 1, 1) := by decide +kernel
theorem dX5_forget_23 : decode cX5_forget 23 = .ok (.ireturn, 1) := by decide +kernel
set_option maxRecDepth 20000 in
theorem ggX5_sorts_X5_isNoKey : GoodIn wsX5_sorts wsX5_isNoKey := goodIn_r _ [6] (by decide +kernel) (by decide +kernel)
set_option maxRecDepth 20000 in
theorem gX5_sorts_X5_isNoKey : GoodIn wsX5_sorts (va_wsS RX5 121 yX5_isNoKey wsX5_isNoKey) := goodIn_app (goodIn_of _ (by decide +kernel)) ggX5_sorts_X5_isNoKey
set_option maxRecDepth 20000 in
theorem ggX5_sorts_X2_sortsOf : GoodIn wsX5_sorts wsX2_sortsOf := goodIn_r _ [11, 12, 13, 14, 45, 46, 47] (by decide +kernel) (by decide +kernel)
set_option maxRecDepth 20000 in
theorem gX5_sorts_X2_sortsOf : GoodIn wsX5_sorts (wsV RX5 206 RX2 yX2_sortsOf wsX2_sortsOf) := goodIn_app (goodIn_of _ (by decide +kernel)) ggX5_sorts_X2_sortsOf
set_option maxRecDepth 20000 in
theorem ggX5_sorts_X5_bestAsk : GoodIn wsX5_sorts wsX5_bestAsk := goodIn_r _ [17, 18, 19, 20, 21, 22, 23, 24, 25, 26, 27, 28, 29] (by decide +kernel) (by decide +kernel)
set_option maxRecDepth 20000 in
theorem gX5_sorts_X5_bestAsk : GoodIn wsX5_sorts (va_wsS RX5 209 yX5_bestAsk wsX5_bestAsk) := goodIn_app (goodIn_of _ (by decide +kernel)) ggX5_sorts_X5_bestAsk
theorem dX5_sorts_0 : decode cX5_sorts 0 = .ok (.iload_n 1, 1) := by decide +kernel
theorem dX5_sorts_1 : decode cX5_sorts 1 = .ok (.invokestatic 121, 3) := by decide +kernel
theorem dX5_sorts_4 : decode cX5_sorts 4 = .ok (.ifCond .ne 12, 3) := by decide +kernel
theorem dX5_sorts_7 : decode cX5_sorts 7 = .ok (.iload_n 2, 1) := by decide +kernel
theorem dX5_sorts_8 : decode cX5_sorts 8 = .ok (.ifCond .lt 8, 3) := by decide +kernel
theorem dX5_sorts_11 : decode cX5_sorts 11 = .ok (.iload_n 2, 1) := by decide +kernel
theorem dX5_sorts_12 : decode cX5_sorts 12 = .ok (.iconst 1, 1) := by decide +kernel
theorem dX5_sorts_13 : decode cX5_sorts 13 = .ok (.if_icmp .le 6, 3) := by decide +kernel
theorem dX5_sorts_16 : decode cX5_sorts 16 = .ok (.bipush (-102), 2) := by decide +kernel
theorem dX5_sorts_18 : decode cX5_sorts 18 = .ok (.ireturn, 1) := by decide +kernel
theorem dX5_sorts_19 : decode cX5_sorts 19 = .ok (.aload_n 0, 1) := by decide +kernel
theorem dX5_sorts_20 : decode cX5_sorts 20 = .ok (.getfield 19, 3) := by decide +kernel
theorem dX5_sorts_23 : decode cX5_sorts 23 = .ok (.getfield 196, 3) := by decide +kernel
theorem dX5_sorts_26 : decode cX5_sorts 26 = .ok (.iload_n 1, 1) := by decide +kernel
theorem dX5_sorts_27 : decode cX5_sorts 27 = .ok (.invokevirtual 206, 3) := by decide +kernel
theorem dX5_sorts_30 : decode cX5_sorts 30 = .ok (.istore_n 3, 1) := by decide +kernel
theorem dX5_sorts_31 : decode cX5_sorts 31 = .ok (.iload_n 2, 1) := by decide +kernel
theorem dX5_sorts_32 : decode cX5_sorts 32 = .ok (.ifCond .ne 7, 3) := by decide +kernel
theorem dX5_sorts_35 : decode cX5_sorts 35 = .ok (.iload_n 3, 1) := by decide +kernel
theorem dX5_sorts_36 : decode cX5_sorts 36 = .ok (.goto 7, 3) := by decide +kernel
theorem dX5_sorts_39 : decode cX5_sorts 39 = .ok (.iload_n 3, 1) := by decide +kernel
theorem dX5_sorts_40 : decode cX5_sorts 40 = .ok (.invokestatic 209, 3) := by decide +kernel
theorem dX5_sorts_43 : decode cX5_sorts 43 = .ok (.ireturn, 1) := by decide +kernel
set_option maxRecDepth 20000 in
theorem ggX5_drawn_X4_copy : GoodIn wsX5_drawn wsX4_copy := goodIn_r _ [15, 16, 17, 18, 19, 20, 21, 22, 23, 24, 25, 26, 27, 28, 29, 129, 130, 131, 132, 133, 134, 135, 136, 137, 138, 139, 140] (by decide +kernel) (by decide +kernel)
set_option maxRecDepth 20000 in
theorem gX5_drawn_X4_copy : GoodIn wsX5_drawn (wsV RX5 212 RX4 yX4_copy wsX4_copy) := goodIn_app (goodIn_of _ (by decide +kernel)) ggX5_drawn_X4_copy
set_option maxRecDepth 20000 in
theorem ggX5_drawn_X4_turn : GoodIn wsX5_drawn wsX4_turn := goodIn_r _ [33, 34, 35, 36, 14, 37, 22, 38, 39, 40, 41, 26, 27, 42, 43, 44, 45, 23, 46, 16, 21, 47, 48, 49, 50, 51, 52, 53, 54, 55, 56, 57, 58, 59, 60, 61, 62, 63, 64, 65, 66, 67, 68, 69, 70, 25, 24, 71, 72, 73, 74, 75, 76, 77, 78, 28, 29, 79, 80, 81, 82, 83, 84, 85, 86, 87, 88, 89, 90, 91, 92, 93, 94, 95, 96, 97, 98, 99, 100, 101, 102, 103, 104, 105, 106, 107, 108, 109, 129, 130, 131, 132, 133, 134, 135, 136, 137, 138, 139, 140] (by decide +kernel) (by decide +kernel)
set_option maxRecDepth 20000 in
theorem gX5_drawn_X4_turn : GoodIn wsX5_drawn (wsV RX5 187 RX4 yX4_turn wsX4_turn) := goodIn_app (goodIn_of _ (by decide +kernel)) ggX5_drawn_X4_turn
set_option maxRecDepth 20000 in
theorem ggX5_drawn_X4_tall : GoodIn wsX5_drawn wsX4_tall := goodIn_r _ [113, 95, 96, 97, 98, 34, 35, 36, 14, 37, 22, 42, 43, 44, 45, 23, 46, 16, 21, 129, 130, 131, 132, 133, 134, 135, 136, 137, 138, 139, 140] (by decide +kernel) (by decide +kernel)
set_option maxRecDepth 20000 in
theorem gX5_drawn_X4_tall : GoodIn wsX5_drawn (wsV RX5 146 RX4 yX4_tall wsX4_tall) := goodIn_app (goodIn_of _ (by decide +kernel)) ggX5_drawn_X4_tall
theorem dX5_drawn_0 : decode cX5_drawn 0 = .ok (.iload_n 1, 1) := by decide +kernel
theorem dX5_drawn_1 : decode cX5_drawn 1 = .ok (.iconst 1, 1) := by decide +kernel
theorem dX5_drawn_2 : decode cX5_drawn 2 = .ok (.if_icmp .lt 22, 3) := by decide +kernel
theorem dX5_drawn_5 : decode cX5_drawn 5 = .ok (.iload_n 1, 1) := by decide +kernel
theorem dX5_drawn_6 : decode cX5_drawn 6 = .ok (.bipush 60, 2) := by decide +kernel
theorem dX5_drawn_8 : decode cX5_drawn 8 = .ok (.if_icmp .gt 16, 3) := by decide +kernel
theorem dX5_drawn_11 : decode cX5_drawn 11 = .ok (.iload_n 2, 1) := by decide +kernel
theorem dX5_drawn_12 : decode cX5_drawn 12 = .ok (.ifCond .lt 12, 3) := by decide +kernel
theorem dX5_drawn_15 : decode cX5_drawn 15 = .ok (.iload_n 3, 1) := by decide +kernel
theorem dX5_drawn_16 : decode cX5_drawn 16 = .ok (.ifCond .lt 8, 3) := by decide +kernel
theorem dX5_drawn_19 : decode cX5_drawn 19 = .ok (.iload_n 3, 1) := by decide +kernel
theorem dX5_drawn_20 : decode cX5_drawn 20 = .ok (.iconst 2, 1) := by decide +kernel
theorem dX5_drawn_21 : decode cX5_drawn 21 = .ok (.if_icmp .le 6, 3) := by decide +kernel
theorem dX5_drawn_24 : decode cX5_drawn 24 = .ok (.bipush (-102), 2) := by decide +kernel
theorem dX5_drawn_26 : decode cX5_drawn 26 = .ok (.ireturn, 1) := by decide +kernel
theorem dX5_drawn_27 : decode cX5_drawn 27 = .ok (.aload_n 0, 1) := by decide +kernel
theorem dX5_drawn_28 : decode cX5_drawn 28 = .ok (.getfield 73, 3) := by decide +kernel
theorem dX5_drawn_31 : decode cX5_drawn 31 = .ok (.ifCond .ne 6, 3) := by decide +kernel
theorem dX5_drawn_34 : decode cX5_drawn 34 = .ok (.bipush (-103), 2) := by decide +kernel
theorem dX5_drawn_36 : decode cX5_drawn 36 = .ok (.ireturn, 1) := by decide +kernel
theorem dX5_drawn_37 : decode cX5_drawn 37 = .ok (.aload_n 0, 1) := by decide +kernel
theorem dX5_drawn_38 : decode cX5_drawn 38 = .ok (.getfield 29, 3) := by decide +kernel
theorem dX5_drawn_41 : decode cX5_drawn 41 = .ok (.aload_n 0, 1) := by decide +kernel
theorem dX5_drawn_42 : decode cX5_drawn 42 = .ok (.getfield 19, 3) := by decide +kernel
theorem dX5_drawn_45 : decode cX5_drawn 45 = .ok (.getfield 83, 3) := by decide +kernel
theorem dX5_drawn_48 : decode cX5_drawn 48 = .ok (.invokevirtual 212, 3) := by decide +kernel
theorem dX5_drawn_51 : decode cX5_drawn 51 = .ok (.iload_n 2, 1) := by decide +kernel
theorem dX5_drawn_52 : decode cX5_drawn 52 = .ok (.i2l, 1) := by decide +kernel
theorem dX5_drawn_53 : decode cX5_drawn 53 = .ok (.lstore 4, 2) := by decide +kernel
theorem dX5_drawn_55 : decode cX5_drawn 55 = .ok (.iconst 0, 1) := by decide +kernel
theorem dX5_drawn_56 : decode cX5_drawn 56 = .ok (.istore 6, 2) := by decide +kernel
theorem dX5_drawn_58 : decode cX5_drawn 58 = .ok (.iload 6, 2) := by decide +kernel
theorem dX5_drawn_60 : decode cX5_drawn 60 = .ok (.iload_n 1, 1) := by decide +kernel
theorem dX5_drawn_61 : decode cX5_drawn 61 = .ok (.if_icmp .ge 43, 3) := by decide +kernel
theorem dX5_drawn_64 : decode cX5_drawn 64 = .ok (.ldc2_w 216, 3) := by decide +kernel
theorem dX5_drawn_67 : decode cX5_drawn 67 = .ok (.lload 4, 2) := by decide +kernel
theorem dX5_drawn_69 : decode cX5_drawn 69 = .ok (.lmul, 1) := by decide +kernel
theorem dX5_drawn_70 : decode cX5_drawn 70 = .ok (.ldc2_w 218, 3) := by decide +kernel
theorem dX5_drawn_73 : decode cX5_drawn 73 = .ok (.ladd, 1) := by decide +kernel
theorem dX5_drawn_74 : decode cX5_drawn 74 = .ok (.ldc2_w 220, 3) := by decide +kernel
theorem dX5_drawn_77 : decode cX5_drawn 77 = .ok (.lrem, 1) := by decide +kernel
theorem dX5_drawn_78 : decode cX5_drawn 78 = .ok (.lstore 4, 2) := by decide +kernel
theorem dX5_drawn_80 : decode cX5_drawn 80 = .ok (.aload_n 0, 1) := by decide +kernel
theorem dX5_drawn_81 : decode cX5_drawn 81 = .ok (.getfield 29, 3) := by decide +kernel
theorem dX5_drawn_84 : decode cX5_drawn 84 = .ok (.lload 4, 2) := by decide +kernel
theorem dX5_drawn_86 : decode cX5_drawn 86 = .ok (.ldc2_w 222, 3) := by decide +kernel
theorem dX5_drawn_89 : decode cX5_drawn 89 = .ok (.ldiv, 1) := by decide +kernel
theorem dX5_drawn_90 : decode cX5_drawn 90 = .ok (.ldc2_w 224, 3) := by decide +kernel
theorem dX5_drawn_93 : decode cX5_drawn 93 = .ok (.lrem, 1) := by decide +kernel
theorem dX5_drawn_94 : decode cX5_drawn 94 = .ok (.l2i, 1) := by decide +kernel
theorem dX5_drawn_95 : decode cX5_drawn 95 = .ok (.invokevirtual 187, 3) := by decide +kernel
theorem dX5_drawn_98 : decode cX5_drawn 98 = .ok (.iinc 6 1, 3) := by decide +kernel
theorem dX5_drawn_101 : decode cX5_drawn 101 = .ok (.goto (-43), 3) := by decide +kernel
theorem dX5_drawn_104 : decode cX5_drawn 104 = .ok (.iload_n 3, 1) := by decide +kernel
theorem dX5_drawn_105 : decode cX5_drawn 105 = .ok (.lookupswitch 54 #[(0, 27), (1, 46)], 27) := by decide +kernel
theorem dX5_drawn_132 : decode cX5_drawn 132 = .ok (.aload_n 0, 1) := by decide +kernel
theorem dX5_drawn_133 : decode cX5_drawn 133 = .ok (.getfield 29, 3) := by decide +kernel
theorem dX5_drawn_136 : decode cX5_drawn 136 = .ok (.getfield 165, 3) := by decide +kernel
theorem dX5_drawn_139 : decode cX5_drawn 139 = .ok (.aload_n 0, 1) := by decide +kernel
theorem dX5_drawn_140 : decode cX5_drawn 140 = .ok (.getfield 19, 3) := by decide +kernel
theorem dX5_drawn_143 : decode cX5_drawn 143 = .ok (.getfield 83, 3) := by decide +kernel
theorem dX5_drawn_146 : decode cX5_drawn 146 = .ok (.getfield 165, 3) := by decide +kernel
theorem dX5_drawn_149 : decode cX5_drawn 149 = .ok (.isub, 1) := by decide +kernel
theorem dX5_drawn_150 : decode cX5_drawn 150 = .ok (.ireturn, 1) := by decide +kernel
theorem dX5_drawn_151 : decode cX5_drawn 151 = .ok (.aload_n 0, 1) := by decide +kernel
theorem dX5_drawn_152 : decode cX5_drawn 152 = .ok (.getfield 29, 3) := by decide +kernel
theorem dX5_drawn_155 : decode cX5_drawn 155 = .ok (.invokevirtual 146, 3) := by decide +kernel
theorem dX5_drawn_158 : decode cX5_drawn 158 = .ok (.ireturn, 1) := by decide +kernel
theorem dX5_drawn_159 : decode cX5_drawn 159 = .ok (.lload 4, 2) := by decide +kernel
theorem dX5_drawn_161 : decode cX5_drawn 161 = .ok (.l2i, 1) := by decide +kernel
theorem dX5_drawn_162 : decode cX5_drawn 162 = .ok (.ireturn, 1) := by decide +kernel
set_option maxRecDepth 20000 in
theorem ggX5_image_X3_copy : GoodIn wsX5_image wsX3_copy := goodIn_r _ [11, 12, 13, 14, 15, 16, 17, 18, 19, 20, 21, 22, 23, 24, 25, 26, 27, 28, 29, 30, 31, 32, 33, 34, 35, 36, 37, 38, 39, 40, 41, 42, 43, 44, 45, 46, 47, 48, 49, 50, 51, 52, 53, 54, 55, 56, 64, 65, 66, 67, 68, 69, 70, 71, 72, 73, 74, 75, 76, 77, 78, 79, 80, 81, 82, 83, 84, 85, 86, 87, 88] (by decide +kernel) (by decide +kernel)
set_option maxRecDepth 20000 in
theorem gX5_image_X3_copy : GoodIn wsX5_image (wsV RX5 226 RX3 yX3_copy wsX3_copy) := goodIn_app (goodIn_of _ (by decide +kernel)) ggX5_image_X3_copy
theorem dX5_image_0 : decode cX5_image 0 = .ok (.aload_n 0, 1) := by decide +kernel
theorem dX5_image_1 : decode cX5_image 1 = .ok (.getfield 73, 3) := by decide +kernel
theorem dX5_image_4 : decode cX5_image 4 = .ok (.ifCond .ne 6, 3) := by decide +kernel
theorem dX5_image_7 : decode cX5_image 7 = .ok (.bipush (-103), 2) := by decide +kernel
theorem dX5_image_9 : decode cX5_image 9 = .ok (.ireturn, 1) := by decide +kernel
theorem dX5_image_10 : decode cX5_image 10 = .ok (.aload_n 0, 1) := by decide +kernel
theorem dX5_image_11 : decode cX5_image 11 = .ok (.getfield 23, 3) := by decide +kernel
theorem dX5_image_14 : decode cX5_image 14 = .ok (.aload_n 0, 1) := by decide +kernel
theorem dX5_image_15 : decode cX5_image 15 = .ok (.getfield 19, 3) := by decide +kernel
theorem dX5_image_18 : decode cX5_image 18 = .ok (.invokevirtual 226, 3) := by decide +kernel
theorem dX5_image_21 : decode cX5_image 21 = .ok (.aload_n 0, 1) := by decide +kernel
theorem dX5_image_22 : decode cX5_image 22 = .ok (.iconst 1, 1) := by decide +kernel
theorem dX5_image_23 : decode cX5_image 23 = .ok (.putfield 77, 3) := by decide +kernel
theorem dX5_image_26 : decode cX5_image 26 = .ok (.aload_n 0, 1) := by decide +kernel
theorem dX5_image_27 : decode cX5_image 27 = .ok (.getfield 19, 3) := by decide +kernel
theorem dX5_image_30 : decode cX5_image 30 = .ok (.getfield 83, 3) := by decide +kernel
theorem dX5_image_33 : decode cX5_image 33 = .ok (.getfield 86, 3) := by decide +kernel
theorem dX5_image_36 : decode cX5_image 36 = .ok (.ireturn, 1) := by decide +kernel
set_option maxRecDepth 20000 in
theorem ggX5_restore_X3_copy : GoodIn wsX5_restore wsX3_copy := goodIn_r _ [10, 11, 12, 13, 14, 15, 16, 17, 18, 19, 20, 21, 22, 23, 24, 25, 26, 27, 28, 29, 30, 31, 32, 33, 34, 35, 36, 37, 38, 39, 40, 41, 42, 43, 44, 45, 46, 47, 48, 49, 50, 51, 52, 53, 54, 55, 63, 64, 65, 66, 67, 68, 69, 70, 71, 72, 73, 74, 75, 76, 77, 78, 79, 80, 81, 82, 83, 84, 85, 86, 87] (by decide +kernel) (by decide +kernel)
set_option maxRecDepth 20000 in
theorem gX5_restore_X3_copy : GoodIn wsX5_restore (wsV RX5 226 RX3 yX3_copy wsX3_copy) := goodIn_app (goodIn_of _ (by decide +kernel)) ggX5_restore_X3_copy
theorem dX5_restore_0 : decode cX5_restore 0 = .ok (.aload_n 0, 1) := by decide +kernel
theorem dX5_restore_1 : decode cX5_restore 1 = .ok (.getfield 77, 3) := by decide +kernel
theorem dX5_restore_4 : decode cX5_restore 4 = .ok (.ifCond .ne 6, 3) := by decide +kernel
theorem dX5_restore_7 : decode cX5_restore 7 = .ok (.bipush (-103), 2) := by decide +kernel
theorem dX5_restore_9 : decode cX5_restore 9 = .ok (.ireturn, 1) := by decide +kernel
theorem dX5_restore_10 : decode cX5_restore 10 = .ok (.aload_n 0, 1) := by decide +kernel
theorem dX5_restore_11 : decode cX5_restore 11 = .ok (.getfield 19, 3) := by decide +kernel
theorem dX5_restore_14 : decode cX5_restore 14 = .ok (.aload_n 0, 1) := by decide +kernel
theorem dX5_restore_15 : decode cX5_restore 15 = .ok (.getfield 23, 3) := by decide +kernel
theorem dX5_restore_18 : decode cX5_restore 18 = .ok (.invokevirtual 226, 3) := by decide +kernel
theorem dX5_restore_21 : decode cX5_restore 21 = .ok (.aload_n 0, 1) := by decide +kernel
theorem dX5_restore_22 : decode cX5_restore 22 = .ok (.getfield 19, 3) := by decide +kernel
theorem dX5_restore_25 : decode cX5_restore 25 = .ok (.getfield 83, 3) := by decide +kernel
theorem dX5_restore_28 : decode cX5_restore 28 = .ok (.getfield 86, 3) := by decide +kernel
theorem dX5_restore_31 : decode cX5_restore 31 = .ok (.ireturn, 1) := by decide +kernel
theorem dX5_count_0 : decode cX5_count 0 = .ok (.iload_n 1, 1) := by decide +kernel
theorem dX5_count_1 : decode cX5_count 1 = .ok (.tableswitch 123 0 7 #[47, 58, 69, 80, 88, 99, 110, 118], 47) := by decide +kernel
theorem dX5_count_48 : decode cX5_count 48 = .ok (.aload_n 0, 1) := by decide +kernel
theorem dX5_count_49 : decode cX5_count 49 = .ok (.getfield 19, 3) := by decide +kernel
theorem dX5_count_52 : decode cX5_count 52 = .ok (.getfield 83, 3) := by decide +kernel
theorem dX5_count_55 : decode cX5_count 55 = .ok (.getfield 86, 3) := by decide +kernel
theorem dX5_count_58 : decode cX5_count 58 = .ok (.ireturn, 1) := by decide +kernel
theorem dX5_count_59 : decode cX5_count 59 = .ok (.aload_n 0, 1) := by decide +kernel
theorem dX5_count_60 : decode cX5_count 60 = .ok (.getfield 19, 3) := by decide +kernel
theorem dX5_count_63 : decode cX5_count 63 = .ok (.getfield 83, 3) := by decide +kernel
theorem dX5_count_66 : decode cX5_count 66 = .ok (.getfield 229, 3) := by decide +kernel
theorem dX5_count_69 : decode cX5_count 69 = .ok (.ireturn, 1) := by decide +kernel
theorem dX5_count_70 : decode cX5_count 70 = .ok (.aload_n 0, 1) := by decide +kernel
theorem dX5_count_71 : decode cX5_count 71 = .ok (.getfield 19, 3) := by decide +kernel
theorem dX5_count_74 : decode cX5_count 74 = .ok (.getfield 83, 3) := by decide +kernel
theorem dX5_count_77 : decode cX5_count 77 = .ok (.getfield 232, 3) := by decide +kernel
theorem dX5_count_80 : decode cX5_count 80 = .ok (.ireturn, 1) := by decide +kernel
theorem dX5_count_81 : decode cX5_count 81 = .ok (.aload_n 0, 1) := by decide +kernel
theorem dX5_count_82 : decode cX5_count 82 = .ok (.getfield 19, 3) := by decide +kernel
theorem dX5_count_85 : decode cX5_count 85 = .ok (.getfield 235, 3) := by decide +kernel
theorem dX5_count_88 : decode cX5_count 88 = .ok (.ireturn, 1) := by decide +kernel
theorem dX5_count_89 : decode cX5_count 89 = .ok (.aload_n 0, 1) := by decide +kernel
theorem dX5_count_90 : decode cX5_count 90 = .ok (.getfield 19, 3) := by decide +kernel
theorem dX5_count_93 : decode cX5_count 93 = .ok (.getfield 177, 3) := by decide +kernel
theorem dX5_count_96 : decode cX5_count 96 = .ok (.getfield 181, 3) := by decide +kernel
theorem dX5_count_99 : decode cX5_count 99 = .ok (.ireturn, 1) := by decide +kernel
theorem dX5_count_100 : decode cX5_count 100 = .ok (.aload_n 0, 1) := by decide +kernel
theorem dX5_count_101 : decode cX5_count 101 = .ok (.getfield 19, 3) := by decide +kernel
theorem dX5_count_104 : decode cX5_count 104 = .ok (.getfield 196, 3) := by decide +kernel
theorem dX5_count_107 : decode cX5_count 107 = .ok (.getfield 205, 3) := by decide +kernel
theorem dX5_count_110 : decode cX5_count 110 = .ok (.ireturn, 1) := by decide +kernel
theorem dX5_count_111 : decode cX5_count 111 = .ok (.aload_n 0, 1) := by decide +kernel
theorem dX5_count_112 : decode cX5_count 112 = .ok (.getfield 12, 3) := by decide +kernel
theorem dX5_count_115 : decode cX5_count 115 = .ok (.getfield 37, 3) := by decide +kernel
theorem dX5_count_118 : decode cX5_count 118 = .ok (.ireturn, 1) := by decide +kernel
theorem dX5_count_119 : decode cX5_count 119 = .ok (.aload_n 0, 1) := by decide +kernel
theorem dX5_count_120 : decode cX5_count 120 = .ok (.getfield 80, 3) := by decide +kernel
theorem dX5_count_123 : decode cX5_count 123 = .ok (.ireturn, 1) := by decide +kernel
theorem dX5_count_124 : decode cX5_count 124 = .ok (.bipush (-102), 2) := by decide +kernel
theorem dX5_count_126 : decode cX5_count 126 = .ok (.ireturn, 1) := by decide +kernel
set_option maxRecDepth 20000 in
theorem ggX5_digest_X5_mixEntries : GoodIn wsX5_digest wsX5_mixEntries := goodIn_r _ [10, 11, 12, 13, 14, 15, 16, 17, 18, 19, 20, 9, 21, 22, 23, 24, 25, 26, 27, 28, 29, 30, 31, 32, 33, 34, 35, 36, 37, 38, 39, 40, 41, 42, 43, 44, 45, 46, 47, 48, 49, 50, 51, 52, 53, 218, 219, 220, 221, 222, 223, 224, 227, 228, 229, 230, 231, 232, 233, 234, 235, 236, 237, 238, 239, 240, 241, 242, 243, 244, 245, 246] (by decide +kernel) (by decide +kernel)
set_option maxRecDepth 20000 in
theorem gX5_digest_X5_mixEntries : GoodIn wsX5_digest (wsV RX5 240 RX5 yX5_mixEntries wsX5_mixEntries) := goodIn_app (goodIn_of _ (by decide +kernel)) ggX5_digest_X5_mixEntries
set_option maxRecDepth 20000 in
theorem ggX5_digest_X5_mixShelf : GoodIn wsX5_digest wsX5_mixShelf := goodIn_r _ [57, 11, 12, 58, 59, 60, 61, 9, 62, 2, 63, 64, 65, 66, 67, 68, 69, 70, 71, 72, 16, 73, 74, 75, 76, 77, 40, 14, 15, 17, 18, 45, 33, 34, 35, 36, 37, 38, 39, 78, 79, 80, 81, 82, 83, 19, 20, 21, 22, 84, 85, 86, 87, 88, 89, 90, 91, 92, 93, 94, 95, 13, 96, 97, 98, 99, 100, 101, 102, 103, 104, 105, 106, 107, 108, 109, 110, 111, 112, 113, 114, 115, 116, 117, 118, 119, 120, 121, 122, 123, 124, 125, 126, 127, 128, 129, 130, 131, 132, 133, 134, 135, 136, 137, 138, 139, 140, 141, 142, 143, 144, 145, 146, 147, 148, 149, 46, 47, 48, 49, 150, 151, 152, 153, 154, 155, 156, 157, 158, 159, 160, 161, 162, 163, 164, 165, 166, 167, 168, 169, 170, 171, 172, 173, 174, 175, 176, 177, 178, 179, 180, 181, 182, 183, 218, 219, 220, 221, 222, 223, 224, 227, 228, 229, 230, 231, 232, 233, 234, 235, 236, 237, 238, 239, 240, 241, 242, 243, 244, 245, 246, 247, 248] (by decide +kernel) (by decide +kernel)
set_option maxRecDepth 20000 in
theorem gX5_digest_X5_mixShelf : GoodIn wsX5_digest (wsV RX5 244 RX5 yX5_mixShelf wsX5_mixShelf) := goodIn_app (goodIn_of _ (by decide +kernel)) ggX5_digest_X5_mixShelf
set_option maxRecDepth 20000 in
theorem ggX5_digest_X5_sorts : GoodIn wsX5_digest wsX5_sorts := goodIn_r _ [187, 11, 188, 93, 94, 9, 95, 189, 190, 191, 192, 193, 194, 195, 196, 197, 198, 199, 200, 201, 75, 76, 77, 202, 203, 204, 205, 206, 207, 208, 218, 219, 220, 221, 222, 223, 224, 227, 228, 229, 230, 231, 232, 233, 234, 249, 250, 251] (by decide +kernel) (by decide +kernel)
set_option maxRecDepth 20000 in
theorem gX5_digest_X5_sorts : GoodIn wsX5_digest (wsV RX5 247 RX5 yX5_sorts wsX5_sorts) := goodIn_app (goodIn_of _ (by decide +kernel)) ggX5_digest_X5_sorts
set_option maxRecDepth 20000 in
theorem ggX5_digest_X5_mix : GoodIn wsX5_digest wsX5_mix := goodIn_r _ [21, 22] (by decide +kernel) (by decide +kernel)
set_option maxRecDepth 20000 in
theorem gX5_digest_X5_mix : GoodIn wsX5_digest (va_wsS RX5 250 yX5_mix wsX5_mix) := goodIn_app (goodIn_of _ (by decide +kernel)) ggX5_digest_X5_mix
set_option maxRecDepth 20000 in
theorem ggX5_digest_X5_count : GoodIn wsX5_digest wsX5_count := goodIn_r _ [212, 11, 12, 63, 213, 214, 215, 122, 123, 188, 216, 3, 4, 217, 218, 219, 220, 221, 222, 223, 224, 227, 228, 229, 230, 231, 232, 233, 234, 235, 236, 237, 238, 239, 240, 241, 242, 243, 244, 245, 246, 247, 248, 249, 250, 251, 225, 226] (by decide +kernel) (by decide +kernel)
set_option maxRecDepth 20000 in
theorem gX5_digest_X5_count : GoodIn wsX5_digest (wsV RX5 257 RX5 yX5_count wsX5_count) := goodIn_app (goodIn_of _ (by decide +kernel)) ggX5_digest_X5_count
theorem dX5_digest_0 : decode cX5_digest 0 = .ok (.aload_n 0, 1) := by decide +kernel
theorem dX5_digest_1 : decode cX5_digest 1 = .ok (.ldc2_w 238, 3) := by decide +kernel
theorem dX5_digest_4 : decode cX5_digest 4 = .ok (.invokevirtual 240, 3) := by decide +kernel
theorem dX5_digest_7 : decode cX5_digest 7 = .ok (.lstore_n 1, 1) := by decide +kernel
theorem dX5_digest_8 : decode cX5_digest 8 = .ok (.aload_n 0, 1) := by decide +kernel
theorem dX5_digest_9 : decode cX5_digest 9 = .ok (.getfield 73, 3) := by decide +kernel
theorem dX5_digest_12 : decode cX5_digest 12 = .ok (.ifCond .eq 9, 3) := by decide +kernel
theorem dX5_digest_15 : decode cX5_digest 15 = .ok (.aload_n 0, 1) := by decide +kernel
theorem dX5_digest_16 : decode cX5_digest 16 = .ok (.lload_n 1, 1) := by decide +kernel
theorem dX5_digest_17 : decode cX5_digest 17 = .ok (.invokevirtual 244, 3) := by decide +kernel
theorem dX5_digest_20 : decode cX5_digest 20 = .ok (.lstore_n 1, 1) := by decide +kernel
theorem dX5_digest_21 : decode cX5_digest 21 = .ok (.lload_n 1, 1) := by decide +kernel
theorem dX5_digest_22 : decode cX5_digest 22 = .ok (.aload_n 0, 1) := by decide +kernel
theorem dX5_digest_23 : decode cX5_digest 23 = .ok (.bipush 7, 2) := by decide +kernel
theorem dX5_digest_25 : decode cX5_digest 25 = .ok (.iconst 0, 1) := by decide +kernel
theorem dX5_digest_26 : decode cX5_digest 26 = .ok (.invokevirtual 247, 3) := by decide +kernel
theorem dX5_digest_29 : decode cX5_digest 29 = .ok (.i2l, 1) := by decide +kernel
theorem dX5_digest_30 : decode cX5_digest 30 = .ok (.invokestatic 250, 3) := by decide +kernel
theorem dX5_digest_33 : decode cX5_digest 33 = .ok (.lstore_n 1, 1) := by decide +kernel
theorem dX5_digest_34 : decode cX5_digest 34 = .ok (.lload_n 1, 1) := by decide +kernel
theorem dX5_digest_35 : decode cX5_digest 35 = .ok (.aload_n 0, 1) := by decide +kernel
theorem dX5_digest_36 : decode cX5_digest 36 = .ok (.bipush 7, 2) := by decide +kernel
theorem dX5_digest_38 : decode cX5_digest 38 = .ok (.iconst 1, 1) := by decide +kernel
theorem dX5_digest_39 : decode cX5_digest 39 = .ok (.invokevirtual 247, 3) := by decide +kernel
theorem dX5_digest_42 : decode cX5_digest 42 = .ok (.i2l, 1) := by decide +kernel
theorem dX5_digest_43 : decode cX5_digest 43 = .ok (.invokestatic 250, 3) := by decide +kernel
theorem dX5_digest_46 : decode cX5_digest 46 = .ok (.lstore_n 1, 1) := by decide +kernel
theorem dX5_digest_47 : decode cX5_digest 47 = .ok (.iconst 0, 1) := by decide +kernel
theorem dX5_digest_48 : decode cX5_digest 48 = .ok (.istore_n 3, 1) := by decide +kernel
theorem dX5_digest_49 : decode cX5_digest 49 = .ok (.iload_n 3, 1) := by decide +kernel
theorem dX5_digest_50 : decode cX5_digest 50 = .ok (.aload_n 0, 1) := by decide +kernel
theorem dX5_digest_51 : decode cX5_digest 51 = .ok (.getfield 12, 3) := by decide +kernel
theorem dX5_digest_54 : decode cX5_digest 54 = .ok (.getfield 37, 3) := by decide +kernel
theorem dX5_digest_57 : decode cX5_digest 57 = .ok (.if_icmp .ge 24, 3) := by decide +kernel
theorem dX5_digest_60 : decode cX5_digest 60 = .ok (.lload_n 1, 1) := by decide +kernel
theorem dX5_digest_61 : decode cX5_digest 61 = .ok (.aload_n 0, 1) := by decide +kernel
theorem dX5_digest_62 : decode cX5_digest 62 = .ok (.getfield 12, 3) := by decide +kernel
theorem dX5_digest_65 : decode cX5_digest 65 = .ok (.getfield 254, 3) := by decide +kernel
theorem dX5_digest_68 : decode cX5_digest 68 = .ok (.iload_n 3, 1) := by decide +kernel
theorem dX5_digest_69 : decode cX5_digest 69 = .ok (.iaload, 1) := by decide +kernel
theorem dX5_digest_70 : decode cX5_digest 70 = .ok (.i2l, 1) := by decide +kernel
theorem dX5_digest_71 : decode cX5_digest 71 = .ok (.invokestatic 250, 3) := by decide +kernel
theorem dX5_digest_74 : decode cX5_digest 74 = .ok (.lstore_n 1, 1) := by decide +kernel
theorem dX5_digest_75 : decode cX5_digest 75 = .ok (.iinc 3 1, 3) := by decide +kernel
theorem dX5_digest_78 : decode cX5_digest 78 = .ok (.goto (-29), 3) := by decide +kernel
theorem dX5_digest_81 : decode cX5_digest 81 = .ok (.iconst 0, 1) := by decide +kernel
theorem dX5_digest_82 : decode cX5_digest 82 = .ok (.istore_n 3, 1) := by decide +kernel
theorem dX5_digest_83 : decode cX5_digest 83 = .ok (.iload_n 3, 1) := by decide +kernel
theorem dX5_digest_84 : decode cX5_digest 84 = .ok (.bipush 7, 2) := by decide +kernel
theorem dX5_digest_86 : decode cX5_digest 86 = .ok (.if_icmp .gt 20, 3) := by decide +kernel
theorem dX5_digest_89 : decode cX5_digest 89 = .ok (.lload_n 1, 1) := by decide +kernel
theorem dX5_digest_90 : decode cX5_digest 90 = .ok (.aload_n 0, 1) := by decide +kernel
theorem dX5_digest_91 : decode cX5_digest 91 = .ok (.iload_n 3, 1) := by decide +kernel
theorem dX5_digest_92 : decode cX5_digest 92 = .ok (.invokevirtual 257, 3) := by decide +kernel
theorem dX5_digest_95 : decode cX5_digest 95 = .ok (.i2l, 1) := by decide +kernel
theorem dX5_digest_96 : decode cX5_digest 96 = .ok (.invokestatic 250, 3) := by decide +kernel
theorem dX5_digest_99 : decode cX5_digest 99 = .ok (.lstore_n 1, 1) := by decide +kernel
theorem dX5_digest_100 : decode cX5_digest 100 = .ok (.iinc 3 1, 3) := by decide +kernel
theorem dX5_digest_103 : decode cX5_digest 103 = .ok (.goto (-20), 3) := by decide +kernel
theorem dX5_digest_106 : decode cX5_digest 106 = .ok (.lload_n 1, 1) := by decide +kernel
theorem dX5_digest_107 : decode cX5_digest 107 = .ok (.lreturn, 1) := by decide +kernel
set_option maxRecDepth 20000 in
theorem ggX5_mixEntries_X4_has : GoodIn wsX5_mixEntries wsX4_has := goodIn_r _ [7, 8, 60, 61, 62, 63, 64, 65, 66, 67, 68, 69, 70, 71] (by decide +kernel) (by decide +kernel)
set_option maxRecDepth 20000 in
theorem gX5_mixEntries_X4_has : GoodIn wsX5_mixEntries (wsV RX5 89 RX4 yX4_has wsX4_has) := goodIn_app (goodIn_of _ (by decide +kernel)) ggX5_mixEntries_X4_has
set_option maxRecDepth 20000 in
theorem ggX5_mixEntries_X5_mix : GoodIn wsX5_mixEntries wsX5_mix := goodIn_r _ [12, 13] (by decide +kernel) (by decide +kernel)
set_option maxRecDepth 20000 in
theorem gX5_mixEntries_X5_mix : GoodIn wsX5_mixEntries (va_wsS RX5 250 yX5_mix wsX5_mix) := goodIn_app (goodIn_of _ (by decide +kernel)) ggX5_mixEntries_X5_mix
set_option maxRecDepth 20000 in
theorem ggX5_mixEntries_X5_entry : GoodIn wsX5_mixEntries wsX5_entry := goodIn_r _ [17, 1, 2, 18, 19, 20, 21, 22, 3, 4, 5, 6, 7, 8, 23, 24, 25, 26, 27, 28, 29, 30, 31, 32, 33, 34, 35, 36, 37, 38, 39, 40, 41, 42, 43, 44, 45, 46, 47, 48, 49, 50, 51, 52, 53, 54, 55, 56, 57, 58, 59, 60, 61, 62, 63, 64, 65, 66, 67, 68, 69, 70, 71] (by decide +kernel) (by decide +kernel)
set_option maxRecDepth 20000 in
theorem gX5_mixEntries_X5_entry : GoodIn wsX5_mixEntries (wsV RX5 260 RX5 yX5_entry wsX5_entry) := goodIn_app (goodIn_of _ (by decide +kernel)) ggX5_mixEntries_X5_entry
theorem dX5_mixEntries_0 : decode cX5_mixEntries 0 = .ok (.lload_n 1, 1) := by decide +kernel
theorem dX5_mixEntries_1 : decode cX5_mixEntries 1 = .ok (.lstore_n 3, 1) := by decide +kernel
theorem dX5_mixEntries_2 : decode cX5_mixEntries 2 = .ok (.iconst 0, 1) := by decide +kernel
theorem dX5_mixEntries_3 : decode cX5_mixEntries 3 = .ok (.istore 5, 2) := by decide +kernel
theorem dX5_mixEntries_5 : decode cX5_mixEntries 5 = .ok (.iload 5, 2) := by decide +kernel
theorem dX5_mixEntries_7 : decode cX5_mixEntries 7 = .ok (.bipush 100, 2) := by decide +kernel
theorem dX5_mixEntries_9 : decode cX5_mixEntries 9 = .ok (.if_icmp .ge 62, 3) := by decide +kernel
theorem dX5_mixEntries_12 : decode cX5_mixEntries 12 = .ok (.aload_n 0, 1) := by decide +kernel
theorem dX5_mixEntries_13 : decode cX5_mixEntries 13 = .ok (.getfield 19, 3) := by decide +kernel
theorem dX5_mixEntries_16 : decode cX5_mixEntries 16 = .ok (.getfield 83, 3) := by decide +kernel
theorem dX5_mixEntries_19 : decode cX5_mixEntries 19 = .ok (.iload 5, 2) := by decide +kernel
theorem dX5_mixEntries_21 : decode cX5_mixEntries 21 = .ok (.invokevirtual 89, 3) := by decide +kernel
theorem dX5_mixEntries_24 : decode cX5_mixEntries 24 = .ok (.ifCond .eq 41, 3) := by decide +kernel
theorem dX5_mixEntries_27 : decode cX5_mixEntries 27 = .ok (.lload_n 3, 1) := by decide +kernel
theorem dX5_mixEntries_28 : decode cX5_mixEntries 28 = .ok (.iload 5, 2) := by decide +kernel
theorem dX5_mixEntries_30 : decode cX5_mixEntries 30 = .ok (.i2l, 1) := by decide +kernel
theorem dX5_mixEntries_31 : decode cX5_mixEntries 31 = .ok (.invokestatic 250, 3) := by decide +kernel
theorem dX5_mixEntries_34 : decode cX5_mixEntries 34 = .ok (.lstore_n 3, 1) := by decide +kernel
theorem dX5_mixEntries_35 : decode cX5_mixEntries 35 = .ok (.iconst 0, 1) := by decide +kernel
theorem dX5_mixEntries_36 : decode cX5_mixEntries 36 = .ok (.istore 6, 2) := by decide +kernel
theorem dX5_mixEntries_38 : decode cX5_mixEntries 38 = .ok (.iload 6, 2) := by decide +kernel
theorem dX5_mixEntries_40 : decode cX5_mixEntries 40 = .ok (.bipush 6, 2) := by decide +kernel
theorem dX5_mixEntries_42 : decode cX5_mixEntries 42 = .ok (.if_icmp .gt 23, 3) := by decide +kernel
theorem dX5_mixEntries_45 : decode cX5_mixEntries 45 = .ok (.lload_n 3, 1) := by decide +kernel
theorem dX5_mixEntries_46 : decode cX5_mixEntries 46 = .ok (.aload_n 0, 1) := by decide +kernel
theorem dX5_mixEntries_47 : decode cX5_mixEntries 47 = .ok (.iload 5, 2) := by decide +kernel
theorem dX5_mixEntries_49 : decode cX5_mixEntries 49 = .ok (.iload 6, 2) := by decide +kernel
theorem dX5_mixEntries_51 : decode cX5_mixEntries 51 = .ok (.invokevirtual 260, 3) := by decide +kernel
theorem dX5_mixEntries_54 : decode cX5_mixEntries 54 = .ok (.i2l, 1) := by decide +kernel
theorem dX5_mixEntries_55 : decode cX5_mixEntries 55 = .ok (.invokestatic 250, 3) := by decide +kernel
theorem dX5_mixEntries_58 : decode cX5_mixEntries 58 = .ok (.lstore_n 3, 1) := by decide +kernel
theorem dX5_mixEntries_59 : decode cX5_mixEntries 59 = .ok (.iinc 6 1, 3) := by decide +kernel
theorem dX5_mixEntries_62 : decode cX5_mixEntries 62 = .ok (.goto (-24), 3) := by decide +kernel
theorem dX5_mixEntries_65 : decode cX5_mixEntries 65 = .ok (.iinc 5 1, 3) := by decide +kernel
theorem dX5_mixEntries_68 : decode cX5_mixEntries 68 = .ok (.goto (-63), 3) := by decide +kernel
theorem dX5_mixEntries_71 : decode cX5_mixEntries 71 = .ok (.lload_n 3, 1) := by decide +kernel
theorem dX5_mixEntries_72 : decode cX5_mixEntries 72 = .ok (.lreturn, 1) := by decide +kernel
set_option maxRecDepth 20000 in
theorem ggX5_mixShelf_X5_ledger : GoodIn wsX5_mixShelf wsX5_ledger := goodIn_r _ [8, 9, 1, 2, 10, 11, 12, 13, 14, 15, 16, 17, 18, 19, 20, 21, 22, 23, 24, 25, 26, 27, 28, 29, 30, 31, 32, 33, 34, 35, 36, 37, 38, 39, 40, 41, 42, 43, 44, 154, 155, 156, 157, 158, 159, 160, 161, 162, 163, 164, 165, 166, 167, 168, 169, 170, 171, 172, 173, 174, 175, 176, 177, 178, 179, 180] (by decide +kernel) (by decide +kernel)
set_option maxRecDepth 20000 in
theorem gX5_mixShelf_X5_ledger : GoodIn wsX5_mixShelf (wsV RX5 263 RX5 yX5_ledger wsX5_ledger) := goodIn_app (goodIn_of _ (by decide +kernel)) ggX5_mixShelf_X5_ledger
set_option maxRecDepth 20000 in
theorem ggX5_mixShelf_X5_mix : GoodIn wsX5_mixShelf wsX5_mix := goodIn_r _ [47, 48] (by decide +kernel) (by decide +kernel)
set_option maxRecDepth 20000 in
theorem gX5_mixShelf_X5_mix : GoodIn wsX5_mixShelf (va_wsS RX5 250 yX5_mix wsX5_mix) := goodIn_app (goodIn_of _ (by decide +kernel)) ggX5_mixShelf_X5_mix
set_option maxRecDepth 20000 in
theorem ggX5_mixShelf_X4_isFull : GoodIn wsX5_mixShelf wsX4_isFull := goodIn_r _ [52, 53, 169, 170, 171, 172, 173, 174, 175, 176, 177, 178, 179, 180] (by decide +kernel) (by decide +kernel)
set_option maxRecDepth 20000 in
theorem gX5_mixShelf_X4_isFull : GoodIn wsX5_mixShelf (wsV RX5 127 RX4 yX4_isFull wsX4_isFull) := goodIn_app (goodIn_of _ (by decide +kernel)) ggX5_mixShelf_X4_isFull
set_option maxRecDepth 20000 in
theorem ggX5_mixShelf_X5_would : GoodIn wsX5_mixShelf wsX5_would := goodIn_r _ [57, 9, 1, 2, 58, 59, 7, 60, 49, 50, 51, 20, 52, 53, 61, 27, 28, 29, 30, 62, 63, 64, 65, 36, 31, 32, 33, 34, 35, 37, 38, 26, 66, 67, 68, 69, 70, 71, 24, 72, 43, 22, 23, 25, 44, 73, 40, 41, 42, 154, 155, 156, 157, 158, 159, 160, 161, 162, 163, 164, 165, 166, 167, 168, 169, 170, 171, 172, 173, 174, 175, 176, 177, 178, 179, 180] (by decide +kernel) (by decide +kernel)
set_option maxRecDepth 20000 in
theorem gX5_mixShelf_X5_would : GoodIn wsX5_mixShelf (wsV RX5 268 RX5 yX5_would wsX5_would) := goodIn_app (goodIn_of _ (by decide +kernel)) ggX5_mixShelf_X5_would
set_option maxRecDepth 20000 in
theorem ggX5_mixShelf_X5_ahead : GoodIn wsX5_mixShelf wsX5_ahead := goodIn_r _ [77, 9, 1, 2, 10, 78, 79, 80, 20, 81, 43, 44, 82, 154, 155, 156, 157, 158, 159, 160, 161, 162, 163, 164, 165, 166, 167, 168, 169, 170, 171, 172, 173, 174, 175, 176, 177, 178, 179, 180] (by decide +kernel) (by decide +kernel)
set_option maxRecDepth 20000 in
theorem gX5_mixShelf_X5_ahead : GoodIn wsX5_mixShelf (wsV RX5 271 RX5 yX5_ahead wsX5_ahead) := goodIn_app (goodIn_of _ (by decide +kernel)) ggX5_mixShelf_X5_ahead
set_option maxRecDepth 20000 in
theorem ggX5_mixShelf_X5_replay : GoodIn wsX5_mixShelf wsX5_replay := goodIn_r _ [86, 9, 87, 1, 88, 89, 90, 16, 91, 92, 7, 93, 94, 95, 96, 20, 97, 30, 35, 44, 43, 53, 82, 98, 99, 100, 101, 102, 103, 104, 105, 106, 107, 26, 27, 28, 29, 108, 109, 110, 111, 31, 32, 33, 34, 36, 37, 38, 112, 113, 114, 115, 116, 117, 118, 119, 120, 121, 122, 123, 124, 125, 126, 127, 128, 129, 130, 131, 132, 79, 80, 81, 133, 134, 135, 136, 137, 138, 139, 140, 141, 142, 143, 144, 145, 146, 147, 148, 149, 50, 51, 52, 150, 151, 152, 153, 22, 23, 24, 25, 66, 67, 68, 69, 70, 71, 72, 73, 40, 41, 42, 17, 18, 19, 21, 154, 155, 156, 157, 158, 159, 160, 161, 162, 163, 164, 165, 166, 167, 168, 181, 182, 169, 170, 171, 172, 173, 174, 175, 176, 177, 178, 179, 180] (by decide +kernel) (by decide +kernel)
set_option maxRecDepth 20000 in
theorem gX5_mixShelf_X5_replay : GoodIn wsX5_mixShelf (wsV RX5 274 RX5 yX5_replay wsX5_replay) := goodIn_app (goodIn_of _ (by decide +kernel)) ggX5_mixShelf_X5_replay
theorem dX5_mixShelf_0 : decode cX5_mixShelf 0 = .ok (.lload_n 1, 1) := by decide +kernel
theorem dX5_mixShelf_1 : decode cX5_mixShelf 1 = .ok (.lstore_n 3, 1) := by decide +kernel
theorem dX5_mixShelf_2 : decode cX5_mixShelf 2 = .ok (.iconst 0, 1) := by decide +kernel
theorem dX5_mixShelf_3 : decode cX5_mixShelf 3 = .ok (.istore 5, 2) := by decide +kernel
theorem dX5_mixShelf_5 : decode cX5_mixShelf 5 = .ok (.iload 5, 2) := by decide +kernel
theorem dX5_mixShelf_7 : decode cX5_mixShelf 7 = .ok (.bipush 6, 2) := by decide +kernel
theorem dX5_mixShelf_9 : decode cX5_mixShelf 9 = .ok (.if_icmp .gt 21, 3) := by decide +kernel
theorem dX5_mixShelf_12 : decode cX5_mixShelf 12 = .ok (.lload_n 3, 1) := by decide +kernel
theorem dX5_mixShelf_13 : decode cX5_mixShelf 13 = .ok (.aload_n 0, 1) := by decide +kernel
theorem dX5_mixShelf_14 : decode cX5_mixShelf 14 = .ok (.iload 5, 2) := by decide +kernel
theorem dX5_mixShelf_16 : decode cX5_mixShelf 16 = .ok (.invokevirtual 263, 3) := by decide +kernel
theorem dX5_mixShelf_19 : decode cX5_mixShelf 19 = .ok (.i2l, 1) := by decide +kernel
theorem dX5_mixShelf_20 : decode cX5_mixShelf 20 = .ok (.invokestatic 250, 3) := by decide +kernel
theorem dX5_mixShelf_23 : decode cX5_mixShelf 23 = .ok (.lstore_n 3, 1) := by decide +kernel
theorem dX5_mixShelf_24 : decode cX5_mixShelf 24 = .ok (.iinc 5 1, 3) := by decide +kernel
theorem dX5_mixShelf_27 : decode cX5_mixShelf 27 = .ok (.goto (-22), 3) := by decide +kernel
theorem dX5_mixShelf_30 : decode cX5_mixShelf 30 = .ok (.lload_n 3, 1) := by decide +kernel
theorem dX5_mixShelf_31 : decode cX5_mixShelf 31 = .ok (.aload_n 0, 1) := by decide +kernel
theorem dX5_mixShelf_32 : decode cX5_mixShelf 32 = .ok (.getfield 19, 3) := by decide +kernel
theorem dX5_mixShelf_35 : decode cX5_mixShelf 35 = .ok (.getfield 83, 3) := by decide +kernel
theorem dX5_mixShelf_38 : decode cX5_mixShelf 38 = .ok (.invokevirtual 127, 3) := by decide +kernel
theorem dX5_mixShelf_41 : decode cX5_mixShelf 41 = .ok (.ifCond .eq 9, 3) := by decide +kernel
theorem dX5_mixShelf_44 : decode cX5_mixShelf 44 = .ok (.ldc2_w 266, 3) := by decide +kernel
theorem dX5_mixShelf_47 : decode cX5_mixShelf 47 = .ok (.goto 10, 3) := by decide +kernel
theorem dX5_mixShelf_50 : decode cX5_mixShelf 50 = .ok (.aload_n 0, 1) := by decide +kernel
theorem dX5_mixShelf_51 : decode cX5_mixShelf 51 = .ok (.bipush 50, 2) := by decide +kernel
theorem dX5_mixShelf_53 : decode cX5_mixShelf 53 = .ok (.invokevirtual 268, 3) := by decide +kernel
theorem dX5_mixShelf_56 : decode cX5_mixShelf 56 = .ok (.i2l, 1) := by decide +kernel
theorem dX5_mixShelf_57 : decode cX5_mixShelf 57 = .ok (.invokestatic 250, 3) := by decide +kernel
theorem dX5_mixShelf_60 : decode cX5_mixShelf 60 = .ok (.lstore_n 3, 1) := by decide +kernel
theorem dX5_mixShelf_61 : decode cX5_mixShelf 61 = .ok (.lload_n 3, 1) := by decide +kernel
theorem dX5_mixShelf_62 : decode cX5_mixShelf 62 = .ok (.aload_n 0, 1) := by decide +kernel
theorem dX5_mixShelf_63 : decode cX5_mixShelf 63 = .ok (.invokevirtual 271, 3) := by decide +kernel
theorem dX5_mixShelf_66 : decode cX5_mixShelf 66 = .ok (.i2l, 1) := by decide +kernel
theorem dX5_mixShelf_67 : decode cX5_mixShelf 67 = .ok (.invokestatic 250, 3) := by decide +kernel
theorem dX5_mixShelf_70 : decode cX5_mixShelf 70 = .ok (.lstore_n 3, 1) := by decide +kernel
theorem dX5_mixShelf_71 : decode cX5_mixShelf 71 = .ok (.lload_n 3, 1) := by decide +kernel
theorem dX5_mixShelf_72 : decode cX5_mixShelf 72 = .ok (.aload_n 0, 1) := by decide +kernel
theorem dX5_mixShelf_73 : decode cX5_mixShelf 73 = .ok (.iconst 2, 1) := by decide +kernel
theorem dX5_mixShelf_74 : decode cX5_mixShelf 74 = .ok (.iconst 3, 1) := by decide +kernel
theorem dX5_mixShelf_75 : decode cX5_mixShelf 75 = .ok (.iconst 0, 1) := by decide +kernel
theorem dX5_mixShelf_76 : decode cX5_mixShelf 76 = .ok (.invokevirtual 274, 3) := by decide +kernel
theorem dX5_mixShelf_79 : decode cX5_mixShelf 79 = .ok (.i2l, 1) := by decide +kernel
theorem dX5_mixShelf_80 : decode cX5_mixShelf 80 = .ok (.invokestatic 250, 3) := by decide +kernel
theorem dX5_mixShelf_83 : decode cX5_mixShelf 83 = .ok (.lstore_n 3, 1) := by decide +kernel
theorem dX5_mixShelf_84 : decode cX5_mixShelf 84 = .ok (.lload_n 3, 1) := by decide +kernel
theorem dX5_mixShelf_85 : decode cX5_mixShelf 85 = .ok (.aload_n 0, 1) := by decide +kernel
theorem dX5_mixShelf_86 : decode cX5_mixShelf 86 = .ok (.iconst 2, 1) := by decide +kernel
theorem dX5_mixShelf_87 : decode cX5_mixShelf 87 = .ok (.iconst 3, 1) := by decide +kernel
theorem dX5_mixShelf_88 : decode cX5_mixShelf 88 = .ok (.iconst 1, 1) := by decide +kernel
theorem dX5_mixShelf_89 : decode cX5_mixShelf 89 = .ok (.invokevirtual 274, 3) := by decide +kernel
theorem dX5_mixShelf_92 : decode cX5_mixShelf 92 = .ok (.i2l, 1) := by decide +kernel
theorem dX5_mixShelf_93 : decode cX5_mixShelf 93 = .ok (.invokestatic 250, 3) := by decide +kernel
theorem dX5_mixShelf_96 : decode cX5_mixShelf 96 = .ok (.lreturn, 1) := by decide +kernel
theorem dX5_mix_0 : decode cX5_mix 0 = .ok (.ldc2_w 277, 3) := by decide +kernel
theorem dX5_mix_3 : decode cX5_mix 3 = .ok (.lload_n 0, 1) := by decide +kernel
theorem dX5_mix_4 : decode cX5_mix 4 = .ok (.lmul, 1) := by decide +kernel
theorem dX5_mix_5 : decode cX5_mix 5 = .ok (.lload_n 2, 1) := by decide +kernel
theorem dX5_mix_6 : decode cX5_mix 6 = .ok (.ladd, 1) := by decide +kernel
theorem dX5_mix_7 : decode cX5_mix 7 = .ok (.lreturn, 1) := by decide +kernel
theorem dX5_isNoKey_0 : decode cX5_isNoKey 0 = .ok (.iload_n 0, 1) := by decide +kernel
theorem dX5_isNoKey_1 : decode cX5_isNoKey 1 = .ok (.ifCond .lt 9, 3) := by decide +kernel
theorem dX5_isNoKey_4 : decode cX5_isNoKey 4 = .ok (.iload_n 0, 1) := by decide +kernel
theorem dX5_isNoKey_5 : decode cX5_isNoKey 5 = .ok (.bipush 100, 2) := by decide +kernel
theorem dX5_isNoKey_7 : decode cX5_isNoKey 7 = .ok (.if_icmp .lt 7, 3) := by decide +kernel
theorem dX5_isNoKey_10 : decode cX5_isNoKey 10 = .ok (.iconst 1, 1) := by decide +kernel
theorem dX5_isNoKey_11 : decode cX5_isNoKey 11 = .ok (.goto 4, 3) := by decide +kernel
theorem dX5_isNoKey_14 : decode cX5_isNoKey 14 = .ok (.iconst 0, 1) := by decide +kernel
theorem dX5_isNoKey_15 : decode cX5_isNoKey 15 = .ok (.ireturn, 1) := by decide +kernel
theorem dX5_isRatio_0 : decode cX5_isRatio 0 = .ok (.iload_n 0, 1) := by decide +kernel
theorem dX5_isRatio_1 : decode cX5_isRatio 1 = .ok (.iconst 2, 1) := by decide +kernel
theorem dX5_isRatio_2 : decode cX5_isRatio 2 = .ok (.if_icmp .lt 24, 3) := by decide +kernel
theorem dX5_isRatio_5 : decode cX5_isRatio 5 = .ok (.iload_n 0, 1) := by decide +kernel
theorem dX5_isRatio_6 : decode cX5_isRatio 6 = .ok (.iload_n 1, 1) := by decide +kernel
theorem dX5_isRatio_7 : decode cX5_isRatio 7 = .ok (.if_icmp .ge 19, 3) := by decide +kernel
theorem dX5_isRatio_10 : decode cX5_isRatio 10 = .ok (.iload_n 1, 1) := by decide +kernel
theorem dX5_isRatio_11 : decode cX5_isRatio 11 = .ok (.iconst 5, 1) := by decide +kernel
theorem dX5_isRatio_12 : decode cX5_isRatio 12 = .ok (.if_icmp .gt 14, 3) := by decide +kernel
theorem dX5_isRatio_15 : decode cX5_isRatio 15 = .ok (.iconst 2, 1) := by decide +kernel
theorem dX5_isRatio_16 : decode cX5_isRatio 16 = .ok (.iload_n 0, 1) := by decide +kernel
theorem dX5_isRatio_17 : decode cX5_isRatio 17 = .ok (.imul, 1) := by decide +kernel
theorem dX5_isRatio_18 : decode cX5_isRatio 18 = .ok (.iload_n 1, 1) := by decide +kernel
theorem dX5_isRatio_19 : decode cX5_isRatio 19 = .ok (.if_icmp .le 7, 3) := by decide +kernel
theorem dX5_isRatio_22 : decode cX5_isRatio 22 = .ok (.iconst 1, 1) := by decide +kernel
theorem dX5_isRatio_23 : decode cX5_isRatio 23 = .ok (.goto 4, 3) := by decide +kernel
theorem dX5_isRatio_26 : decode cX5_isRatio 26 = .ok (.iconst 0, 1) := by decide +kernel
theorem dX5_isRatio_27 : decode cX5_isRatio 27 = .ok (.ireturn, 1) := by decide +kernel
theorem dX5_isOf_0 : decode cX5_isOf 0 = .ok (.iload_n 1, 1) := by decide +kernel
theorem dX5_isOf_1 : decode cX5_isOf 1 = .ok (.ifCond .eq 18, 3) := by decide +kernel
theorem dX5_isOf_4 : decode cX5_isOf 4 = .ok (.iload_n 0, 1) := by decide +kernel
theorem dX5_isOf_5 : decode cX5_isOf 5 = .ok (.iload_n 1, 1) := by decide +kernel
theorem dX5_isOf_6 : decode cX5_isOf 6 = .ok (.if_icmp .eq 13, 3) := by decide +kernel
theorem dX5_isOf_9 : decode cX5_isOf 9 = .ok (.iload_n 0, 1) := by decide +kernel
theorem dX5_isOf_10 : decode cX5_isOf 10 = .ok (.iconst 4, 1) := by decide +kernel
theorem dX5_isOf_11 : decode cX5_isOf 11 = .ok (.if_icmp .ne 12, 3) := by decide +kernel
theorem dX5_isOf_14 : decode cX5_isOf 14 = .ok (.iload_n 1, 1) := by decide +kernel
theorem dX5_isOf_15 : decode cX5_isOf 15 = .ok (.iconst 1, 1) := by decide +kernel
theorem dX5_isOf_16 : decode cX5_isOf 16 = .ok (.if_icmp .ne 7, 3) := by decide +kernel
theorem dX5_isOf_19 : decode cX5_isOf 19 = .ok (.iconst 1, 1) := by decide +kernel
theorem dX5_isOf_20 : decode cX5_isOf 20 = .ok (.goto 4, 3) := by decide +kernel
theorem dX5_isOf_23 : decode cX5_isOf 23 = .ok (.iconst 0, 1) := by decide +kernel
theorem dX5_isOf_24 : decode cX5_isOf 24 = .ok (.ireturn, 1) := by decide +kernel
theorem dX5_isAble_0 : decode cX5_isAble 0 = .ok (.getstatic 193, 3) := by decide +kernel
theorem dX5_isAble_3 : decode cX5_isAble 3 = .ok (.iload_n 1, 1) := by decide +kernel
theorem dX5_isAble_4 : decode cX5_isAble 4 = .ok (.iaload, 1) := by decide +kernel
theorem dX5_isAble_5 : decode cX5_isAble 5 = .ok (.iconst 1, 1) := by decide +kernel
theorem dX5_isAble_6 : decode cX5_isAble 6 = .ok (.iload_n 0, 1) := by decide +kernel
theorem dX5_isAble_7 : decode cX5_isAble 7 = .ok (.ishl, 1) := by decide +kernel
theorem dX5_isAble_8 : decode cX5_isAble 8 = .ok (.iand, 1) := by decide +kernel
theorem dX5_isAble_9 : decode cX5_isAble 9 = .ok (.ifCond .eq 7, 3) := by decide +kernel
theorem dX5_isAble_12 : decode cX5_isAble 12 = .ok (.iconst 1, 1) := by decide +kernel
theorem dX5_isAble_13 : decode cX5_isAble 13 = .ok (.goto 4, 3) := by decide +kernel
theorem dX5_isAble_16 : decode cX5_isAble 16 = .ok (.iconst 0, 1) := by decide +kernel
theorem dX5_isAble_17 : decode cX5_isAble 17 = .ok (.ireturn, 1) := by decide +kernel
set_option maxRecDepth 20000 in
theorem ggX5_bestAsk_J6_bitCount_0f7a4 : GoodIn wsX5_bestAsk wsJ6_bitCount_0f7a4 := goodIn_r _ [9, 10, 11, 12] (by decide +kernel) (by decide +kernel)
set_option maxRecDepth 20000 in
theorem gX5_bestAsk_J6_bitCount_0f7a4 : GoodIn wsX5_bestAsk (va_wsS RX5 279 yJ6_bitCount_0f7a4 wsJ6_bitCount_0f7a4) := goodIn_app (goodIn_of _ (by decide +kernel)) ggX5_bestAsk_J6_bitCount_0f7a4
theorem dX5_bestAsk_0 : decode cX5_bestAsk 0 = .ok (.iload_n 0, 1) := by decide +kernel
theorem dX5_bestAsk_1 : decode cX5_bestAsk 1 = .ok (.ifCond .ne 5, 3) := by decide +kernel
theorem dX5_bestAsk_4 : decode cX5_bestAsk 4 = .ok (.iconst (-1), 1) := by decide +kernel
theorem dX5_bestAsk_5 : decode cX5_bestAsk 5 = .ok (.ireturn, 1) := by decide +kernel
theorem dX5_bestAsk_6 : decode cX5_bestAsk 6 = .ok (.iconst (-1), 1) := by decide +kernel
theorem dX5_bestAsk_7 : decode cX5_bestAsk 7 = .ok (.istore_n 1, 1) := by decide +kernel
theorem dX5_bestAsk_8 : decode cX5_bestAsk 8 = .ok (.bipush 6, 2) := by decide +kernel
theorem dX5_bestAsk_10 : decode cX5_bestAsk 10 = .ok (.istore_n 2, 1) := by decide +kernel
theorem dX5_bestAsk_11 : decode cX5_bestAsk 11 = .ok (.iconst 0, 1) := by decide +kernel
theorem dX5_bestAsk_12 : decode cX5_bestAsk 12 = .ok (.istore_n 3, 1) := by decide +kernel
theorem dX5_bestAsk_13 : decode cX5_bestAsk 13 = .ok (.iload_n 3, 1) := by decide +kernel
theorem dX5_bestAsk_14 : decode cX5_bestAsk 14 = .ok (.getstatic 193, 3) := by decide +kernel
theorem dX5_bestAsk_17 : decode cX5_bestAsk 17 = .ok (.arraylength, 1) := by decide +kernel
theorem dX5_bestAsk_18 : decode cX5_bestAsk 18 = .ok (.if_icmp .ge 47, 3) := by decide +kernel
theorem dX5_bestAsk_21 : decode cX5_bestAsk 21 = .ok (.iload_n 0, 1) := by decide +kernel
theorem dX5_bestAsk_22 : decode cX5_bestAsk 22 = .ok (.getstatic 193, 3) := by decide +kernel
theorem dX5_bestAsk_25 : decode cX5_bestAsk 25 = .ok (.iload_n 3, 1) := by decide +kernel
theorem dX5_bestAsk_26 : decode cX5_bestAsk 26 = .ok (.iaload, 1) := by decide +kernel
theorem dX5_bestAsk_27 : decode cX5_bestAsk 27 = .ok (.iand, 1) := by decide +kernel
theorem dX5_bestAsk_28 : decode cX5_bestAsk 28 = .ok (.invokestatic 279, 3) := by decide +kernel
theorem dX5_bestAsk_31 : decode cX5_bestAsk 31 = .ok (.iload_n 0, 1) := by decide +kernel
theorem dX5_bestAsk_32 : decode cX5_bestAsk 32 = .ok (.getstatic 193, 3) := by decide +kernel
theorem dX5_bestAsk_35 : decode cX5_bestAsk 35 = .ok (.iload_n 3, 1) := by decide +kernel
theorem dX5_bestAsk_36 : decode cX5_bestAsk 36 = .ok (.iaload, 1) := by decide +kernel
theorem dX5_bestAsk_37 : decode cX5_bestAsk 37 = .ok (.iconst (-1), 1) := by decide +kernel
theorem dX5_bestAsk_38 : decode cX5_bestAsk 38 = .ok (.ixor, 1) := by decide +kernel
theorem dX5_bestAsk_39 : decode cX5_bestAsk 39 = .ok (.iand, 1) := by decide +kernel
theorem dX5_bestAsk_40 : decode cX5_bestAsk 40 = .ok (.invokestatic 279, 3) := by decide +kernel
theorem dX5_bestAsk_43 : decode cX5_bestAsk 43 = .ok (.invokestatic 284, 3) := by decide +kernel
theorem dX5_bestAsk_46 : decode cX5_bestAsk 46 = .ok (.istore 4, 2) := by decide +kernel
theorem dX5_bestAsk_48 : decode cX5_bestAsk 48 = .ok (.iload 4, 2) := by decide +kernel
theorem dX5_bestAsk_50 : decode cX5_bestAsk 50 = .ok (.iload_n 2, 1) := by decide +kernel
theorem dX5_bestAsk_51 : decode cX5_bestAsk 51 = .ok (.if_icmp .ge 8, 3) := by decide +kernel
theorem dX5_bestAsk_54 : decode cX5_bestAsk 54 = .ok (.iload_n 3, 1) := by decide +kernel
theorem dX5_bestAsk_55 : decode cX5_bestAsk 55 = .ok (.istore_n 1, 1) := by decide +kernel
theorem dX5_bestAsk_56 : decode cX5_bestAsk 56 = .ok (.iload 4, 2) := by decide +kernel
theorem dX5_bestAsk_58 : decode cX5_bestAsk 58 = .ok (.istore_n 2, 1) := by decide +kernel
theorem dX5_bestAsk_59 : decode cX5_bestAsk 59 = .ok (.iinc 3 1, 3) := by decide +kernel
theorem dX5_bestAsk_62 : decode cX5_bestAsk 62 = .ok (.goto (-49), 3) := by decide +kernel
theorem dX5_bestAsk_65 : decode cX5_bestAsk 65 = .ok (.iload_n 1, 1) := by decide +kernel
theorem dX5_bestAsk_66 : decode cX5_bestAsk 66 = .ok (.ireturn, 1) := by decide +kernel
theorem dX6_init_0 : decode cX6_init 0 = .ok (.aload_n 0, 1) := by decide +kernel
theorem dX6_init_1 : decode cX6_init 1 = .ok (.invokespecial 1, 3) := by decide +kernel
theorem dX6_init_4 : decode cX6_init 4 = .ok (.aload_n 0, 1) := by decide +kernel
theorem dX6_init_5 : decode cX6_init 5 = .ok (.bipush 54, 2) := by decide +kernel
theorem dX6_init_7 : decode cX6_init 7 = .ok (.newarray .int, 2) := by decide +kernel
theorem dX6_init_9 : decode cX6_init 9 = .ok (.putfield 7, 3) := by decide +kernel
theorem dX6_init_12 : decode cX6_init 12 = .ok (.aload_n 0, 1) := by decide +kernel
theorem dX6_init_13 : decode cX6_init 13 = .ok (.sipush 200, 3) := by decide +kernel
theorem dX6_init_16 : decode cX6_init 16 = .ok (.newarray .int, 2) := by decide +kernel
theorem dX6_init_18 : decode cX6_init 18 = .ok (.putfield 13, 3) := by decide +kernel
theorem dX6_init_21 : decode cX6_init 21 = .ok (.aload_n 0, 1) := by decide +kernel
theorem dX6_init_22 : decode cX6_init 22 = .ok (.sipush 200, 3) := by decide +kernel
theorem dX6_init_25 : decode cX6_init 25 = .ok (.newarray .int, 2) := by decide +kernel
theorem dX6_init_27 : decode cX6_init 27 = .ok (.putfield 16, 3) := by decide +kernel
theorem dX6_init_30 : decode cX6_init 30 = .ok (.aload_n 0, 1) := by decide +kernel
theorem dX6_init_31 : decode cX6_init 31 = .ok (.sipush 200, 3) := by decide +kernel
theorem dX6_init_34 : decode cX6_init 34 = .ok (.newarray .int, 2) := by decide +kernel
theorem dX6_init_36 : decode cX6_init 36 = .ok (.putfield 19, 3) := by decide +kernel
theorem dX6_init_39 : decode cX6_init 39 = .ok (.aload_n 0, 1) := by decide +kernel
theorem dX6_init_40 : decode cX6_init 40 = .ok (.sipush 200, 3) := by decide +kernel
theorem dX6_init_43 : decode cX6_init 43 = .ok (.newarray .int, 2) := by decide +kernel
theorem dX6_init_45 : decode cX6_init 45 = .ok (.putfield 22, 3) := by decide +kernel
theorem dX6_init_48 : decode cX6_init 48 = .ok (.aload_n 0, 1) := by decide +kernel
theorem dX6_init_49 : decode cX6_init 49 = .ok (.iconst 2, 1) := by decide +kernel
theorem dX6_init_50 : decode cX6_init 50 = .ok (.newarray .int, 2) := by decide +kernel
theorem dX6_init_52 : decode cX6_init 52 = .ok (.putfield 25, 3) := by decide +kernel
theorem dX6_init_55 : decode cX6_init 55 = .ok (.aload_n 0, 1) := by decide +kernel
theorem dX6_init_56 : decode cX6_init 56 = .ok (.iconst 2, 1) := by decide +kernel
theorem dX6_init_57 : decode cX6_init 57 = .ok (.newarray .int, 2) := by decide +kernel
theorem dX6_init_59 : decode cX6_init 59 = .ok (.putfield 28, 3) := by decide +kernel
theorem dX6_init_62 : decode cX6_init 62 = .ok (.aload_n 0, 1) := by decide +kernel
theorem dX6_init_63 : decode cX6_init 63 = .ok (.iconst 2, 1) := by decide +kernel
theorem dX6_init_64 : decode cX6_init 64 = .ok (.newarray .int, 2) := by decide +kernel
theorem dX6_init_66 : decode cX6_init 66 = .ok (.putfield 31, 3) := by decide +kernel
theorem dX6_init_69 : decode cX6_init 69 = .ok (.aload_n 0, 1) := by decide +kernel
theorem dX6_init_70 : decode cX6_init 70 = .ok (.iconst 2, 1) := by decide +kernel
theorem dX6_init_71 : decode cX6_init 71 = .ok (.newarray .int, 2) := by decide +kernel
theorem dX6_init_73 : decode cX6_init 73 = .ok (.putfield 34, 3) := by decide +kernel
theorem dX6_init_76 : decode cX6_init 76 = .ok (.aload_n 0, 1) := by decide +kernel
theorem dX6_init_77 : decode cX6_init 77 = .ok (.iconst 2, 1) := by decide +kernel
theorem dX6_init_78 : decode cX6_init 78 = .ok (.newarray .int, 2) := by decide +kernel
theorem dX6_init_80 : decode cX6_init 80 = .ok (.putfield 37, 3) := by decide +kernel
theorem dX6_init_83 : decode cX6_init 83 = .ok (.aload_n 0, 1) := by decide +kernel
theorem dX6_init_84 : decode cX6_init 84 = .ok (.bipush 100, 2) := by decide +kernel
theorem dX6_init_86 : decode cX6_init 86 = .ok (.newarray .int, 2) := by decide +kernel
theorem dX6_init_88 : decode cX6_init 88 = .ok (.putfield 40, 3) := by decide +kernel
theorem dX6_init_91 : decode cX6_init 91 = .ok (.aload_n 0, 1) := by decide +kernel
theorem dX6_init_92 : decode cX6_init 92 = .ok (.bipush 100, 2) := by decide +kernel
theorem dX6_init_94 : decode cX6_init 94 = .ok (.newarray .int, 2) := by decide +kernel
theorem dX6_init_96 : decode cX6_init 96 = .ok (.putfield 43, 3) := by decide +kernel
theorem dX6_init_99 : decode cX6_init 99 = .ok (.aload_n 0, 1) := by decide +kernel
theorem dX6_init_100 : decode cX6_init 100 = .ok (.bipush 60, 2) := by decide +kernel
theorem dX6_init_102 : decode cX6_init 102 = .ok (.newarray .int, 2) := by decide +kernel
theorem dX6_init_104 : decode cX6_init 104 = .ok (.putfield 46, 3) := by decide +kernel
theorem dX6_init_107 : decode cX6_init 107 = .ok (.aload_n 0, 1) := by decide +kernel
theorem dX6_init_108 : decode cX6_init 108 = .ok (.bipush 40, 2) := by decide +kernel
theorem dX6_init_110 : decode cX6_init 110 = .ok (.newarray .int, 2) := by decide +kernel
theorem dX6_init_112 : decode cX6_init 112 = .ok (.putfield 49, 3) := by decide +kernel
theorem dX6_init_115 : decode cX6_init 115 = .ok (.aload_n 0, 1) := by decide +kernel
theorem dX6_init_116 : decode cX6_init 116 = .ok (.bipush 41, 2) := by decide +kernel
theorem dX6_init_118 : decode cX6_init 118 = .ok (.newarray .int, 2) := by decide +kernel
theorem dX6_init_120 : decode cX6_init 120 = .ok (.putfield 52, 3) := by decide +kernel
theorem dX6_init_123 : decode cX6_init 123 = .ok (.aload_n 0, 1) := by decide +kernel
theorem dX6_init_124 : decode cX6_init 124 = .ok (.bipush 41, 2) := by decide +kernel
theorem dX6_init_126 : decode cX6_init 126 = .ok (.newarray .int, 2) := by decide +kernel
theorem dX6_init_128 : decode cX6_init 128 = .ok (.putfield 55, 3) := by decide +kernel
theorem dX6_init_131 : decode cX6_init 131 = .ok (.aload_n 0, 1) := by decide +kernel
theorem dX6_init_132 : decode cX6_init 132 = .ok (.bipush 41, 2) := by decide +kernel
theorem dX6_init_134 : decode cX6_init 134 = .ok (.newarray .int, 2) := by decide +kernel
theorem dX6_init_136 : decode cX6_init 136 = .ok (.putfield 58, 3) := by decide +kernel
theorem dX6_init_139 : decode cX6_init 139 = .ok (.aload_n 0, 1) := by decide +kernel
theorem dX6_init_140 : decode cX6_init 140 = .ok (.bipush 18, 2) := by decide +kernel
theorem dX6_init_142 : decode cX6_init 142 = .ok (.newarray .int, 2) := by decide +kernel
theorem dX6_init_144 : decode cX6_init 144 = .ok (.putfield 61, 3) := by decide +kernel
theorem dX6_init_147 : decode cX6_init 147 = .ok (.aload_n 0, 1) := by decide +kernel
theorem dX6_init_148 : decode cX6_init 148 = .ok (.sipush 200, 3) := by decide +kernel
theorem dX6_init_151 : decode cX6_init 151 = .ok (.newarray .int, 2) := by decide +kernel
theorem dX6_init_153 : decode cX6_init 153 = .ok (.putfield 64, 3) := by decide +kernel
theorem dX6_init_156 : decode cX6_init 156 = .ok (.aload_n 0, 1) := by decide +kernel
theorem dX6_init_157 : decode cX6_init 157 = .ok (.sipush 200, 3) := by decide +kernel
theorem dX6_init_160 : decode cX6_init 160 = .ok (.newarray .int, 2) := by decide +kernel
theorem dX6_init_162 : decode cX6_init 162 = .ok (.putfield 67, 3) := by decide +kernel
theorem dX6_init_165 : decode cX6_init 165 = .ok (.aload_n 0, 1) := by decide +kernel
theorem dX6_init_166 : decode cX6_init 166 = .ok (.sipush 200, 3) := by decide +kernel
theorem dX6_init_169 : decode cX6_init 169 = .ok (.newarray .int, 2) := by decide +kernel
theorem dX6_init_171 : decode cX6_init 171 = .ok (.putfield 70, 3) := by decide +kernel
theorem dX6_init_174 : decode cX6_init 174 = .ok (.aload_n 0, 1) := by decide +kernel
theorem dX6_init_175 : decode cX6_init 175 = .ok (.sipush 200, 3) := by decide +kernel
theorem dX6_init_178 : decode cX6_init 178 = .ok (.newarray .int, 2) := by decide +kernel
theorem dX6_init_180 : decode cX6_init 180 = .ok (.putfield 73, 3) := by decide +kernel
theorem dX6_init_183 : decode cX6_init 183 = .ok (.aload_n 0, 1) := by decide +kernel
theorem dX6_init_184 : decode cX6_init 184 = .ok (.bipush 100, 2) := by decide +kernel
theorem dX6_init_186 : decode cX6_init 186 = .ok (.newarray .int, 2) := by decide +kernel
theorem dX6_init_188 : decode cX6_init 188 = .ok (.putfield 76, 3) := by decide +kernel
theorem dX6_init_191 : decode cX6_init 191 = .ok (.aload_n 0, 1) := by decide +kernel
theorem dX6_init_192 : decode cX6_init 192 = .ok (.bipush 100, 2) := by decide +kernel
theorem dX6_init_194 : decode cX6_init 194 = .ok (.newarray .int, 2) := by decide +kernel
theorem dX6_init_196 : decode cX6_init 196 = .ok (.putfield 79, 3) := by decide +kernel
theorem dX6_init_199 : decode cX6_init 199 = .ok (.aload_n 0, 1) := by decide +kernel
theorem dX6_init_200 : decode cX6_init 200 = .ok (.bipush 60, 2) := by decide +kernel
theorem dX6_init_202 : decode cX6_init 202 = .ok (.newarray .int, 2) := by decide +kernel
theorem dX6_init_204 : decode cX6_init 204 = .ok (.putfield 82, 3) := by decide +kernel
theorem dX6_init_207 : decode cX6_init 207 = .ok (.aload_n 0, 1) := by decide +kernel
theorem dX6_init_208 : decode cX6_init 208 = .ok (.bipush 18, 2) := by decide +kernel
theorem dX6_init_210 : decode cX6_init 210 = .ok (.newarray .int, 2) := by decide +kernel
theorem dX6_init_212 : decode cX6_init 212 = .ok (.putfield 85, 3) := by decide +kernel
theorem dX6_init_215 : decode cX6_init 215 = .ok (.aload_n 0, 1) := by decide +kernel
theorem dX6_init_216 : decode cX6_init 216 = .ok (.iconst (-1), 1) := by decide +kernel
theorem dX6_init_217 : decode cX6_init 217 = .ok (.putfield 88, 3) := by decide +kernel
theorem dX6_init_220 : decode cX6_init 220 = .ok (.aload_n 0, 1) := by decide +kernel
theorem dX6_init_221 : decode cX6_init 221 = .ok (.getfield 25, 3) := by decide +kernel
theorem dX6_init_224 : decode cX6_init 224 = .ok (.iconst 0, 1) := by decide +kernel
theorem dX6_init_225 : decode cX6_init 225 = .ok (.iconst (-1), 1) := by decide +kernel
theorem dX6_init_226 : decode cX6_init 226 = .ok (.iastore, 1) := by decide +kernel
theorem dX6_init_227 : decode cX6_init 227 = .ok (.return_, 1) := by decide +kernel
theorem dX6_in_0 : decode cX6_in 0 = .ok (.lload_n 0, 1) := by decide +kernel
theorem dX6_in_1 : decode cX6_in 1 = .ok (.lload_n 2, 1) := by decide +kernel
theorem dX6_in_2 : decode cX6_in 2 = .ok (.lcmp, 1) := by decide +kernel
theorem dX6_in_3 : decode cX6_in 3 = .ok (.ifCond .lt 14, 3) := by decide +kernel
theorem dX6_in_6 : decode cX6_in 6 = .ok (.lload_n 0, 1) := by decide +kernel
theorem dX6_in_7 : decode cX6_in 7 = .ok (.lload 4, 2) := by decide +kernel
theorem dX6_in_9 : decode cX6_in 9 = .ok (.lcmp, 1) := by decide +kernel
theorem dX6_in_10 : decode cX6_in 10 = .ok (.ifCond .gt 7, 3) := by decide +kernel
theorem dX6_in_13 : decode cX6_in 13 = .ok (.iconst 1, 1) := by decide +kernel
theorem dX6_in_14 : decode cX6_in 14 = .ok (.goto 4, 3) := by decide +kernel
theorem dX6_in_17 : decode cX6_in 17 = .ok (.iconst 0, 1) := by decide +kernel
theorem dX6_in_18 : decode cX6_in 18 = .ok (.ireturn, 1) := by decide +kernel
theorem dX6_copy_0 : decode cX6_copy 0 = .ok (.iconst 0, 1) := by decide +kernel
theorem dX6_copy_1 : decode cX6_copy 1 = .ok (.istore_n 2, 1) := by decide +kernel
theorem dX6_copy_2 : decode cX6_copy 2 = .ok (.iload_n 2, 1) := by decide +kernel
theorem dX6_copy_3 : decode cX6_copy 3 = .ok (.aload_n 0, 1) := by decide +kernel
theorem dX6_copy_4 : decode cX6_copy 4 = .ok (.arraylength, 1) := by decide +kernel
theorem dX6_copy_5 : decode cX6_copy 5 = .ok (.if_icmp .ge 15, 3) := by decide +kernel
theorem dX6_copy_8 : decode cX6_copy 8 = .ok (.aload_n 1, 1) := by decide +kernel
theorem dX6_copy_9 : decode cX6_copy 9 = .ok (.iload_n 2, 1) := by decide +kernel
theorem dX6_copy_10 : decode cX6_copy 10 = .ok (.aload_n 0, 1) := by decide +kernel
theorem dX6_copy_11 : decode cX6_copy 11 = .ok (.iload_n 2, 1) := by decide +kernel
theorem dX6_copy_12 : decode cX6_copy 12 = .ok (.iaload, 1) := by decide +kernel
theorem dX6_copy_13 : decode cX6_copy 13 = .ok (.iastore, 1) := by decide +kernel
theorem dX6_copy_14 : decode cX6_copy 14 = .ok (.iinc 2 1, 3) := by decide +kernel
theorem dX6_copy_17 : decode cX6_copy 17 = .ok (.goto (-15), 3) := by decide +kernel
theorem dX6_copy_20 : decode cX6_copy 20 = .ok (.return_, 1) := by decide +kernel
set_option maxRecDepth 20000 in
theorem ggX6_letter_X6_in : GoodIn wsX6_letter wsX6_in := goodIn_r _ [7] (by decide +kernel) (by decide +kernel)
set_option maxRecDepth 20000 in
theorem gX6_letter_X6_in : GoodIn wsX6_letter (va_wsS RX6 94 yX6_in wsX6_in) := goodIn_app (goodIn_of _ (by decide +kernel)) ggX6_letter_X6_in
theorem dX6_letter_0 : decode cX6_letter 0 = .ok (.iload_n 1, 1) := by decide +kernel
theorem dX6_letter_1 : decode cX6_letter 1 = .ok (.i2l, 1) := by decide +kernel
theorem dX6_letter_2 : decode cX6_letter 2 = .ok (.lconst 1, 1) := by decide +kernel
theorem dX6_letter_3 : decode cX6_letter 3 = .ok (.ldc2_w 92, 3) := by decide +kernel
theorem dX6_letter_6 : decode cX6_letter 6 = .ok (.invokestatic 94, 3) := by decide +kernel
theorem dX6_letter_9 : decode cX6_letter 9 = .ok (.ifCond .ne 6, 3) := by decide +kernel
theorem dX6_letter_12 : decode cX6_letter 12 = .ok (.bipush (-102), 2) := by decide +kernel
