theorem dX6_as_32 : decode cX6_as 32 = .ok (.getfield 40, 3) := by decide +kernel
theorem dX6_as_35 : decode cX6_as 35 = .ok (.iload_n 1, 1) := by decide +kernel
theorem dX6_as_36 : decode cX6_as 36 = .ok (.iaload, 1) := by decide +kernel
theorem dX6_as_37 : decode cX6_as 37 = .ok (.if_icmp .eq 18, 3) := by decide +kernel
theorem dX6_as_40 : decode cX6_as 40 = .ok (.iload_n 2, 1) := by decide +kernel
theorem dX6_as_41 : decode cX6_as 41 = .ok (.iconst 1, 1) := by decide +kernel
theorem dX6_as_42 : decode cX6_as 42 = .ok (.if_icmp .ne 17, 3) := by decide +kernel
theorem dX6_as_45 : decode cX6_as 45 = .ok (.aload_n 0, 1) := by decide +kernel
theorem dX6_as_46 : decode cX6_as 46 = .ok (.getfield 40, 3) := by decide +kernel
theorem dX6_as_49 : decode cX6_as 49 = .ok (.iload_n 1, 1) := by decide +kernel
theorem dX6_as_50 : decode cX6_as 50 = .ok (.iaload, 1) := by decide +kernel
theorem dX6_as_51 : decode cX6_as 51 = .ok (.iconst 4, 1) := by decide +kernel
theorem dX6_as_52 : decode cX6_as 52 = .ok (.if_icmp .ne 7, 3) := by decide +kernel
theorem dX6_as_55 : decode cX6_as 55 = .ok (.iconst 1, 1) := by decide +kernel
theorem dX6_as_56 : decode cX6_as 56 = .ok (.goto 4, 3) := by decide +kernel
theorem dX6_as_59 : decode cX6_as 59 = .ok (.iconst 0, 1) := by decide +kernel
theorem dX6_as_60 : decode cX6_as 60 = .ok (.istore_n 3, 1) := by decide +kernel
theorem dX6_as_61 : decode cX6_as 61 = .ok (.iload_n 3, 1) := by decide +kernel
theorem dX6_as_62 : decode cX6_as 62 = .ok (.ifCond .eq 7, 3) := by decide +kernel
theorem dX6_as_65 : decode cX6_as 65 = .ok (.iload_n 1, 1) := by decide +kernel
theorem dX6_as_66 : decode cX6_as 66 = .ok (.goto 4, 3) := by decide +kernel
theorem dX6_as_69 : decode cX6_as 69 = .ok (.iconst (-1), 1) := by decide +kernel
theorem dX6_as_70 : decode cX6_as 70 = .ok (.ireturn, 1) := by decide +kernel
set_option maxRecDepth 20000 in
theorem ggX6_at_X6_lacks : GoodIn wsX6_at wsX6_lacks := goodIn_r _ [7, 8, 16, 17, 18, 19, 20, 21, 22, 23, 24, 25, 26, 27, 28, 29, 30, 31, 32, 33, 34, 35, 36, 37, 38, 39, 40, 41, 42, 43, 44, 45, 46, 47, 48, 49, 50, 51, 52, 53, 54, 55, 56, 57, 58, 59, 60, 61, 62, 63, 64, 65] rfl (by decide +kernel)
set_option maxRecDepth 20000 in
theorem gX6_at_X6_lacks : GoodIn wsX6_at (wsV RX6 236 RX6 yX6_lacks wsX6_lacks) := goodIn_app (goodIn_of _ (by decide +kernel)) ggX6_at_X6_lacks
set_option maxRecDepth 20000 in
theorem ggX6_at_X6_in : GoodIn wsX6_at wsX6_in := goodIn_r _ [11] rfl (by decide +kernel)
set_option maxRecDepth 20000 in
theorem gX6_at_X6_in : GoodIn wsX6_at (va_wsS RX6 94 yX6_in wsX6_in) := goodIn_app (goodIn_of _ (by decide +kernel)) ggX6_at_X6_in
set_option maxRecDepth 20000 in
theorem ggX6_at_X6_lessMany : GoodIn wsX6_at wsX6_lessMany := goodIn_r _ [15, 2, 16, 17, 18, 19, 20, 21, 22, 23, 24, 25, 26, 27, 28, 29, 30, 31, 32, 33, 34, 35, 36, 37, 38, 39, 40, 41, 42, 43, 44, 45, 46, 47, 48, 49, 50, 51, 52, 53, 54, 55, 56, 57, 58, 59, 60, 61, 62, 63, 64, 65] rfl (by decide +kernel)
set_option maxRecDepth 20000 in
theorem gX6_at_X6_lessMany : GoodIn wsX6_at (wsV RX6 242 RX6 yX6_lessMany wsX6_lessMany) := goodIn_app (goodIn_of _ (by decide +kernel)) ggX6_at_X6_lessMany
theorem dX6_at_0 : decode cX6_at 0 = .ok (.aload_n 0, 1) := by decide +kernel
theorem dX6_at_1 : decode cX6_at 1 = .ok (.invokevirtual 236, 3) := by decide +kernel
theorem dX6_at_4 : decode cX6_at 4 = .ok (.ifCond .ne 21, 3) := by decide +kernel
theorem dX6_at_7 : decode cX6_at 7 = .ok (.iload_n 1, 1) := by decide +kernel
theorem dX6_at_8 : decode cX6_at 8 = .ok (.i2l, 1) := by decide +kernel
theorem dX6_at_9 : decode cX6_at 9 = .ok (.lconst 0, 1) := by decide +kernel
theorem dX6_at_10 : decode cX6_at 10 = .ok (.aload_n 0, 1) := by decide +kernel
theorem dX6_at_11 : decode cX6_at 11 = .ok (.getfield 28, 3) := by decide +kernel
theorem dX6_at_14 : decode cX6_at 14 = .ok (.iconst 0, 1) := by decide +kernel
theorem dX6_at_15 : decode cX6_at 15 = .ok (.iaload, 1) := by decide +kernel
theorem dX6_at_16 : decode cX6_at 16 = .ok (.iconst 1, 1) := by decide +kernel
theorem dX6_at_17 : decode cX6_at 17 = .ok (.isub, 1) := by decide +kernel
theorem dX6_at_18 : decode cX6_at 18 = .ok (.i2l, 1) := by decide +kernel
theorem dX6_at_19 : decode cX6_at 19 = .ok (.invokestatic 94, 3) := by decide +kernel
theorem dX6_at_22 : decode cX6_at 22 = .ok (.ifCond .ne 6, 3) := by decide +kernel
theorem dX6_at_25 : decode cX6_at 25 = .ok (.bipush (-101), 2) := by decide +kernel
theorem dX6_at_27 : decode cX6_at 27 = .ok (.ireturn, 1) := by decide +kernel
theorem dX6_at_28 : decode cX6_at 28 = .ok (.iconst 0, 1) := by decide +kernel
theorem dX6_at_29 : decode cX6_at 29 = .ok (.istore_n 2, 1) := by decide +kernel
theorem dX6_at_30 : decode cX6_at 30 = .ok (.aload_n 0, 1) := by decide +kernel
theorem dX6_at_31 : decode cX6_at 31 = .ok (.getfield 22, 3) := by decide +kernel
theorem dX6_at_34 : decode cX6_at 34 = .ok (.iload_n 2, 1) := by decide +kernel
theorem dX6_at_35 : decode cX6_at 35 = .ok (.iaload, 1) := by decide +kernel
theorem dX6_at_36 : decode cX6_at 36 = .ok (.ifCond .eq 12, 3) := by decide +kernel
theorem dX6_at_39 : decode cX6_at 39 = .ok (.aload_n 0, 1) := by decide +kernel
theorem dX6_at_40 : decode cX6_at 40 = .ok (.iload_n 2, 1) := by decide +kernel
theorem dX6_at_41 : decode cX6_at 41 = .ok (.invokevirtual 242, 3) := by decide +kernel
theorem dX6_at_44 : decode cX6_at 44 = .ok (.iload_n 1, 1) := by decide +kernel
theorem dX6_at_45 : decode cX6_at 45 = .ok (.if_icmp .ge 9, 3) := by decide +kernel
theorem dX6_at_48 : decode cX6_at 48 = .ok (.iinc 2 1, 3) := by decide +kernel
theorem dX6_at_51 : decode cX6_at 51 = .ok (.goto (-21), 3) := by decide +kernel
theorem dX6_at_54 : decode cX6_at 54 = .ok (.iload_n 2, 1) := by decide +kernel
theorem dX6_at_55 : decode cX6_at 55 = .ok (.ireturn, 1) := by decide +kernel
set_option maxRecDepth 20000 in
theorem ggX6_next_X6_lacks : GoodIn wsX6_next wsX6_lacks := goodIn_r _ [6, 7, 8, 9, 10, 11, 12, 13, 14, 15, 16, 17, 18, 19, 20, 21, 22, 23, 24, 25, 26, 27, 28, 29, 30, 31, 32, 33, 34, 35, 36, 37, 38, 39, 40, 41, 42, 43, 44, 45, 46, 47, 48, 49, 50, 51, 52, 53, 54, 55, 56, 57] rfl (by decide +kernel)
set_option maxRecDepth 20000 in
theorem gX6_next_X6_lacks : GoodIn wsX6_next (wsV RX6 236 RX6 yX6_lacks wsX6_lacks) := goodIn_app (goodIn_of _ (by decide +kernel)) ggX6_next_X6_lacks
theorem dX6_next_0 : decode cX6_next 0 = .ok (.aload_n 0, 1) := by decide +kernel
theorem dX6_next_1 : decode cX6_next 1 = .ok (.invokevirtual 236, 3) := by decide +kernel
theorem dX6_next_4 : decode cX6_next 4 = .ok (.ifCond .eq 6, 3) := by decide +kernel
theorem dX6_next_7 : decode cX6_next 7 = .ok (.bipush (-103), 2) := by decide +kernel
theorem dX6_next_9 : decode cX6_next 9 = .ok (.ireturn, 1) := by decide +kernel
theorem dX6_next_10 : decode cX6_next 10 = .ok (.iconst 0, 1) := by decide +kernel
theorem dX6_next_11 : decode cX6_next 11 = .ok (.istore_n 2, 1) := by decide +kernel
theorem dX6_next_12 : decode cX6_next 12 = .ok (.iload_n 2, 1) := by decide +kernel
theorem dX6_next_13 : decode cX6_next 13 = .ok (.bipush 100, 2) := by decide +kernel
theorem dX6_next_15 : decode cX6_next 15 = .ok (.if_icmp .ge 26, 3) := by decide +kernel
theorem dX6_next_18 : decode cX6_next 18 = .ok (.aload_n 0, 1) := by decide +kernel
theorem dX6_next_19 : decode cX6_next 19 = .ok (.getfield 22, 3) := by decide +kernel
theorem dX6_next_22 : decode cX6_next 22 = .ok (.iload_n 2, 1) := by decide +kernel
theorem dX6_next_23 : decode cX6_next 23 = .ok (.iaload, 1) := by decide +kernel
theorem dX6_next_24 : decode cX6_next 24 = .ok (.iconst 1, 1) := by decide +kernel
theorem dX6_next_25 : decode cX6_next 25 = .ok (.if_icmp .ne 10, 3) := by decide +kernel
theorem dX6_next_28 : decode cX6_next 28 = .ok (.iload_n 2, 1) := by decide +kernel
theorem dX6_next_29 : decode cX6_next 29 = .ok (.iload_n 1, 1) := by decide +kernel
theorem dX6_next_30 : decode cX6_next 30 = .ok (.if_icmp .le 5, 3) := by decide +kernel
theorem dX6_next_33 : decode cX6_next 33 = .ok (.iload_n 2, 1) := by decide +kernel
theorem dX6_next_34 : decode cX6_next 34 = .ok (.ireturn, 1) := by decide +kernel
theorem dX6_next_35 : decode cX6_next 35 = .ok (.iinc 2 1, 3) := by decide +kernel
theorem dX6_next_38 : decode cX6_next 38 = .ok (.goto (-26), 3) := by decide +kernel
theorem dX6_next_41 : decode cX6_next 41 = .ok (.iconst (-1), 1) := by decide +kernel
theorem dX6_next_42 : decode cX6_next 42 = .ok (.ireturn, 1) := by decide +kernel
set_option maxRecDepth 20000 in
theorem ggX6_put_X6_in : GoodIn wsX6_put wsX6_in := goodIn_r _ [12] rfl (by decide +kernel)
set_option maxRecDepth 20000 in
theorem gX6_put_X6_in : GoodIn wsX6_put (va_wsS RX6 94 yX6_in wsX6_in) := goodIn_app (goodIn_of _ (by decide +kernel)) ggX6_put_X6_in
set_option maxRecDepth 20000 in
theorem ggX6_put_X6_lacks : GoodIn wsX6_put wsX6_lacks := goodIn_r _ [16, 17, 101, 102, 103, 104, 105, 106, 107, 108, 109, 110, 111, 112, 113, 114, 115, 116, 117, 118, 119, 120, 121, 122, 123, 124, 125, 126, 127, 128, 129, 130, 131, 132, 133, 134, 135, 136, 137, 138, 139, 140, 141, 142, 143, 144, 145, 146, 147, 148, 149, 150] rfl (by decide +kernel)
set_option maxRecDepth 20000 in
theorem gX6_put_X6_lacks : GoodIn wsX6_put (wsV RX6 236 RX6 yX6_lacks wsX6_lacks) := goodIn_app (goodIn_of _ (by decide +kernel)) ggX6_put_X6_lacks
set_option maxRecDepth 20000 in
theorem ggX6_put_X6_putNew : GoodIn wsX6_put wsX6_putNew := goodIn_r _ [21, 5, 6, 22, 23, 24, 11, 25, 8, 26, 7, 27, 28, 29, 30, 31, 32, 33, 34, 4, 35, 36, 37, 38, 39, 40, 41, 42, 43, 44, 45, 46, 47, 48, 49, 50, 51, 52, 53, 54, 55, 56, 57, 17, 58, 59, 60, 61, 62, 63, 64, 65, 66, 67, 68, 69, 70, 71, 72, 73, 74, 75, 76, 77, 78, 79, 80, 81, 82, 83, 84, 85, 86, 87, 88, 89, 90, 91, 92, 93, 94, 95, 96, 97, 98, 99, 100, 101, 102, 103, 104, 105, 106, 107, 108, 109, 110, 111, 112, 113, 114, 115, 116, 117, 118, 119, 120, 121, 122, 123, 124, 125, 126, 127, 128, 129, 130, 131, 132, 133, 134, 135, 136, 137, 138, 139, 140, 141, 142, 143, 144, 145, 146, 147, 148, 149, 150] rfl (by decide +kernel)
set_option maxRecDepth 20000 in
theorem gX6_put_X6_putNew : GoodIn wsX6_put (wsV RX6 221 RX6 yX6_putNew wsX6_putNew) := goodIn_app (goodIn_of _ (by decide +kernel)) ggX6_put_X6_putNew
theorem dX6_put_0 : decode cX6_put 0 = .ok (.iload_n 1, 1) := by decide +kernel
theorem dX6_put_1 : decode cX6_put 1 = .ok (.i2l, 1) := by decide +kernel
theorem dX6_put_2 : decode cX6_put 2 = .ok (.lconst 0, 1) := by decide +kernel
theorem dX6_put_3 : decode cX6_put 3 = .ok (.ldc2_w 251, 3) := by decide +kernel
theorem dX6_put_6 : decode cX6_put 6 = .ok (.invokestatic 94, 3) := by decide +kernel
theorem dX6_put_9 : decode cX6_put 9 = .ok (.ifCond .eq 27, 3) := by decide +kernel
theorem dX6_put_12 : decode cX6_put 12 = .ok (.iload_n 2, 1) := by decide +kernel
theorem dX6_put_13 : decode cX6_put 13 = .ok (.i2l, 1) := by decide +kernel
theorem dX6_put_14 : decode cX6_put 14 = .ok (.lconst 0, 1) := by decide +kernel
theorem dX6_put_15 : decode cX6_put 15 = .ok (.ldc2_w 240, 3) := by decide +kernel
theorem dX6_put_18 : decode cX6_put 18 = .ok (.invokestatic 94, 3) := by decide +kernel
theorem dX6_put_21 : decode cX6_put 21 = .ok (.ifCond .eq 15, 3) := by decide +kernel
theorem dX6_put_24 : decode cX6_put 24 = .ok (.iload_n 3, 1) := by decide +kernel
theorem dX6_put_25 : decode cX6_put 25 = .ok (.i2l, 1) := by decide +kernel
theorem dX6_put_26 : decode cX6_put 26 = .ok (.lconst 0, 1) := by decide +kernel
theorem dX6_put_27 : decode cX6_put 27 = .ok (.ldc2_w 253, 3) := by decide +kernel
theorem dX6_put_30 : decode cX6_put 30 = .ok (.invokestatic 94, 3) := by decide +kernel
theorem dX6_put_33 : decode cX6_put 33 = .ok (.ifCond .ne 6, 3) := by decide +kernel
theorem dX6_put_36 : decode cX6_put 36 = .ok (.bipush (-102), 2) := by decide +kernel
theorem dX6_put_38 : decode cX6_put 38 = .ok (.ireturn, 1) := by decide +kernel
theorem dX6_put_39 : decode cX6_put 39 = .ok (.aload_n 0, 1) := by decide +kernel
theorem dX6_put_40 : decode cX6_put 40 = .ok (.invokevirtual 236, 3) := by decide +kernel
theorem dX6_put_43 : decode cX6_put 43 = .ok (.ifCond .ne 23, 3) := by decide +kernel
theorem dX6_put_46 : decode cX6_put 46 = .ok (.aload_n 0, 1) := by decide +kernel
theorem dX6_put_47 : decode cX6_put 47 = .ok (.getfield 22, 3) := by decide +kernel
theorem dX6_put_50 : decode cX6_put 50 = .ok (.iload_n 2, 1) := by decide +kernel
theorem dX6_put_51 : decode cX6_put 51 = .ok (.iaload, 1) := by decide +kernel
theorem dX6_put_52 : decode cX6_put 52 = .ok (.iconst 1, 1) := by decide +kernel
theorem dX6_put_53 : decode cX6_put 53 = .ok (.if_icmp .ne 16, 3) := by decide +kernel
theorem dX6_put_56 : decode cX6_put 56 = .ok (.aload_n 0, 1) := by decide +kernel
theorem dX6_put_57 : decode cX6_put 57 = .ok (.getfield 40, 3) := by decide +kernel
theorem dX6_put_60 : decode cX6_put 60 = .ok (.iload_n 2, 1) := by decide +kernel
theorem dX6_put_61 : decode cX6_put 61 = .ok (.iaload, 1) := by decide +kernel
theorem dX6_put_62 : decode cX6_put 62 = .ok (.iconst 4, 1) := by decide +kernel
theorem dX6_put_63 : decode cX6_put 63 = .ok (.if_icmp .ne 6, 3) := by decide +kernel
theorem dX6_put_66 : decode cX6_put 66 = .ok (.bipush (-103), 2) := by decide +kernel
theorem dX6_put_68 : decode cX6_put 68 = .ok (.ireturn, 1) := by decide +kernel
theorem dX6_put_69 : decode cX6_put 69 = .ok (.aload_n 0, 1) := by decide +kernel
theorem dX6_put_70 : decode cX6_put 70 = .ok (.getfield 22, 3) := by decide +kernel
theorem dX6_put_73 : decode cX6_put 73 = .ok (.iload_n 2, 1) := by decide +kernel
theorem dX6_put_74 : decode cX6_put 74 = .ok (.iaload, 1) := by decide +kernel
theorem dX6_put_75 : decode cX6_put 75 = .ok (.iconst 1, 1) := by decide +kernel
theorem dX6_put_76 : decode cX6_put 76 = .ok (.if_icmp .ne 19, 3) := by decide +kernel
theorem dX6_put_79 : decode cX6_put 79 = .ok (.aload_n 0, 1) := by decide +kernel
theorem dX6_put_80 : decode cX6_put 80 = .ok (.getfield 40, 3) := by decide +kernel
theorem dX6_put_83 : decode cX6_put 83 = .ok (.iload_n 2, 1) := by decide +kernel
theorem dX6_put_84 : decode cX6_put 84 = .ok (.iload_n 1, 1) := by decide +kernel
theorem dX6_put_85 : decode cX6_put 85 = .ok (.iastore, 1) := by decide +kernel
theorem dX6_put_86 : decode cX6_put 86 = .ok (.aload_n 0, 1) := by decide +kernel
theorem dX6_put_87 : decode cX6_put 87 = .ok (.getfield 43, 3) := by decide +kernel
theorem dX6_put_90 : decode cX6_put 90 = .ok (.iload_n 2, 1) := by decide +kernel
theorem dX6_put_91 : decode cX6_put 91 = .ok (.iload_n 3, 1) := by decide +kernel
theorem dX6_put_92 : decode cX6_put 92 = .ok (.iastore, 1) := by decide +kernel
theorem dX6_put_93 : decode cX6_put 93 = .ok (.iconst 0, 1) := by decide +kernel
theorem dX6_put_94 : decode cX6_put 94 = .ok (.ireturn, 1) := by decide +kernel
theorem dX6_put_95 : decode cX6_put 95 = .ok (.aload_n 0, 1) := by decide +kernel
theorem dX6_put_96 : decode cX6_put 96 = .ok (.getfield 28, 3) := by decide +kernel
theorem dX6_put_99 : decode cX6_put 99 = .ok (.iconst 0, 1) := by decide +kernel
theorem dX6_put_100 : decode cX6_put 100 = .ok (.iaload, 1) := by decide +kernel
theorem dX6_put_101 : decode cX6_put 101 = .ok (.bipush 40, 2) := by decide +kernel
theorem dX6_put_103 : decode cX6_put 103 = .ok (.if_icmp .ne 6, 3) := by decide +kernel
theorem dX6_put_106 : decode cX6_put 106 = .ok (.bipush (-104), 2) := by decide +kernel
theorem dX6_put_108 : decode cX6_put 108 = .ok (.ireturn, 1) := by decide +kernel
theorem dX6_put_109 : decode cX6_put 109 = .ok (.aload_n 0, 1) := by decide +kernel
theorem dX6_put_110 : decode cX6_put 110 = .ok (.iload_n 1, 1) := by decide +kernel
theorem dX6_put_111 : decode cX6_put 111 = .ok (.iload_n 2, 1) := by decide +kernel
theorem dX6_put_112 : decode cX6_put 112 = .ok (.iload_n 3, 1) := by decide +kernel
theorem dX6_put_113 : decode cX6_put 113 = .ok (.invokevirtual 221, 3) := by decide +kernel
theorem dX6_put_116 : decode cX6_put 116 = .ok (.aload_n 0, 1) := by decide +kernel
theorem dX6_put_117 : decode cX6_put 117 = .ok (.getfield 171, 3) := by decide +kernel
theorem dX6_put_120 : decode cX6_put 120 = .ok (.ireturn, 1) := by decide +kernel
set_option maxRecDepth 20000 in
theorem ggX6_take_X6_isThere : GoodIn wsX6_take wsX6_isThere := goodIn_r _ [7, 8, 9, 10, 11, 12, 6, 13, 14, 15, 16, 17, 99, 100, 101, 102, 103, 104, 105, 106, 107, 108, 109, 110, 111, 112, 113, 114, 115, 116, 117, 118, 119, 120, 121, 122, 123, 124, 125, 126, 127, 128, 129, 130, 131, 132, 133, 134, 135, 136, 137, 138, 139, 140, 141, 142, 143, 144, 145, 146, 147, 148] rfl (by decide +kernel)
set_option maxRecDepth 20000 in
theorem gX6_take_X6_isThere : GoodIn wsX6_take (wsV RX6 245 RX6 yX6_isThere wsX6_isThere) := goodIn_app (goodIn_of _ (by decide +kernel)) ggX6_take_X6_isThere
set_option maxRecDepth 20000 in
theorem ggX6_take_X6_takeOut : GoodIn wsX6_take wsX6_takeOut := goodIn_r _ [21, 22, 23, 24, 6, 25, 26, 27, 28, 29, 30, 31, 32, 33, 34, 35, 36, 37, 38, 39, 40, 41, 42, 43, 44, 45, 46, 47, 9, 48, 49, 50, 51, 52, 53, 54, 55, 56, 57, 58, 59, 60, 61, 62, 63, 14, 64, 65, 66, 67, 68, 69, 70, 71, 72, 73, 74, 75, 76, 77, 78, 79, 80, 81, 82, 83, 84, 85, 86, 87, 88, 89, 90, 91, 92, 93, 94, 95, 96, 97, 98, 99, 100, 101, 102, 103, 104, 105, 106, 107, 108, 109, 110, 111, 112, 113, 114, 115, 116, 117, 118, 119, 120, 121, 122, 123, 124, 125, 126, 127, 128, 129, 130, 131, 132, 133, 134, 135, 136, 137, 138, 139, 140, 141, 142, 143, 144, 145, 146, 147, 148] rfl (by decide +kernel)
set_option maxRecDepth 20000 in
theorem gX6_take_X6_takeOut : GoodIn wsX6_take (wsV RX6 255 RX6 yX6_takeOut wsX6_takeOut) := goodIn_app (goodIn_of _ (by decide +kernel)) ggX6_take_X6_takeOut
theorem dX6_take_0 : decode cX6_take 0 = .ok (.aload_n 0, 1) := by decide +kernel
theorem dX6_take_1 : decode cX6_take 1 = .ok (.iload_n 1, 1) := by decide +kernel
theorem dX6_take_2 : decode cX6_take 2 = .ok (.invokevirtual 245, 3) := by decide +kernel
theorem dX6_take_5 : decode cX6_take 5 = .ok (.ifCond .ne 6, 3) := by decide +kernel
theorem dX6_take_8 : decode cX6_take 8 = .ok (.bipush (-101), 2) := by decide +kernel
theorem dX6_take_10 : decode cX6_take 10 = .ok (.ireturn, 1) := by decide +kernel
theorem dX6_take_11 : decode cX6_take 11 = .ok (.aload_n 0, 1) := by decide +kernel
theorem dX6_take_12 : decode cX6_take 12 = .ok (.getfield 40, 3) := by decide +kernel
theorem dX6_take_15 : decode cX6_take 15 = .ok (.iload_n 1, 1) := by decide +kernel
theorem dX6_take_16 : decode cX6_take 16 = .ok (.iaload, 1) := by decide +kernel
theorem dX6_take_17 : decode cX6_take 17 = .ok (.iconst 1, 1) := by decide +kernel
theorem dX6_take_18 : decode cX6_take 18 = .ok (.if_icmp .eq 13, 3) := by decide +kernel
theorem dX6_take_21 : decode cX6_take 21 = .ok (.aload_n 0, 1) := by decide +kernel
theorem dX6_take_22 : decode cX6_take 22 = .ok (.getfield 40, 3) := by decide +kernel
theorem dX6_take_25 : decode cX6_take 25 = .ok (.iload_n 1, 1) := by decide +kernel
theorem dX6_take_26 : decode cX6_take 26 = .ok (.iaload, 1) := by decide +kernel
theorem dX6_take_27 : decode cX6_take 27 = .ok (.iconst 4, 1) := by decide +kernel
theorem dX6_take_28 : decode cX6_take 28 = .ok (.if_icmp .ne 6, 3) := by decide +kernel
theorem dX6_take_31 : decode cX6_take 31 = .ok (.bipush (-103), 2) := by decide +kernel
theorem dX6_take_33 : decode cX6_take 33 = .ok (.ireturn, 1) := by decide +kernel
theorem dX6_take_34 : decode cX6_take 34 = .ok (.aload_n 0, 1) := by decide +kernel
theorem dX6_take_35 : decode cX6_take 35 = .ok (.iload_n 1, 1) := by decide +kernel
theorem dX6_take_36 : decode cX6_take 36 = .ok (.invokevirtual 255, 3) := by decide +kernel
theorem dX6_take_39 : decode cX6_take 39 = .ok (.aload_n 0, 1) := by decide +kernel
theorem dX6_take_40 : decode cX6_take 40 = .ok (.getfield 43, 3) := by decide +kernel
theorem dX6_take_43 : decode cX6_take 43 = .ok (.iload_n 1, 1) := by decide +kernel
theorem dX6_take_44 : decode cX6_take 44 = .ok (.iaload, 1) := by decide +kernel
theorem dX6_take_45 : decode cX6_take 45 = .ok (.ireturn, 1) := by decide +kernel
set_option maxRecDepth 20000 in
theorem ggX6_tell_X6_isThere : GoodIn wsX6_tell wsX6_isThere := goodIn_r _ [7, 8, 9, 10, 11, 12, 6, 13, 14, 15, 16, 17, 99, 100, 101, 102, 103, 104, 105, 106, 107, 108, 109, 110, 111, 112, 113, 114, 115, 116, 117, 118, 119, 120, 121, 122, 123, 124, 125, 126, 127, 128, 129, 130, 131, 132, 133, 134, 135, 136, 137, 138, 139, 140, 141, 142, 143, 144, 145, 146, 147, 148] rfl (by decide +kernel)
set_option maxRecDepth 20000 in
theorem gX6_tell_X6_isThere : GoodIn wsX6_tell (wsV RX6 245 RX6 yX6_isThere wsX6_isThere) := goodIn_app (goodIn_of _ (by decide +kernel)) ggX6_tell_X6_isThere
set_option maxRecDepth 20000 in
theorem ggX6_tell_X6_takeOut : GoodIn wsX6_tell wsX6_takeOut := goodIn_r _ [21, 22, 23, 24, 6, 25, 26, 27, 28, 29, 30, 31, 32, 33, 34, 35, 36, 37, 38, 39, 40, 41, 42, 43, 44, 45, 46, 47, 9, 48, 49, 50, 51, 52, 53, 54, 55, 56, 57, 58, 59, 60, 61, 62, 63, 14, 64, 65, 66, 67, 68, 69, 70, 71, 72, 73, 74, 75, 76, 77, 78, 79, 80, 81, 82, 83, 84, 85, 86, 87, 88, 89, 90, 91, 92, 93, 94, 95, 96, 97, 98, 99, 100, 101, 102, 103, 104, 105, 106, 107, 108, 109, 110, 111, 112, 113, 114, 115, 116, 117, 118, 119, 120, 121, 122, 123, 124, 125, 126, 127, 128, 129, 130, 131, 132, 133, 134, 135, 136, 137, 138, 139, 140, 141, 142, 143, 144, 145, 146, 147, 148] rfl (by decide +kernel)
set_option maxRecDepth 20000 in
theorem gX6_tell_X6_takeOut : GoodIn wsX6_tell (wsV RX6 255 RX6 yX6_takeOut wsX6_takeOut) := goodIn_app (goodIn_of _ (by decide +kernel)) ggX6_tell_X6_takeOut
theorem dX6_tell_0 : decode cX6_tell 0 = .ok (.aload_n 0, 1) := by decide +kernel
theorem dX6_tell_1 : decode cX6_tell 1 = .ok (.iload_n 1, 1) := by decide +kernel
theorem dX6_tell_2 : decode cX6_tell 2 = .ok (.invokevirtual 245, 3) := by decide +kernel
theorem dX6_tell_5 : decode cX6_tell 5 = .ok (.ifCond .ne 6, 3) := by decide +kernel
theorem dX6_tell_8 : decode cX6_tell 8 = .ok (.bipush (-101), 2) := by decide +kernel
theorem dX6_tell_10 : decode cX6_tell 10 = .ok (.ireturn, 1) := by decide +kernel
theorem dX6_tell_11 : decode cX6_tell 11 = .ok (.aload_n 0, 1) := by decide +kernel
theorem dX6_tell_12 : decode cX6_tell 12 = .ok (.getfield 43, 3) := by decide +kernel
theorem dX6_tell_15 : decode cX6_tell 15 = .ok (.iload_n 1, 1) := by decide +kernel
theorem dX6_tell_16 : decode cX6_tell 16 = .ok (.iaload, 1) := by decide +kernel
theorem dX6_tell_17 : decode cX6_tell 17 = .ok (.istore_n 2, 1) := by decide +kernel
theorem dX6_tell_18 : decode cX6_tell 18 = .ok (.aload_n 0, 1) := by decide +kernel
theorem dX6_tell_19 : decode cX6_tell 19 = .ok (.getfield 40, 3) := by decide +kernel
theorem dX6_tell_22 : decode cX6_tell 22 = .ok (.iload_n 1, 1) := by decide +kernel
theorem dX6_tell_23 : decode cX6_tell 23 = .ok (.iaload, 1) := by decide +kernel
theorem dX6_tell_24 : decode cX6_tell 24 = .ok (.iconst 2, 1) := by decide +kernel
theorem dX6_tell_25 : decode cX6_tell 25 = .ok (.if_icmp .ne 20, 3) := by decide +kernel
theorem dX6_tell_28 : decode cX6_tell 28 = .ok (.iload_n 2, 1) := by decide +kernel
theorem dX6_tell_29 : decode cX6_tell 29 = .ok (.sipush 999, 3) := by decide +kernel
theorem dX6_tell_32 : decode cX6_tell 32 = .ok (.if_icmp .ge 13, 3) := by decide +kernel
theorem dX6_tell_35 : decode cX6_tell 35 = .ok (.aload_n 0, 1) := by decide +kernel
theorem dX6_tell_36 : decode cX6_tell 36 = .ok (.getfield 43, 3) := by decide +kernel
theorem dX6_tell_39 : decode cX6_tell 39 = .ok (.iload_n 1, 1) := by decide +kernel
theorem dX6_tell_40 : decode cX6_tell 40 = .ok (.dup2, 1) := by decide +kernel
theorem dX6_tell_41 : decode cX6_tell 41 = .ok (.iaload, 1) := by decide +kernel
theorem dX6_tell_42 : decode cX6_tell 42 = .ok (.iconst 1, 1) := by decide +kernel
theorem dX6_tell_43 : decode cX6_tell 43 = .ok (.iadd, 1) := by decide +kernel
theorem dX6_tell_44 : decode cX6_tell 44 = .ok (.iastore, 1) := by decide +kernel
theorem dX6_tell_45 : decode cX6_tell 45 = .ok (.aload_n 0, 1) := by decide +kernel
theorem dX6_tell_46 : decode cX6_tell 46 = .ok (.getfield 40, 3) := by decide +kernel
theorem dX6_tell_49 : decode cX6_tell 49 = .ok (.iload_n 1, 1) := by decide +kernel
theorem dX6_tell_50 : decode cX6_tell 50 = .ok (.iaload, 1) := by decide +kernel
theorem dX6_tell_51 : decode cX6_tell 51 = .ok (.iconst 3, 1) := by decide +kernel
theorem dX6_tell_52 : decode cX6_tell 52 = .ok (.if_icmp .ne 8, 3) := by decide +kernel
theorem dX6_tell_55 : decode cX6_tell 55 = .ok (.aload_n 0, 1) := by decide +kernel
theorem dX6_tell_56 : decode cX6_tell 56 = .ok (.iload_n 1, 1) := by decide +kernel
theorem dX6_tell_57 : decode cX6_tell 57 = .ok (.invokevirtual 255, 3) := by decide +kernel
theorem dX6_tell_60 : decode cX6_tell 60 = .ok (.iload_n 2, 1) := by decide +kernel
theorem dX6_tell_61 : decode cX6_tell 61 = .ok (.ireturn, 1) := by decide +kernel
set_option maxRecDepth 20000 in
theorem ggX6_flatten_X6_lacks : GoodIn wsX6_flatten wsX6_lacks := goodIn_r _ [7, 8, 50, 51, 52, 53, 54, 55, 56, 57, 58, 59, 60, 61, 62, 63, 64, 65, 66, 67, 68, 69, 70, 71, 72, 73, 74, 75, 76, 77, 78, 79, 80, 81, 82, 83, 84, 85, 86, 87, 88, 89, 90, 91, 92, 93, 94, 95, 96, 97, 98, 99] rfl (by decide +kernel)
set_option maxRecDepth 20000 in
theorem gX6_flatten_X6_lacks : GoodIn wsX6_flatten (wsV RX6 236 RX6 yX6_lacks wsX6_lacks) := goodIn_app (goodIn_of _ (by decide +kernel)) ggX6_flatten_X6_lacks
set_option maxRecDepth 20000 in
theorem ggX6_flatten_X6_build : GoodIn wsX6_flatten wsX6_build := goodIn_r _ [12, 13, 14, 15, 16, 17, 18, 19, 20, 21, 22, 23, 24, 25, 6, 26, 27, 28, 29, 30, 31, 32, 33, 34, 35, 36, 37, 38, 39, 40, 41, 42, 43, 2, 44, 45, 46, 47, 48, 49, 50, 51, 52, 53, 54, 55, 56, 57, 58, 59, 60, 61, 62, 63, 64, 65, 66, 67, 68, 69, 70, 71, 72, 73, 74, 75, 76, 77, 78, 79, 80, 81, 82, 83, 84, 85, 86, 87, 88, 89, 90, 91, 92, 93, 94, 95, 96, 97, 98, 99] rfl (by decide +kernel)
set_option maxRecDepth 20000 in
theorem gX6_flatten_X6_build : GoodIn wsX6_flatten (wsV RX6 202 RX6 yX6_build wsX6_build) := goodIn_app (goodIn_of _ (by decide +kernel)) ggX6_flatten_X6_build
theorem dX6_flatten_0 : decode cX6_flatten 0 = .ok (.aload_n 0, 1) := by decide +kernel
theorem dX6_flatten_1 : decode cX6_flatten 1 = .ok (.invokevirtual 236, 3) := by decide +kernel
theorem dX6_flatten_4 : decode cX6_flatten 4 = .ok (.ifCond .eq 6, 3) := by decide +kernel
theorem dX6_flatten_7 : decode cX6_flatten 7 = .ok (.bipush (-103), 2) := by decide +kernel
theorem dX6_flatten_9 : decode cX6_flatten 9 = .ok (.ireturn, 1) := by decide +kernel
theorem dX6_flatten_10 : decode cX6_flatten 10 = .ok (.aload_n 0, 1) := by decide +kernel
theorem dX6_flatten_11 : decode cX6_flatten 11 = .ok (.getfield 28, 3) := by decide +kernel
theorem dX6_flatten_14 : decode cX6_flatten 14 = .ok (.iconst 0, 1) := by decide +kernel
theorem dX6_flatten_15 : decode cX6_flatten 15 = .ok (.iaload, 1) := by decide +kernel
theorem dX6_flatten_16 : decode cX6_flatten 16 = .ok (.ifCond .le 14, 3) := by decide +kernel
theorem dX6_flatten_19 : decode cX6_flatten 19 = .ok (.aload_n 0, 1) := by decide +kernel
theorem dX6_flatten_20 : decode cX6_flatten 20 = .ok (.iconst 0, 1) := by decide +kernel
theorem dX6_flatten_21 : decode cX6_flatten 21 = .ok (.aload_n 0, 1) := by decide +kernel
theorem dX6_flatten_22 : decode cX6_flatten 22 = .ok (.getfield 25, 3) := by decide +kernel
theorem dX6_flatten_25 : decode cX6_flatten 25 = .ok (.iconst 0, 1) := by decide +kernel
theorem dX6_flatten_26 : decode cX6_flatten 26 = .ok (.iaload, 1) := by decide +kernel
theorem dX6_flatten_27 : decode cX6_flatten 27 = .ok (.invokevirtual 202, 3) := by decide +kernel
theorem dX6_flatten_30 : decode cX6_flatten 30 = .ok (.aload_n 0, 1) := by decide +kernel
theorem dX6_flatten_31 : decode cX6_flatten 31 = .ok (.getfield 28, 3) := by decide +kernel
theorem dX6_flatten_34 : decode cX6_flatten 34 = .ok (.iconst 0, 1) := by decide +kernel
theorem dX6_flatten_35 : decode cX6_flatten 35 = .ok (.iaload, 1) := by decide +kernel
theorem dX6_flatten_36 : decode cX6_flatten 36 = .ok (.ireturn, 1) := by decide +kernel
set_option maxRecDepth 20000 in
theorem ggX6_ledgerOf_X6_tall : GoodIn wsX6_ledgerOf wsX6_tall := goodIn_r _ [12, 13, 14, 15, 16, 11, 17, 18, 35, 36, 37, 38, 39, 40, 41, 42, 43, 44, 45, 46, 47, 48, 49, 50, 51, 52, 53, 54, 55, 56, 57, 58, 59, 60, 61, 62, 63, 64, 65, 66, 67, 68, 69, 70, 71, 72, 73, 74, 75, 76, 77, 78, 79, 80, 81, 82, 83, 84] rfl (by decide +kernel)
set_option maxRecDepth 20000 in
theorem gX6_ledgerOf_X6_tall : GoodIn wsX6_ledgerOf (wsV RX6 258 RX6 yX6_tall wsX6_tall) := goodIn_app (goodIn_of _ (by decide +kernel)) ggX6_ledgerOf_X6_tall
set_option maxRecDepth 20000 in
theorem ggX6_ledgerOf_X6_limit : GoodIn wsX6_ledgerOf wsX6_limit := goodIn_r _ [22, 23, 24, 25, 11, 26, 27, 28, 29, 30, 31, 32, 33, 34, 35, 36, 37, 38, 39, 40, 41, 42, 43, 44, 45, 46, 47, 48, 49, 50, 51, 52, 53, 54, 55, 56, 57, 58, 59, 60, 61, 62, 63, 64, 65, 66, 67, 68, 69, 70, 71, 72, 73, 74, 75, 76, 77, 78, 79, 80, 81, 82, 83, 84] rfl (by decide +kernel)
set_option maxRecDepth 20000 in
theorem gX6_ledgerOf_X6_limit : GoodIn wsX6_ledgerOf (wsV RX6 196 RX6 yX6_limit wsX6_limit) := goodIn_app (goodIn_of _ (by decide +kernel)) ggX6_ledgerOf_X6_limit
theorem dX6_ledgerOf_0 : decode cX6_ledgerOf 0 = .ok (.iload_n 1, 1) := by decide +kernel
theorem dX6_ledgerOf_1 : decode cX6_ledgerOf 1 = .ok (.tableswitch 89 0 5 #[39, 45, 57, 64, 73, 82], 39) := by decide +kernel
theorem dX6_ledgerOf_40 : decode cX6_ledgerOf 40 = .ok (.aload_n 0, 1) := by decide +kernel
theorem dX6_ledgerOf_41 : decode cX6_ledgerOf 41 = .ok (.iconst 0, 1) := by decide +kernel
theorem dX6_ledgerOf_42 : decode cX6_ledgerOf 42 = .ok (.invokevirtual 258, 3) := by decide +kernel
theorem dX6_ledgerOf_45 : decode cX6_ledgerOf 45 = .ok (.ireturn, 1) := by decide +kernel
theorem dX6_ledgerOf_46 : decode cX6_ledgerOf 46 = .ok (.aload_n 0, 1) := by decide +kernel
theorem dX6_ledgerOf_47 : decode cX6_ledgerOf 47 = .ok (.iconst 0, 1) := by decide +kernel
theorem dX6_ledgerOf_48 : decode cX6_ledgerOf 48 = .ok (.aload_n 0, 1) := by decide +kernel
theorem dX6_ledgerOf_49 : decode cX6_ledgerOf 49 = .ok (.getfield 28, 3) := by decide +kernel
theorem dX6_ledgerOf_52 : decode cX6_ledgerOf 52 = .ok (.iconst 0, 1) := by decide +kernel
theorem dX6_ledgerOf_53 : decode cX6_ledgerOf 53 = .ok (.iaload, 1) := by decide +kernel
theorem dX6_ledgerOf_54 : decode cX6_ledgerOf 54 = .ok (.invokevirtual 196, 3) := by decide +kernel
theorem dX6_ledgerOf_57 : decode cX6_ledgerOf 57 = .ok (.ireturn, 1) := by decide +kernel
theorem dX6_ledgerOf_58 : decode cX6_ledgerOf 58 = .ok (.aload_n 0, 1) := by decide +kernel
theorem dX6_ledgerOf_59 : decode cX6_ledgerOf 59 = .ok (.getfield 31, 3) := by decide +kernel
theorem dX6_ledgerOf_62 : decode cX6_ledgerOf 62 = .ok (.iconst 0, 1) := by decide +kernel
theorem dX6_ledgerOf_63 : decode cX6_ledgerOf 63 = .ok (.iaload, 1) := by decide +kernel
theorem dX6_ledgerOf_64 : decode cX6_ledgerOf 64 = .ok (.ireturn, 1) := by decide +kernel
theorem dX6_ledgerOf_65 : decode cX6_ledgerOf 65 = .ok (.ldc_w 261, 3) := by decide +kernel
theorem dX6_ledgerOf_68 : decode cX6_ledgerOf 68 = .ok (.aload_n 0, 1) := by decide +kernel
theorem dX6_ledgerOf_69 : decode cX6_ledgerOf 69 = .ok (.getfield 184, 3) := by decide +kernel
theorem dX6_ledgerOf_72 : decode cX6_ledgerOf 72 = .ok (.iadd, 1) := by decide +kernel
theorem dX6_ledgerOf_73 : decode cX6_ledgerOf 73 = .ok (.ireturn, 1) := by decide +kernel
theorem dX6_ledgerOf_74 : decode cX6_ledgerOf 74 = .ok (.ldc_w 261, 3) := by decide +kernel
theorem dX6_ledgerOf_77 : decode cX6_ledgerOf 77 = .ok (.aload_n 0, 1) := by decide +kernel
theorem dX6_ledgerOf_78 : decode cX6_ledgerOf 78 = .ok (.getfield 187, 3) := by decide +kernel
theorem dX6_ledgerOf_81 : decode cX6_ledgerOf 81 = .ok (.iadd, 1) := by decide +kernel
theorem dX6_ledgerOf_82 : decode cX6_ledgerOf 82 = .ok (.ireturn, 1) := by decide +kernel
theorem dX6_ledgerOf_83 : decode cX6_ledgerOf 83 = .ok (.aload_n 0, 1) := by decide +kernel
theorem dX6_ledgerOf_84 : decode cX6_ledgerOf 84 = .ok (.getfield 34, 3) := by decide +kernel
theorem dX6_ledgerOf_87 : decode cX6_ledgerOf 87 = .ok (.iconst 0, 1) := by decide +kernel
theorem dX6_ledgerOf_88 : decode cX6_ledgerOf 88 = .ok (.iaload, 1) := by decide +kernel
theorem dX6_ledgerOf_89 : decode cX6_ledgerOf 89 = .ok (.ireturn, 1) := by decide +kernel
theorem dX6_ledgerOf_90 : decode cX6_ledgerOf 90 = .ok (.aload_n 0, 1) := by decide +kernel
theorem dX6_ledgerOf_91 : decode cX6_ledgerOf 91 = .ok (.getfield 37, 3) := by decide +kernel
theorem dX6_ledgerOf_94 : decode cX6_ledgerOf 94 = .ok (.iconst 0, 1) := by decide +kernel
theorem dX6_ledgerOf_95 : decode cX6_ledgerOf 95 = .ok (.iaload, 1) := by decide +kernel
theorem dX6_ledgerOf_96 : decode cX6_ledgerOf 96 = .ok (.ireturn, 1) := by decide +kernel
set_option maxRecDepth 20000 in
theorem ggX6_ledger_X6_in : GoodIn wsX6_ledger wsX6_in := goodIn_r _ [5] rfl (by decide +kernel)
set_option maxRecDepth 20000 in
theorem gX6_ledger_X6_in : GoodIn wsX6_ledger (va_wsS RX6 94 yX6_in wsX6_in) := goodIn_app (goodIn_of _ (by decide +kernel)) ggX6_ledger_X6_in
set_option maxRecDepth 20000 in
theorem ggX6_ledger_X6_lacks : GoodIn wsX6_ledger wsX6_lacks := goodIn_r _ [9, 10, 47, 48, 49, 50, 51, 52, 53, 54, 55, 56, 57, 58, 59, 60, 61, 62, 63, 64, 65, 66, 67, 68, 69, 70, 71, 72, 73, 74, 75, 76, 77, 78, 79, 80, 81, 82, 83, 84, 85, 86, 87, 88, 89, 90, 91, 92, 93, 94, 95, 96] rfl (by decide +kernel)
set_option maxRecDepth 20000 in
theorem gX6_ledger_X6_lacks : GoodIn wsX6_ledger (wsV RX6 236 RX6 yX6_lacks wsX6_lacks) := goodIn_app (goodIn_of _ (by decide +kernel)) ggX6_ledger_X6_lacks
set_option maxRecDepth 20000 in
theorem ggX6_ledger_X6_ledgerOf : GoodIn wsX6_ledger wsX6_ledgerOf := goodIn_r _ [14, 15, 16, 17, 18, 19, 20, 21, 22, 23, 24, 4, 25, 26, 27, 28, 29, 30, 31, 32, 33, 34, 35, 36, 37, 38, 39, 10, 40, 41, 42, 43, 44, 45, 46, 47, 48, 49, 50, 51, 52, 53, 54, 55, 56, 57, 58, 59, 60, 61, 62, 63, 64, 65, 66, 67, 68, 69, 70, 71, 72, 73, 74, 75, 76, 77, 78, 79, 80, 81, 82, 83, 84, 85, 86, 87, 88, 89, 90, 91, 92, 93, 94, 95, 96] rfl (by decide +kernel)
set_option maxRecDepth 20000 in
theorem gX6_ledger_X6_ledgerOf : GoodIn wsX6_ledger (wsV RX6 264 RX6 yX6_ledgerOf wsX6_ledgerOf) := goodIn_app (goodIn_of _ (by decide +kernel)) ggX6_ledger_X6_ledgerOf
theorem dX6_ledger_0 : decode cX6_ledger 0 = .ok (.iload_n 1, 1) := by decide +kernel
theorem dX6_ledger_1 : decode cX6_ledger 1 = .ok (.i2l, 1) := by decide +kernel
theorem dX6_ledger_2 : decode cX6_ledger 2 = .ok (.lconst 0, 1) := by decide +kernel
theorem dX6_ledger_3 : decode cX6_ledger 3 = .ok (.ldc2_w 262, 3) := by decide +kernel
theorem dX6_ledger_6 : decode cX6_ledger 6 = .ok (.invokestatic 94, 3) := by decide +kernel
theorem dX6_ledger_9 : decode cX6_ledger 9 = .ok (.ifCond .ne 6, 3) := by decide +kernel
theorem dX6_ledger_12 : decode cX6_ledger 12 = .ok (.bipush (-102), 2) := by decide +kernel
theorem dX6_ledger_14 : decode cX6_ledger 14 = .ok (.ireturn, 1) := by decide +kernel
theorem dX6_ledger_15 : decode cX6_ledger 15 = .ok (.aload_n 0, 1) := by decide +kernel
theorem dX6_ledger_16 : decode cX6_ledger 16 = .ok (.invokevirtual 236, 3) := by decide +kernel
theorem dX6_ledger_19 : decode cX6_ledger 19 = .ok (.ifCond .eq 8, 3) := by decide +kernel
theorem dX6_ledger_22 : decode cX6_ledger 22 = .ok (.bipush (-103), 2) := by decide +kernel
theorem dX6_ledger_24 : decode cX6_ledger 24 = .ok (.goto 8, 3) := by decide +kernel
theorem dX6_ledger_27 : decode cX6_ledger 27 = .ok (.aload_n 0, 1) := by decide +kernel
theorem dX6_ledger_28 : decode cX6_ledger 28 = .ok (.iload_n 1, 1) := by decide +kernel
theorem dX6_ledger_29 : decode cX6_ledger 29 = .ok (.invokevirtual 264, 3) := by decide +kernel
theorem dX6_ledger_32 : decode cX6_ledger 32 = .ok (.ireturn, 1) := by decide +kernel
set_option maxRecDepth 20000 in
theorem ggX6_wouldOf_X6_begin : GoodIn wsX6_wouldOf wsX6_begin := goodIn_r _ [7, 8, 9, 10, 1, 11, 12, 13, 14, 15, 16, 17, 18, 19, 83, 84, 85, 86, 87, 88, 89, 90, 91, 92, 93, 94, 95, 96, 97, 98, 99, 100, 101, 102, 103, 104, 105, 106, 107, 108, 109, 110, 111, 112, 113, 114, 115, 116, 117, 118, 119, 120, 121, 122, 123, 124, 125, 126, 127, 128, 129, 130, 131, 132] rfl (by decide +kernel)
set_option maxRecDepth 20000 in
theorem gX6_wouldOf_X6_begin : GoodIn wsX6_wouldOf (wsV RX6 267 RX6 yX6_begin wsX6_begin) := goodIn_app (goodIn_of _ (by decide +kernel)) ggX6_wouldOf_X6_begin
set_option maxRecDepth 20000 in
theorem ggX6_wouldOf_X6_enter : GoodIn wsX6_wouldOf wsX6_enter := goodIn_r _ [23, 2, 24, 12, 10, 25, 26, 27, 6, 28, 11, 8, 9, 1, 13, 29, 30, 31, 32, 33, 34, 35, 36, 37, 38, 39, 40, 41, 42, 43, 44, 45, 46, 47, 48, 49, 50, 18, 19, 51, 52, 53, 54, 16, 17, 55, 56, 57, 58, 59, 60, 61, 62, 63, 64, 65, 66, 67, 68, 69, 70, 71, 72, 73, 74, 14, 15, 75, 76, 77, 78, 79, 80, 81, 82, 83, 84, 85, 86, 87, 88, 89, 90, 91, 92, 93, 94, 95, 96, 97, 98, 99, 100, 101, 102, 103, 104, 105, 106, 107, 108, 109, 110, 111, 112, 113, 114, 115, 116, 117, 118, 119, 120, 121, 122, 123, 124, 125, 126, 127, 128, 129, 130, 131, 132] rfl (by decide +kernel)
set_option maxRecDepth 20000 in
theorem gX6_wouldOf_X6_enter : GoodIn wsX6_wouldOf (wsV RX6 227 RX6 yX6_enter wsX6_enter) := goodIn_app (goodIn_of _ (by decide +kernel)) ggX6_wouldOf_X6_enter
theorem dX6_wouldOf_0 : decode cX6_wouldOf 0 = .ok (.aload_n 0, 1) := by decide +kernel
theorem dX6_wouldOf_1 : decode cX6_wouldOf 1 = .ok (.getfield 22, 3) := by decide +kernel
theorem dX6_wouldOf_4 : decode cX6_wouldOf 4 = .ok (.iload_n 1, 1) := by decide +kernel
theorem dX6_wouldOf_5 : decode cX6_wouldOf 5 = .ok (.iaload, 1) := by decide +kernel
theorem dX6_wouldOf_6 : decode cX6_wouldOf 6 = .ok (.iconst 1, 1) := by decide +kernel
theorem dX6_wouldOf_7 : decode cX6_wouldOf 7 = .ok (.if_icmp .ne 5, 3) := by decide +kernel
theorem dX6_wouldOf_10 : decode cX6_wouldOf 10 = .ok (.iconst (-1), 1) := by decide +kernel
theorem dX6_wouldOf_11 : decode cX6_wouldOf 11 = .ok (.ireturn, 1) := by decide +kernel
theorem dX6_wouldOf_12 : decode cX6_wouldOf 12 = .ok (.aload_n 0, 1) := by decide +kernel
theorem dX6_wouldOf_13 : decode cX6_wouldOf 13 = .ok (.invokevirtual 267, 3) := by decide +kernel
theorem dX6_wouldOf_16 : decode cX6_wouldOf 16 = .ok (.aload_n 0, 1) := by decide +kernel
theorem dX6_wouldOf_17 : decode cX6_wouldOf 17 = .ok (.iconst 1, 1) := by decide +kernel
theorem dX6_wouldOf_18 : decode cX6_wouldOf 18 = .ok (.iload_n 1, 1) := by decide +kernel
theorem dX6_wouldOf_19 : decode cX6_wouldOf 19 = .ok (.invokevirtual 227, 3) := by decide +kernel
theorem dX6_wouldOf_22 : decode cX6_wouldOf 22 = .ok (.aload_n 0, 1) := by decide +kernel
theorem dX6_wouldOf_23 : decode cX6_wouldOf 23 = .ok (.getfield 171, 3) := by decide +kernel
theorem dX6_wouldOf_26 : decode cX6_wouldOf 26 = .ok (.ireturn, 1) := by decide +kernel
set_option maxRecDepth 20000 in
theorem ggX6_would_X6_in : GoodIn wsX6_would wsX6_in := goodIn_r _ [6] rfl (by decide +kernel)
set_option maxRecDepth 20000 in
theorem gX6_would_X6_in : GoodIn wsX6_would (va_wsS RX6 94 yX6_in wsX6_in) := goodIn_app (goodIn_of _ (by decide +kernel)) ggX6_would_X6_in
set_option maxRecDepth 20000 in
theorem ggX6_would_X6_lacks : GoodIn wsX6_would wsX6_lacks := goodIn_r _ [10, 11, 95, 96, 97, 98, 99, 100, 101, 102, 103, 104, 105, 106, 107, 108, 109, 110, 111, 112, 113, 114, 115, 116, 117, 118, 119, 120, 121, 122, 123, 124, 125, 126, 127, 128, 129, 130, 131, 132, 133, 134, 135, 136, 137, 138, 139, 140, 141, 142, 143, 144] rfl (by decide +kernel)
set_option maxRecDepth 20000 in
theorem gX6_would_X6_lacks : GoodIn wsX6_would (wsV RX6 236 RX6 yX6_lacks wsX6_lacks) := goodIn_app (goodIn_of _ (by decide +kernel)) ggX6_would_X6_lacks
set_option maxRecDepth 20000 in
theorem ggX6_would_X6_wouldOf : GoodIn wsX6_would wsX6_wouldOf := goodIn_r _ [15, 16, 17, 18, 19, 20, 5, 21, 22, 23, 24, 25, 2, 26, 27, 28, 29, 30, 11, 31, 32, 33, 34, 35, 36, 37, 38, 39, 40, 41, 42, 43, 44, 45, 46, 47, 48, 49, 50, 51, 52, 53, 54, 55, 56, 57, 58, 59, 60, 61, 62, 63, 64, 65, 66, 67, 68, 69, 70, 71, 72, 73, 74, 75, 76, 77, 78, 79, 80, 81, 82, 83, 84, 85, 86, 87, 88, 89, 90, 91, 92, 93, 94, 95, 96, 97, 98, 99, 100, 101, 102, 103, 104, 105, 106, 107, 108, 109, 110, 111, 112, 113, 114, 115, 116, 117, 118, 119, 120, 121, 122, 123, 124, 125, 126, 127, 128, 129, 130, 131, 132, 133, 134, 135, 136, 137, 138, 139, 140, 141, 142, 143, 144] rfl (by decide +kernel)
set_option maxRecDepth 20000 in
theorem gX6_would_X6_wouldOf : GoodIn wsX6_would (wsV RX6 270 RX6 yX6_wouldOf wsX6_wouldOf) := goodIn_app (goodIn_of _ (by decide +kernel)) ggX6_would_X6_wouldOf
theorem dX6_would_0 : decode cX6_would 0 = .ok (.iload_n 1, 1) := by decide +kernel
theorem dX6_would_1 : decode cX6_would 1 = .ok (.i2l, 1) := by decide +kernel
theorem dX6_would_2 : decode cX6_would 2 = .ok (.lconst 0, 1) := by decide +kernel
theorem dX6_would_3 : decode cX6_would 3 = .ok (.ldc2_w 240, 3) := by decide +kernel
theorem dX6_would_6 : decode cX6_would 6 = .ok (.invokestatic 94, 3) := by decide +kernel
theorem dX6_would_9 : decode cX6_would 9 = .ok (.ifCond .ne 6, 3) := by decide +kernel
theorem dX6_would_12 : decode cX6_would 12 = .ok (.bipush (-102), 2) := by decide +kernel
theorem dX6_would_14 : decode cX6_would 14 = .ok (.ireturn, 1) := by decide +kernel
theorem dX6_would_15 : decode cX6_would 15 = .ok (.aload_n 0, 1) := by decide +kernel
theorem dX6_would_16 : decode cX6_would 16 = .ok (.invokevirtual 236, 3) := by decide +kernel
theorem dX6_would_19 : decode cX6_would 19 = .ok (.ifCond .ne 14, 3) := by decide +kernel
theorem dX6_would_22 : decode cX6_would 22 = .ok (.aload_n 0, 1) := by decide +kernel
theorem dX6_would_23 : decode cX6_would 23 = .ok (.getfield 28, 3) := by decide +kernel
theorem dX6_would_26 : decode cX6_would 26 = .ok (.iconst 0, 1) := by decide +kernel
theorem dX6_would_27 : decode cX6_would 27 = .ok (.iaload, 1) := by decide +kernel
theorem dX6_would_28 : decode cX6_would 28 = .ok (.bipush 40, 2) := by decide +kernel
theorem dX6_would_30 : decode cX6_would 30 = .ok (.if_icmp .ne 8, 3) := by decide +kernel
theorem dX6_would_33 : decode cX6_would 33 = .ok (.bipush (-103), 2) := by decide +kernel
theorem dX6_would_35 : decode cX6_would 35 = .ok (.goto 8, 3) := by decide +kernel
theorem dX6_would_38 : decode cX6_would 38 = .ok (.aload_n 0, 1) := by decide +kernel
theorem dX6_would_39 : decode cX6_would 39 = .ok (.iload_n 1, 1) := by decide +kernel
theorem dX6_would_40 : decode cX6_would 40 = .ok (.invokevirtual 270, 3) := by decide +kernel
theorem dX6_would_43 : decode cX6_would 43 = .ok (.ireturn, 1) := by decide +kernel
set_option maxRecDepth 20000 in
theorem ggX6_dearOf_X6_wouldOf : GoodIn wsX6_dearOf wsX6_wouldOf := goodIn_r _ [6, 7, 8, 9, 10, 11, 5, 12, 13, 14, 15, 16, 1, 17, 18, 19, 20, 21, 22, 23, 24, 25, 26, 27, 28, 29, 30, 31, 32, 33, 34, 35, 36, 37, 38, 39, 40, 41, 42, 43, 44, 45, 46, 47, 48, 49, 50, 51, 52, 53, 54, 55, 56, 57, 58, 59, 60, 61, 62, 63, 64, 65, 66, 67, 68, 69, 70, 71, 72, 73, 74, 75, 76, 77, 78, 79, 80, 81, 82, 83, 84, 85, 86, 87, 88, 89, 90, 91, 92, 93, 94, 95, 96, 97, 98, 99, 100, 101, 102, 103, 104, 105, 106, 107, 108, 109, 110, 111, 112, 113, 114, 115, 116, 117, 118, 119, 120, 121, 122, 123, 124, 125, 126, 127, 128, 129, 130, 131, 132, 133, 134, 135, 136] rfl (by decide +kernel)
set_option maxRecDepth 20000 in
theorem gX6_dearOf_X6_wouldOf : GoodIn wsX6_dearOf (wsV RX6 270 RX6 yX6_wouldOf wsX6_wouldOf) := goodIn_app (goodIn_of _ (by decide +kernel)) ggX6_dearOf_X6_wouldOf
theorem dX6_dearOf_0 : decode cX6_dearOf 0 = .ok (.iconst (-1), 1) := by decide +kernel
theorem dX6_dearOf_1 : decode cX6_dearOf 1 = .ok (.istore_n 2, 1) := by decide +kernel
theorem dX6_dearOf_2 : decode cX6_dearOf 2 = .ok (.iconst (-1), 1) := by decide +kernel
theorem dX6_dearOf_3 : decode cX6_dearOf 3 = .ok (.istore_n 3, 1) := by decide +kernel
theorem dX6_dearOf_4 : decode cX6_dearOf 4 = .ok (.iconst 0, 1) := by decide +kernel
theorem dX6_dearOf_5 : decode cX6_dearOf 5 = .ok (.istore 4, 2) := by decide +kernel
theorem dX6_dearOf_7 : decode cX6_dearOf 7 = .ok (.iload 4, 2) := by decide +kernel
theorem dX6_dearOf_9 : decode cX6_dearOf 9 = .ok (.bipush 100, 2) := by decide +kernel
theorem dX6_dearOf_11 : decode cX6_dearOf 11 = .ok (.if_icmp .ge 54, 3) := by decide +kernel
theorem dX6_dearOf_14 : decode cX6_dearOf 14 = .ok (.aload_n 0, 1) := by decide +kernel
theorem dX6_dearOf_15 : decode cX6_dearOf 15 = .ok (.getfield 28, 3) := by decide +kernel
theorem dX6_dearOf_18 : decode cX6_dearOf 18 = .ok (.iconst 0, 1) := by decide +kernel
theorem dX6_dearOf_19 : decode cX6_dearOf 19 = .ok (.iaload, 1) := by decide +kernel
theorem dX6_dearOf_20 : decode cX6_dearOf 20 = .ok (.bipush 40, 2) := by decide +kernel
theorem dX6_dearOf_22 : decode cX6_dearOf 22 = .ok (.if_icmp .ge 43, 3) := by decide +kernel
theorem dX6_dearOf_25 : decode cX6_dearOf 25 = .ok (.aload_n 0, 1) := by decide +kernel
theorem dX6_dearOf_26 : decode cX6_dearOf 26 = .ok (.iload 4, 2) := by decide +kernel
theorem dX6_dearOf_28 : decode cX6_dearOf 28 = .ok (.invokevirtual 270, 3) := by decide +kernel
theorem dX6_dearOf_31 : decode cX6_dearOf 31 = .ok (.istore 5, 2) := by decide +kernel
theorem dX6_dearOf_33 : decode cX6_dearOf 33 = .ok (.iload 5, 2) := by decide +kernel
theorem dX6_dearOf_35 : decode cX6_dearOf 35 = .ok (.iload_n 3, 1) := by decide +kernel
theorem dX6_dearOf_36 : decode cX6_dearOf 36 = .ok (.if_icmp .le 8, 3) := by decide +kernel
theorem dX6_dearOf_39 : decode cX6_dearOf 39 = .ok (.iload 4, 2) := by decide +kernel
theorem dX6_dearOf_41 : decode cX6_dearOf 41 = .ok (.goto 4, 3) := by decide +kernel
theorem dX6_dearOf_44 : decode cX6_dearOf 44 = .ok (.iload_n 2, 1) := by decide +kernel
theorem dX6_dearOf_45 : decode cX6_dearOf 45 = .ok (.istore_n 2, 1) := by decide +kernel
theorem dX6_dearOf_46 : decode cX6_dearOf 46 = .ok (.iload 5, 2) := by decide +kernel
theorem dX6_dearOf_48 : decode cX6_dearOf 48 = .ok (.iload_n 3, 1) := by decide +kernel
theorem dX6_dearOf_49 : decode cX6_dearOf 49 = .ok (.if_icmp .le 8, 3) := by decide +kernel
theorem dX6_dearOf_52 : decode cX6_dearOf 52 = .ok (.iload 5, 2) := by decide +kernel
theorem dX6_dearOf_54 : decode cX6_dearOf 54 = .ok (.goto 4, 3) := by decide +kernel
theorem dX6_dearOf_57 : decode cX6_dearOf 57 = .ok (.iload_n 3, 1) := by decide +kernel
theorem dX6_dearOf_58 : decode cX6_dearOf 58 = .ok (.istore_n 3, 1) := by decide +kernel
theorem dX6_dearOf_59 : decode cX6_dearOf 59 = .ok (.iinc 4 1, 3) := by decide +kernel
theorem dX6_dearOf_62 : decode cX6_dearOf 62 = .ok (.goto (-55), 3) := by decide +kernel
theorem dX6_dearOf_65 : decode cX6_dearOf 65 = .ok (.iload_n 1, 1) := by decide +kernel
theorem dX6_dearOf_66 : decode cX6_dearOf 66 = .ok (.ifCond .ne 7, 3) := by decide +kernel
theorem dX6_dearOf_69 : decode cX6_dearOf 69 = .ok (.iload_n 2, 1) := by decide +kernel
theorem dX6_dearOf_70 : decode cX6_dearOf 70 = .ok (.goto 4, 3) := by decide +kernel
theorem dX6_dearOf_73 : decode cX6_dearOf 73 = .ok (.iload_n 3, 1) := by decide +kernel
theorem dX6_dearOf_74 : decode cX6_dearOf 74 = .ok (.ireturn, 1) := by decide +kernel
set_option maxRecDepth 20000 in
theorem ggX6_dear_X6_in : GoodIn wsX6_dear wsX6_in := goodIn_r _ [4] rfl (by decide +kernel)
set_option maxRecDepth 20000 in
theorem gX6_dear_X6_in : GoodIn wsX6_dear (va_wsS RX6 94 yX6_in wsX6_in) := goodIn_app (goodIn_of _ (by decide +kernel)) ggX6_dear_X6_in
set_option maxRecDepth 20000 in
theorem ggX6_dear_X6_lacks : GoodIn wsX6_dear wsX6_lacks := goodIn_r _ [8, 9, 98, 99, 100, 101, 102, 103, 104, 105, 106, 107, 108, 109, 110, 111, 112, 113, 114, 115, 116, 117, 118, 119, 120, 121, 122, 123, 124, 125, 126, 127, 128, 129, 130, 131, 132, 133, 134, 135, 136, 137, 138, 139, 140, 141, 142, 143, 144, 145, 146, 147] rfl (by decide +kernel)
set_option maxRecDepth 20000 in
theorem gX6_dear_X6_lacks : GoodIn wsX6_dear (wsV RX6 236 RX6 yX6_lacks wsX6_lacks) := goodIn_app (goodIn_of _ (by decide +kernel)) ggX6_dear_X6_lacks
set_option maxRecDepth 20000 in
theorem ggX6_dear_X6_dearOf : GoodIn wsX6_dear wsX6_dearOf := goodIn_r _ [13, 14, 15, 16, 17, 3, 18, 19, 20, 21, 22, 23, 24, 25, 26, 27, 28, 29, 30, 31, 32, 33, 9, 34, 35, 36, 37, 38, 39, 40, 41, 42, 43, 44, 45, 46, 47, 48, 49, 50, 51, 52, 53, 54, 55, 56, 57, 58, 59, 60, 61, 62, 63, 64, 65, 66, 67, 68, 69, 70, 71, 72, 73, 74, 75, 76, 77, 78, 79, 80, 81, 82, 83, 84, 85, 86, 87, 88, 89, 90, 91, 92, 93, 94, 95, 96, 97, 98, 99, 100, 101, 102, 103, 104, 105, 106, 107, 108, 109, 110, 111, 112, 113, 114, 115, 116, 117, 118, 119, 120, 121, 122, 123, 124, 125, 126, 127, 128, 129, 130, 131, 132, 133, 134, 135, 136, 137, 138, 139, 140, 141, 142, 143, 144, 145, 146, 147] rfl (by decide +kernel)
set_option maxRecDepth 20000 in
theorem gX6_dear_X6_dearOf : GoodIn wsX6_dear (wsV RX6 273 RX6 yX6_dearOf wsX6_dearOf) := goodIn_app (goodIn_of _ (by decide +kernel)) ggX6_dear_X6_dearOf
theorem dX6_dear_0 : decode cX6_dear 0 = .ok (.iload_n 1, 1) := by decide +kernel
theorem dX6_dear_1 : decode cX6_dear 1 = .ok (.i2l, 1) := by decide +kernel
theorem dX6_dear_2 : decode cX6_dear 2 = .ok (.lconst 0, 1) := by decide +kernel
theorem dX6_dear_3 : decode cX6_dear 3 = .ok (.lconst 1, 1) := by decide +kernel
theorem dX6_dear_4 : decode cX6_dear 4 = .ok (.invokestatic 94, 3) := by decide +kernel
theorem dX6_dear_7 : decode cX6_dear 7 = .ok (.ifCond .ne 6, 3) := by decide +kernel
theorem dX6_dear_10 : decode cX6_dear 10 = .ok (.bipush (-102), 2) := by decide +kernel
theorem dX6_dear_12 : decode cX6_dear 12 = .ok (.ireturn, 1) := by decide +kernel
theorem dX6_dear_13 : decode cX6_dear 13 = .ok (.aload_n 0, 1) := by decide +kernel
theorem dX6_dear_14 : decode cX6_dear 14 = .ok (.invokevirtual 236, 3) := by decide +kernel
theorem dX6_dear_17 : decode cX6_dear 17 = .ok (.ifCond .eq 8, 3) := by decide +kernel
theorem dX6_dear_20 : decode cX6_dear 20 = .ok (.bipush (-103), 2) := by decide +kernel
theorem dX6_dear_22 : decode cX6_dear 22 = .ok (.goto 8, 3) := by decide +kernel
theorem dX6_dear_25 : decode cX6_dear 25 = .ok (.aload_n 0, 1) := by decide +kernel
theorem dX6_dear_26 : decode cX6_dear 26 = .ok (.iload_n 1, 1) := by decide +kernel
theorem dX6_dear_27 : decode cX6_dear 27 = .ok (.invokevirtual 273, 3) := by decide +kernel
theorem dX6_dear_30 : decode cX6_dear 30 = .ok (.ireturn, 1) := by decide +kernel
set_option maxRecDepth 20000 in
theorem ggX6_replayOf_X6_empty : GoodIn wsX6_replayOf wsX6_empty := goodIn_r _ [10, 11, 12, 13, 14, 15, 5, 101, 102, 103, 104, 105, 106, 107, 108, 109, 110, 111, 112, 113, 114, 115, 116, 117, 118, 119, 120, 121, 122, 123, 124, 125, 126, 127, 128, 129, 130, 131, 132, 133, 134, 135, 136, 137, 138, 139, 140, 141, 142, 143, 144, 145, 146, 147, 148, 149, 150] rfl (by decide +kernel)
set_option maxRecDepth 20000 in
theorem gX6_replayOf_X6_empty : GoodIn wsX6_replayOf (wsV RX6 214 RX6 yX6_empty wsX6_empty) := goodIn_app (goodIn_of _ (by decide +kernel)) ggX6_replayOf_X6_empty
set_option maxRecDepth 20000 in
theorem ggX6_replayOf_X6_leave : GoodIn wsX6_replayOf wsX6_leave := goodIn_r _ [19, 20, 21, 13, 14, 12, 22, 23, 24, 9, 25, 26, 27, 28, 29, 30, 31, 32, 33, 34, 35, 36, 37, 38, 11, 39, 40, 41, 42, 43, 44, 45, 46, 47, 48, 49, 50, 51, 52, 53, 54, 55, 2, 56, 57, 58, 59, 60, 1, 61, 62, 63, 64, 65, 66, 67, 68, 15, 5, 69, 70, 71, 72, 73, 74, 75, 76, 77, 78, 79, 80, 101, 102, 103, 104, 105, 106, 107, 108, 109, 110, 111, 112, 113, 114, 115, 116, 117, 118, 119, 120, 121, 122, 123, 124, 125, 126, 127, 128, 129, 130, 131, 132, 133, 134, 135, 136, 137, 138, 139, 140, 141, 142, 143, 144, 145, 146, 147, 148, 149, 150] rfl (by decide +kernel)
set_option maxRecDepth 20000 in
theorem gX6_replayOf_X6_leave : GoodIn wsX6_replayOf (wsV RX6 233 RX6 yX6_leave wsX6_leave) := goodIn_app (goodIn_of _ (by decide +kernel)) ggX6_replayOf_X6_leave
set_option maxRecDepth 20000 in
theorem ggX6_replayOf_X6_enter : GoodIn wsX6_replayOf wsX6_enter := goodIn_r _ [84, 21, 20, 13, 26, 85, 86, 87, 9, 88, 12, 37, 38, 11, 14, 47, 48, 49, 50, 22, 23, 24, 25, 27, 28, 29, 30, 31, 32, 89, 90, 91, 92, 51, 52, 53, 54, 55, 2, 56, 57, 58, 59, 60, 1, 93, 94, 95, 96, 69, 70, 71, 72, 73, 74, 75, 76, 61, 62, 63, 64, 65, 66, 67, 68, 15, 5, 77, 78, 79, 80, 43, 44, 45, 46, 101, 102, 103, 104, 105, 106, 107, 108, 109, 110, 111, 112, 113, 114, 115, 116, 117, 118, 119, 120, 121, 122, 123, 124, 125, 126, 127, 128, 129, 130, 131, 132, 133, 134, 135, 136, 137, 138, 139, 140, 141, 142, 143, 144, 145, 146, 147, 148, 149, 150] rfl (by decide +kernel)
set_option maxRecDepth 20000 in
theorem gX6_replayOf_X6_enter : GoodIn wsX6_replayOf (wsV RX6 227 RX6 yX6_enter wsX6_enter) := goodIn_app (goodIn_of _ (by decide +kernel)) ggX6_replayOf_X6_enter
set_option maxRecDepth 20000 in
theorem ggX6_replayOf_X6_tall : GoodIn wsX6_replayOf wsX6_tall := goodIn_r _ [100, 11, 22, 23, 24, 9, 25, 26, 101, 102, 103, 104, 105, 106, 107, 108, 109, 110, 111, 112, 113, 114, 115, 116, 117, 118, 119, 120, 121, 122, 123, 124, 125, 126, 127, 128, 129, 130, 131, 132, 133, 134, 135, 136, 137, 138, 139, 140, 141, 142, 143, 144, 145, 146, 147, 148, 149, 150] rfl (by decide +kernel)
set_option maxRecDepth 20000 in
theorem gX6_replayOf_X6_tall : GoodIn wsX6_replayOf (wsV RX6 258 RX6 yX6_tall wsX6_tall) := goodIn_app (goodIn_of _ (by decide +kernel)) ggX6_replayOf_X6_tall
theorem dX6_replayOf_0 : decode cX6_replayOf 0 = .ok (.aload_n 0, 1) := by decide +kernel
theorem dX6_replayOf_1 : decode cX6_replayOf 1 = .ok (.iconst 1, 1) := by decide +kernel
theorem dX6_replayOf_2 : decode cX6_replayOf 2 = .ok (.invokevirtual 214, 3) := by decide +kernel
theorem dX6_replayOf_5 : decode cX6_replayOf 5 = .ok (.aload_n 0, 1) := by decide +kernel
theorem dX6_replayOf_6 : decode cX6_replayOf 6 = .ok (.iload_n 1, 1) := by decide +kernel
theorem dX6_replayOf_7 : decode cX6_replayOf 7 = .ok (.putfield 141, 3) := by decide +kernel
theorem dX6_replayOf_10 : decode cX6_replayOf 10 = .ok (.aload_n 0, 1) := by decide +kernel
theorem dX6_replayOf_11 : decode cX6_replayOf 11 = .ok (.iload_n 2, 1) := by decide +kernel
theorem dX6_replayOf_12 : decode cX6_replayOf 12 = .ok (.putfield 147, 3) := by decide +kernel
theorem dX6_replayOf_15 : decode cX6_replayOf 15 = .ok (.iconst 0, 1) := by decide +kernel
theorem dX6_replayOf_16 : decode cX6_replayOf 16 = .ok (.istore 4, 2) := by decide +kernel
theorem dX6_replayOf_18 : decode cX6_replayOf 18 = .ok (.iload 4, 2) := by decide +kernel
theorem dX6_replayOf_20 : decode cX6_replayOf 20 = .ok (.aload_n 0, 1) := by decide +kernel
theorem dX6_replayOf_21 : decode cX6_replayOf 21 = .ok (.getfield 211, 3) := by decide +kernel
theorem dX6_replayOf_24 : decode cX6_replayOf 24 = .ok (.if_icmp .ge 48, 3) := by decide +kernel
theorem dX6_replayOf_27 : decode cX6_replayOf 27 = .ok (.aload_n 0, 1) := by decide +kernel
theorem dX6_replayOf_28 : decode cX6_replayOf 28 = .ok (.getfield 46, 3) := by decide +kernel
theorem dX6_replayOf_31 : decode cX6_replayOf 31 = .ok (.iload 4, 2) := by decide +kernel
theorem dX6_replayOf_33 : decode cX6_replayOf 33 = .ok (.iaload, 1) := by decide +kernel
theorem dX6_replayOf_34 : decode cX6_replayOf 34 = .ok (.ifCond .ge 20, 3) := by decide +kernel
theorem dX6_replayOf_37 : decode cX6_replayOf 37 = .ok (.aload_n 0, 1) := by decide +kernel
theorem dX6_replayOf_38 : decode cX6_replayOf 38 = .ok (.iconst 1, 1) := by decide +kernel
theorem dX6_replayOf_39 : decode cX6_replayOf 39 = .ok (.iconst (-1), 1) := by decide +kernel
theorem dX6_replayOf_40 : decode cX6_replayOf 40 = .ok (.aload_n 0, 1) := by decide +kernel
theorem dX6_replayOf_41 : decode cX6_replayOf 41 = .ok (.getfield 46, 3) := by decide +kernel
theorem dX6_replayOf_44 : decode cX6_replayOf 44 = .ok (.iload 4, 2) := by decide +kernel
theorem dX6_replayOf_46 : decode cX6_replayOf 46 = .ok (.iaload, 1) := by decide +kernel
theorem dX6_replayOf_47 : decode cX6_replayOf 47 = .ok (.isub, 1) := by decide +kernel
theorem dX6_replayOf_48 : decode cX6_replayOf 48 = .ok (.invokevirtual 233, 3) := by decide +kernel
theorem dX6_replayOf_51 : decode cX6_replayOf 51 = .ok (.goto 15, 3) := by decide +kernel
theorem dX6_replayOf_54 : decode cX6_replayOf 54 = .ok (.aload_n 0, 1) := by decide +kernel
theorem dX6_replayOf_55 : decode cX6_replayOf 55 = .ok (.iconst 1, 1) := by decide +kernel
theorem dX6_replayOf_56 : decode cX6_replayOf 56 = .ok (.aload_n 0, 1) := by decide +kernel
theorem dX6_replayOf_57 : decode cX6_replayOf 57 = .ok (.getfield 46, 3) := by decide +kernel
theorem dX6_replayOf_60 : decode cX6_replayOf 60 = .ok (.iload 4, 2) := by decide +kernel
theorem dX6_replayOf_62 : decode cX6_replayOf 62 = .ok (.iaload, 1) := by decide +kernel
theorem dX6_replayOf_63 : decode cX6_replayOf 63 = .ok (.invokevirtual 227, 3) := by decide +kernel
theorem dX6_replayOf_66 : decode cX6_replayOf 66 = .ok (.iinc 4 1, 3) := by decide +kernel
theorem dX6_replayOf_69 : decode cX6_replayOf 69 = .ok (.goto (-51), 3) := by decide +kernel
theorem dX6_replayOf_72 : decode cX6_replayOf 72 = .ok (.iload_n 3, 1) := by decide +kernel
theorem dX6_replayOf_73 : decode cX6_replayOf 73 = .ok (.ifCond .ne 12, 3) := by decide +kernel
theorem dX6_replayOf_76 : decode cX6_replayOf 76 = .ok (.aload_n 0, 1) := by decide +kernel
theorem dX6_replayOf_77 : decode cX6_replayOf 77 = .ok (.getfield 37, 3) := by decide +kernel
theorem dX6_replayOf_80 : decode cX6_replayOf 80 = .ok (.iconst 1, 1) := by decide +kernel
theorem dX6_replayOf_81 : decode cX6_replayOf 81 = .ok (.iaload, 1) := by decide +kernel
theorem dX6_replayOf_82 : decode cX6_replayOf 82 = .ok (.goto 8, 3) := by decide +kernel
theorem dX6_replayOf_85 : decode cX6_replayOf 85 = .ok (.aload_n 0, 1) := by decide +kernel
theorem dX6_replayOf_86 : decode cX6_replayOf 86 = .ok (.iconst 1, 1) := by decide +kernel
theorem dX6_replayOf_87 : decode cX6_replayOf 87 = .ok (.invokevirtual 258, 3) := by decide +kernel
theorem dX6_replayOf_90 : decode cX6_replayOf 90 = .ok (.ireturn, 1) := by decide +kernel
set_option maxRecDepth 20000 in
theorem ggX6_replay_X6_in : GoodIn wsX6_replay wsX6_in := goodIn_r _ [5] rfl (by decide +kernel)
set_option maxRecDepth 20000 in
theorem gX6_replay_X6_in : GoodIn wsX6_replay (va_wsS RX6 94 yX6_in wsX6_in) := goodIn_app (goodIn_of _ (by decide +kernel)) ggX6_replay_X6_in
set_option maxRecDepth 20000 in
theorem ggX6_replay_X6_isRatio : GoodIn wsX6_replay wsX6_isRatio := goodIn_r _ [8, 1, 2, 3, 4, 5] rfl (by decide +kernel)
set_option maxRecDepth 20000 in
theorem gX6_replay_X6_isRatio : GoodIn wsX6_replay (va_wsS RX6 122 yX6_isRatio wsX6_isRatio) := goodIn_app (goodIn_of _ (by decide +kernel)) ggX6_replay_X6_isRatio
set_option maxRecDepth 20000 in
theorem ggX6_replay_X6_lacks : GoodIn wsX6_replay wsX6_lacks := goodIn_r _ [12, 13, 116, 117, 118, 119, 120, 121, 122, 123, 124, 125, 126, 127, 128, 129, 130, 131, 132, 133, 134, 135, 136, 137, 138, 139, 140, 141, 142, 143, 144, 145, 146, 147, 148, 149, 150, 151, 152, 153, 154, 155, 156, 157, 158, 159, 160, 161, 162, 163, 164, 165] rfl (by decide +kernel)
set_option maxRecDepth 20000 in
theorem gX6_replay_X6_lacks : GoodIn wsX6_replay (wsV RX6 236 RX6 yX6_lacks wsX6_lacks) := goodIn_app (goodIn_of _ (by decide +kernel)) ggX6_replay_X6_lacks
set_option maxRecDepth 20000 in
theorem ggX6_replay_X6_replayOf : GoodIn wsX6_replay wsX6_replayOf := goodIn_r _ [17, 18, 19, 20, 21, 22, 23, 24, 25, 4, 26, 27, 28, 29, 30, 31, 32, 33, 34, 35, 36, 37, 38, 39, 40, 41, 42, 43, 44, 45, 46, 47, 48, 49, 50, 51, 52, 53, 54, 55, 56, 57, 58, 59, 60, 61, 62, 63, 64, 65, 66, 67, 68, 69, 70, 13, 71, 72, 73, 74, 75, 76, 77, 78, 79, 80, 81, 82, 83, 84, 85, 86, 87, 88, 89, 90, 91, 92, 93, 94, 95, 96, 97, 98, 99, 100, 101, 102, 103, 104, 105, 106, 107, 108, 109, 110, 111, 112, 113, 114, 115, 116, 117, 118, 119, 120, 121, 122, 123, 124, 125, 126, 127, 128, 129, 130, 131, 132, 133, 134, 135, 136, 137, 138, 139, 140, 141, 142, 143, 144, 145, 146, 147, 148, 149, 150, 151, 152, 153, 154, 155, 156, 157, 158, 159, 160, 161, 162, 163, 164, 165] rfl (by decide +kernel)
set_option maxRecDepth 20000 in
theorem gX6_replay_X6_replayOf : GoodIn wsX6_replay (wsV RX6 276 RX6 yX6_replayOf wsX6_replayOf) := goodIn_app (goodIn_of _ (by decide +kernel)) ggX6_replay_X6_replayOf
theorem dX6_replay_0 : decode cX6_replay 0 = .ok (.iload_n 1, 1) := by decide +kernel
theorem dX6_replay_1 : decode cX6_replay 1 = .ok (.i2l, 1) := by decide +kernel
theorem dX6_replay_2 : decode cX6_replay 2 = .ok (.lconst 1, 1) := by decide +kernel
theorem dX6_replay_3 : decode cX6_replay 3 = .ok (.ldc2_w 101, 3) := by decide +kernel
theorem dX6_replay_6 : decode cX6_replay 6 = .ok (.invokestatic 94, 3) := by decide +kernel
theorem dX6_replay_9 : decode cX6_replay 9 = .ok (.ifCond .eq 21, 3) := by decide +kernel
theorem dX6_replay_12 : decode cX6_replay 12 = .ok (.iload_n 1, 1) := by decide +kernel
theorem dX6_replay_13 : decode cX6_replay 13 = .ok (.iload_n 2, 1) := by decide +kernel
theorem dX6_replay_14 : decode cX6_replay 14 = .ok (.invokestatic 122, 3) := by decide +kernel
theorem dX6_replay_17 : decode cX6_replay 17 = .ok (.ifCond .eq 13, 3) := by decide +kernel
theorem dX6_replay_20 : decode cX6_replay 20 = .ok (.iload_n 3, 1) := by decide +kernel
theorem dX6_replay_21 : decode cX6_replay 21 = .ok (.i2l, 1) := by decide +kernel
theorem dX6_replay_22 : decode cX6_replay 22 = .ok (.lconst 0, 1) := by decide +kernel
theorem dX6_replay_23 : decode cX6_replay 23 = .ok (.lconst 1, 1) := by decide +kernel
theorem dX6_replay_24 : decode cX6_replay 24 = .ok (.invokestatic 94, 3) := by decide +kernel
theorem dX6_replay_27 : decode cX6_replay 27 = .ok (.ifCond .ne 6, 3) := by decide +kernel
theorem dX6_replay_30 : decode cX6_replay 30 = .ok (.bipush (-102), 2) := by decide +kernel
theorem dX6_replay_32 : decode cX6_replay 32 = .ok (.ireturn, 1) := by decide +kernel
theorem dX6_replay_33 : decode cX6_replay 33 = .ok (.aload_n 0, 1) := by decide +kernel
theorem dX6_replay_34 : decode cX6_replay 34 = .ok (.invokevirtual 236, 3) := by decide +kernel
theorem dX6_replay_37 : decode cX6_replay 37 = .ok (.ifCond .eq 8, 3) := by decide +kernel
theorem dX6_replay_40 : decode cX6_replay 40 = .ok (.bipush (-103), 2) := by decide +kernel
theorem dX6_replay_42 : decode cX6_replay 42 = .ok (.goto 10, 3) := by decide +kernel
theorem dX6_replay_45 : decode cX6_replay 45 = .ok (.aload_n 0, 1) := by decide +kernel
theorem dX6_replay_46 : decode cX6_replay 46 = .ok (.iload_n 1, 1) := by decide +kernel
theorem dX6_replay_47 : decode cX6_replay 47 = .ok (.iload_n 2, 1) := by decide +kernel
theorem dX6_replay_48 : decode cX6_replay 48 = .ok (.iload_n 3, 1) := by decide +kernel
theorem dX6_replay_49 : decode cX6_replay 49 = .ok (.invokevirtual 276, 3) := by decide +kernel
theorem dX6_replay_52 : decode cX6_replay 52 = .ok (.ireturn, 1) := by decide +kernel
set_option maxRecDepth 20000 in
theorem ggX6_aheadOf_X6_begin : GoodIn wsX6_aheadOf wsX6_begin := goodIn_r _ [8, 9, 10, 11, 2, 12, 1, 13, 14, 15, 16, 17, 18, 19, 79, 80, 81, 82, 83, 84, 85, 86, 87, 88, 89, 90, 91, 92, 93, 94, 95, 96, 97, 98, 99, 100, 101, 102, 103, 104, 105, 106, 107, 108, 109, 110, 111, 112, 113, 114, 115, 116, 117, 118, 119, 120, 121, 122, 123, 124, 125, 126, 127, 128] rfl (by decide +kernel)
set_option maxRecDepth 20000 in
theorem gX6_aheadOf_X6_begin : GoodIn wsX6_aheadOf (wsV RX6 267 RX6 yX6_begin wsX6_begin) := goodIn_app (goodIn_of _ (by decide +kernel)) ggX6_aheadOf_X6_begin
set_option maxRecDepth 20000 in
theorem ggX6_aheadOf_X6_leave : GoodIn wsX6_aheadOf wsX6_leave := goodIn_r _ [23, 24, 3, 1, 13, 12, 25, 26, 27, 7, 28, 11, 29, 30, 31, 32, 33, 34, 35, 36, 37, 38, 9, 10, 2, 39, 40, 41, 42, 43, 44, 45, 46, 47, 48, 49, 50, 51, 52, 53, 54, 18, 19, 55, 56, 57, 58, 16, 17, 59, 60, 61, 62, 63, 64, 65, 66, 14, 15, 67, 68, 69, 70, 71, 72, 73, 74, 75, 76, 77, 78, 79, 80, 81, 82, 83, 84, 85, 86, 87, 88, 89, 90, 91, 92, 93, 94, 95, 96, 97, 98, 99, 100, 101, 102, 103, 104, 105, 106, 107, 108, 109, 110, 111, 112, 113, 114, 115, 116, 117, 118, 119, 120, 121, 122, 123, 124, 125, 126, 127, 128] rfl (by decide +kernel)
set_option maxRecDepth 20000 in
theorem gX6_aheadOf_X6_leave : GoodIn wsX6_aheadOf (wsV RX6 233 RX6 yX6_leave wsX6_leave) := goodIn_app (goodIn_of _ (by decide +kernel)) ggX6_aheadOf_X6_leave
theorem dX6_aheadOf_0 : decode cX6_aheadOf 0 = .ok (.aload_n 0, 1) := by decide +kernel
theorem dX6_aheadOf_1 : decode cX6_aheadOf 1 = .ok (.invokevirtual 267, 3) := by decide +kernel
theorem dX6_aheadOf_4 : decode cX6_aheadOf 4 = .ok (.iconst 0, 1) := by decide +kernel
theorem dX6_aheadOf_5 : decode cX6_aheadOf 5 = .ok (.istore_n 1, 1) := by decide +kernel
theorem dX6_aheadOf_6 : decode cX6_aheadOf 6 = .ok (.iconst 0, 1) := by decide +kernel
theorem dX6_aheadOf_7 : decode cX6_aheadOf 7 = .ok (.istore_n 2, 1) := by decide +kernel
theorem dX6_aheadOf_8 : decode cX6_aheadOf 8 = .ok (.aload_n 0, 1) := by decide +kernel
theorem dX6_aheadOf_9 : decode cX6_aheadOf 9 = .ok (.getfield 28, 3) := by decide +kernel
theorem dX6_aheadOf_12 : decode cX6_aheadOf 12 = .ok (.iconst 1, 1) := by decide +kernel
theorem dX6_aheadOf_13 : decode cX6_aheadOf 13 = .ok (.iaload, 1) := by decide +kernel
theorem dX6_aheadOf_14 : decode cX6_aheadOf 14 = .ok (.ifCond .le 39, 3) := by decide +kernel
theorem dX6_aheadOf_17 : decode cX6_aheadOf 17 = .ok (.aload_n 0, 1) := by decide +kernel
theorem dX6_aheadOf_18 : decode cX6_aheadOf 18 = .ok (.getfield 22, 3) := by decide +kernel
theorem dX6_aheadOf_21 : decode cX6_aheadOf 21 = .ok (.bipush 100, 2) := by decide +kernel
theorem dX6_aheadOf_23 : decode cX6_aheadOf 23 = .ok (.iload_n 2, 1) := by decide +kernel
theorem dX6_aheadOf_24 : decode cX6_aheadOf 24 = .ok (.iadd, 1) := by decide +kernel
theorem dX6_aheadOf_25 : decode cX6_aheadOf 25 = .ok (.iaload, 1) := by decide +kernel
theorem dX6_aheadOf_26 : decode cX6_aheadOf 26 = .ok (.ifCond .ne 9, 3) := by decide +kernel
theorem dX6_aheadOf_29 : decode cX6_aheadOf 29 = .ok (.iinc 2 1, 3) := by decide +kernel
theorem dX6_aheadOf_32 : decode cX6_aheadOf 32 = .ok (.goto (-15), 3) := by decide +kernel
theorem dX6_aheadOf_35 : decode cX6_aheadOf 35 = .ok (.aload_n 0, 1) := by decide +kernel
theorem dX6_aheadOf_36 : decode cX6_aheadOf 36 = .ok (.iconst 1, 1) := by decide +kernel
theorem dX6_aheadOf_37 : decode cX6_aheadOf 37 = .ok (.iload_n 2, 1) := by decide +kernel
theorem dX6_aheadOf_38 : decode cX6_aheadOf 38 = .ok (.invokevirtual 233, 3) := by decide +kernel
theorem dX6_aheadOf_41 : decode cX6_aheadOf 41 = .ok (.iinc 1 1, 3) := by decide +kernel
theorem dX6_aheadOf_44 : decode cX6_aheadOf 44 = .ok (.aload_n 0, 1) := by decide +kernel
theorem dX6_aheadOf_45 : decode cX6_aheadOf 45 = .ok (.getfield 171, 3) := by decide +kernel
theorem dX6_aheadOf_48 : decode cX6_aheadOf 48 = .ok (.ifCond .le (-40), 3) := by decide +kernel
theorem dX6_aheadOf_51 : decode cX6_aheadOf 51 = .ok (.iload_n 1, 1) := by decide +kernel
theorem dX6_aheadOf_52 : decode cX6_aheadOf 52 = .ok (.ireturn, 1) := by decide +kernel
theorem dX6_aheadOf_53 : decode cX6_aheadOf 53 = .ok (.iconst (-1), 1) := by decide +kernel
theorem dX6_aheadOf_54 : decode cX6_aheadOf 54 = .ok (.ireturn, 1) := by decide +kernel
set_option maxRecDepth 20000 in
theorem ggX6_ahead_X6_lacks : GoodIn wsX6_ahead wsX6_lacks := goodIn_r _ [5, 6, 87, 88, 89, 90, 91, 92, 93, 94, 95, 96, 97, 98, 99, 100, 101, 102, 103, 104, 105, 106, 107, 108, 109, 110, 111, 112, 113, 114, 115, 116, 117, 118, 119, 120, 121, 122, 123, 124, 125, 126, 127, 128, 129, 130, 131, 132, 133, 134, 135, 136] rfl (by decide +kernel)
set_option maxRecDepth 20000 in
theorem gX6_ahead_X6_lacks : GoodIn wsX6_ahead (wsV RX6 236 RX6 yX6_lacks wsX6_lacks) := goodIn_app (goodIn_of _ (by decide +kernel)) ggX6_ahead_X6_lacks
set_option maxRecDepth 20000 in
theorem ggX6_ahead_X6_aheadOf : GoodIn wsX6_ahead wsX6_aheadOf := goodIn_r _ [10, 11, 12, 13, 14, 15, 16, 4, 17, 18, 19, 20, 21, 22, 23, 24, 25, 26, 6, 27, 28, 29, 30, 31, 32, 33, 34, 35, 36, 37, 38, 39, 40, 41, 42, 43, 44, 45, 46, 47, 48, 49, 50, 51, 52, 53, 54, 55, 56, 57, 58, 59, 60, 61, 62, 63, 64, 65, 66, 67, 68, 69, 70, 71, 72, 73, 74, 75, 76, 77, 78, 79, 80, 81, 82, 83, 84, 85, 86, 87, 88, 89, 90, 91, 92, 93, 94, 95, 96, 97, 98, 99, 100, 101, 102, 103, 104, 105, 106, 107, 108, 109, 110, 111, 112, 113, 114, 115, 116, 117, 118, 119, 120, 121, 122, 123, 124, 125, 126, 127, 128, 129, 130, 131, 132, 133, 134, 135, 136] rfl (by decide +kernel)
set_option maxRecDepth 20000 in
theorem gX6_ahead_X6_aheadOf : GoodIn wsX6_ahead (wsV RX6 280 RX6 yX6_aheadOf wsX6_aheadOf) := goodIn_app (goodIn_of _ (by decide +kernel)) ggX6_ahead_X6_aheadOf
theorem dX6_ahead_0 : decode cX6_ahead 0 = .ok (.aload_n 0, 1) := by decide +kernel
theorem dX6_ahead_1 : decode cX6_ahead 1 = .ok (.invokevirtual 236, 3) := by decide +kernel
theorem dX6_ahead_4 : decode cX6_ahead 4 = .ok (.ifCond .eq 8, 3) := by decide +kernel
theorem dX6_ahead_7 : decode cX6_ahead 7 = .ok (.bipush (-103), 2) := by decide +kernel
theorem dX6_ahead_9 : decode cX6_ahead 9 = .ok (.goto 7, 3) := by decide +kernel
theorem dX6_ahead_12 : decode cX6_ahead 12 = .ok (.aload_n 0, 1) := by decide +kernel
theorem dX6_ahead_13 : decode cX6_ahead 13 = .ok (.invokevirtual 280, 3) := by decide +kernel
theorem dX6_ahead_16 : decode cX6_ahead 16 = .ok (.ireturn, 1) := by decide +kernel
set_option maxRecDepth 20000 in
theorem ggX6_see_X6_in : GoodIn wsX6_see wsX6_in := goodIn_r _ [8] rfl (by decide +kernel)
set_option maxRecDepth 20000 in
theorem gX6_see_X6_in : GoodIn wsX6_see (va_wsS RX6 94 yX6_in wsX6_in) := goodIn_app (goodIn_of _ (by decide +kernel)) ggX6_see_X6_in
set_option maxRecDepth 20000 in
theorem ggX6_see_X6_lacks : GoodIn wsX6_see wsX6_lacks := goodIn_r _ [12, 13, 14, 15, 16, 17, 18, 19, 20, 21, 22, 23, 24, 25, 26, 27, 28, 29, 30, 31, 32, 33, 34, 35, 36, 37, 38, 39, 40, 41, 42, 43, 44, 45, 46, 47, 48, 49, 50, 51, 52, 53, 54, 55, 56, 57, 58, 59, 60, 61, 62, 63] rfl (by decide +kernel)
set_option maxRecDepth 20000 in
theorem gX6_see_X6_lacks : GoodIn wsX6_see (wsV RX6 236 RX6 yX6_lacks wsX6_lacks) := goodIn_app (goodIn_of _ (by decide +kernel)) ggX6_see_X6_lacks
theorem dX6_see_0 : decode cX6_see 0 = .ok (.iload_n 1, 1) := by decide +kernel
theorem dX6_see_1 : decode cX6_see 1 = .ok (.i2l, 1) := by decide +kernel
theorem dX6_see_2 : decode cX6_see 2 = .ok (.lconst 0, 1) := by decide +kernel
theorem dX6_see_3 : decode cX6_see 3 = .ok (.ldc2_w 240, 3) := by decide +kernel
theorem dX6_see_6 : decode cX6_see 6 = .ok (.invokestatic 94, 3) := by decide +kernel
theorem dX6_see_9 : decode cX6_see 9 = .ok (.ifCond .eq 15, 3) := by decide +kernel
theorem dX6_see_12 : decode cX6_see 12 = .ok (.iload_n 2, 1) := by decide +kernel
theorem dX6_see_13 : decode cX6_see 13 = .ok (.i2l, 1) := by decide +kernel
theorem dX6_see_14 : decode cX6_see 14 = .ok (.lconst 0, 1) := by decide +kernel
theorem dX6_see_15 : decode cX6_see 15 = .ok (.ldc2_w 283, 3) := by decide +kernel
theorem dX6_see_18 : decode cX6_see 18 = .ok (.invokestatic 94, 3) := by decide +kernel
theorem dX6_see_21 : decode cX6_see 21 = .ok (.ifCond .ne 6, 3) := by decide +kernel
theorem dX6_see_24 : decode cX6_see 24 = .ok (.bipush (-102), 2) := by decide +kernel
theorem dX6_see_26 : decode cX6_see 26 = .ok (.ireturn, 1) := by decide +kernel
theorem dX6_see_27 : decode cX6_see 27 = .ok (.aload_n 0, 1) := by decide +kernel
theorem dX6_see_28 : decode cX6_see 28 = .ok (.invokevirtual 236, 3) := by decide +kernel
theorem dX6_see_31 : decode cX6_see 31 = .ok (.ifCond .eq 6, 3) := by decide +kernel
theorem dX6_see_34 : decode cX6_see 34 = .ok (.bipush (-103), 2) := by decide +kernel
theorem dX6_see_36 : decode cX6_see 36 = .ok (.ireturn, 1) := by decide +kernel
theorem dX6_see_37 : decode cX6_see 37 = .ok (.aload_n 0, 1) := by decide +kernel
theorem dX6_see_38 : decode cX6_see 38 = .ok (.getfield 218, 3) := by decide +kernel
theorem dX6_see_41 : decode cX6_see 41 = .ok (.bipush 6, 2) := by decide +kernel
theorem dX6_see_43 : decode cX6_see 43 = .ok (.if_icmp .ne 6, 3) := by decide +kernel
theorem dX6_see_46 : decode cX6_see 46 = .ok (.bipush (-104), 2) := by decide +kernel
theorem dX6_see_48 : decode cX6_see 48 = .ok (.ireturn, 1) := by decide +kernel
theorem dX6_see_49 : decode cX6_see 49 = .ok (.aload_n 0, 1) := by decide +kernel
theorem dX6_see_50 : decode cX6_see 50 = .ok (.getfield 61, 3) := by decide +kernel
theorem dX6_see_53 : decode cX6_see 53 = .ok (.iconst 3, 1) := by decide +kernel
theorem dX6_see_54 : decode cX6_see 54 = .ok (.aload_n 0, 1) := by decide +kernel
theorem dX6_see_55 : decode cX6_see 55 = .ok (.getfield 218, 3) := by decide +kernel
theorem dX6_see_58 : decode cX6_see 58 = .ok (.imul, 1) := by decide +kernel
theorem dX6_see_59 : decode cX6_see 59 = .ok (.iload_n 1, 1) := by decide +kernel
theorem dX6_see_60 : decode cX6_see 60 = .ok (.iastore, 1) := by decide +kernel
theorem dX6_see_61 : decode cX6_see 61 = .ok (.aload_n 0, 1) := by decide +kernel
theorem dX6_see_62 : decode cX6_see 62 = .ok (.getfield 61, 3) := by decide +kernel
theorem dX6_see_65 : decode cX6_see 65 = .ok (.iconst 3, 1) := by decide +kernel
theorem dX6_see_66 : decode cX6_see 66 = .ok (.aload_n 0, 1) := by decide +kernel
theorem dX6_see_67 : decode cX6_see 67 = .ok (.getfield 218, 3) := by decide +kernel
theorem dX6_see_70 : decode cX6_see 70 = .ok (.imul, 1) := by decide +kernel
theorem dX6_see_71 : decode cX6_see 71 = .ok (.iconst 1, 1) := by decide +kernel
theorem dX6_see_72 : decode cX6_see 72 = .ok (.iadd, 1) := by decide +kernel
theorem dX6_see_73 : decode cX6_see 73 = .ok (.iload_n 2, 1) := by decide +kernel
theorem dX6_see_74 : decode cX6_see 74 = .ok (.iastore, 1) := by decide +kernel
theorem dX6_see_75 : decode cX6_see 75 = .ok (.aload_n 0, 1) := by decide +kernel
theorem dX6_see_76 : decode cX6_see 76 = .ok (.getfield 61, 3) := by decide +kernel
theorem dX6_see_79 : decode cX6_see 79 = .ok (.iconst 3, 1) := by decide +kernel
theorem dX6_see_80 : decode cX6_see 80 = .ok (.aload_n 0, 1) := by decide +kernel
theorem dX6_see_81 : decode cX6_see 81 = .ok (.getfield 218, 3) := by decide +kernel
theorem dX6_see_84 : decode cX6_see 84 = .ok (.imul, 1) := by decide +kernel
theorem dX6_see_85 : decode cX6_see 85 = .ok (.iconst 2, 1) := by decide +kernel
theorem dX6_see_86 : decode cX6_see 86 = .ok (.iadd, 1) := by decide +kernel
theorem dX6_see_87 : decode cX6_see 87 = .ok (.iload_n 3, 1) := by decide +kernel
theorem dX6_see_88 : decode cX6_see 88 = .ok (.ifCond .eq 7, 3) := by decide +kernel
theorem dX6_see_91 : decode cX6_see 91 = .ok (.iconst 1, 1) := by decide +kernel
theorem dX6_see_92 : decode cX6_see 92 = .ok (.goto 4, 3) := by decide +kernel
theorem dX6_see_95 : decode cX6_see 95 = .ok (.iconst 0, 1) := by decide +kernel
theorem dX6_see_96 : decode cX6_see 96 = .ok (.iastore, 1) := by decide +kernel
theorem dX6_see_97 : decode cX6_see 97 = .ok (.aload_n 0, 1) := by decide +kernel
theorem dX6_see_98 : decode cX6_see 98 = .ok (.dup, 1) := by decide +kernel
theorem dX6_see_99 : decode cX6_see 99 = .ok (.getfield 218, 3) := by decide +kernel
theorem dX6_see_102 : decode cX6_see 102 = .ok (.iconst 1, 1) := by decide +kernel
theorem dX6_see_103 : decode cX6_see 103 = .ok (.iadd, 1) := by decide +kernel
theorem dX6_see_104 : decode cX6_see 104 = .ok (.putfield 218, 3) := by decide +kernel
theorem dX6_see_107 : decode cX6_see 107 = .ok (.aload_n 0, 1) := by decide +kernel
theorem dX6_see_108 : decode cX6_see 108 = .ok (.getfield 218, 3) := by decide +kernel
theorem dX6_see_111 : decode cX6_see 111 = .ok (.ireturn, 1) := by decide +kernel
theorem dX6_forget_0 : decode cX6_forget 0 = .ok (.aload_n 0, 1) := by decide +kernel
theorem dX6_forget_1 : decode cX6_forget 1 = .ok (.getfield 218, 3) := by decide +kernel
theorem dX6_forget_4 : decode cX6_forget 4 = .ok (.istore_n 1, 1) := by decide +kernel
theorem dX6_forget_5 : decode cX6_forget 5 = .ok (.aload_n 0, 1) := by decide +kernel
theorem dX6_forget_6 : decode cX6_forget 6 = .ok (.iconst 0, 1) := by decide +kernel
theorem dX6_forget_7 : decode cX6_forget 7 = .ok (.putfield 218, 3) := by decide +kernel
theorem dX6_forget_10 : decode cX6_forget 10 = .ok (.iload_n 1, 1) := by decide +kernel
theorem dX6_forget_11 : decode cX6_forget 11 = .ok (.ireturn, 1) := by decide +kernel
theorem dX6_sortsBy_0 : decode cX6_sortsBy 0 = .ok (.iload_n 0, 1) := by decide +kernel
theorem dX6_sortsBy_1 : decode cX6_sortsBy 1 = .ok (.tableswitch 35 0 2 #[27, 30, 33], 27) := by decide +kernel
theorem dX6_sortsBy_28 : decode cX6_sortsBy 28 = .ok (.bipush 13, 2) := by decide +kernel
theorem dX6_sortsBy_30 : decode cX6_sortsBy 30 = .ok (.ireturn, 1) := by decide +kernel
theorem dX6_sortsBy_31 : decode cX6_sortsBy 31 = .ok (.bipush 15, 2) := by decide +kernel
theorem dX6_sortsBy_33 : decode cX6_sortsBy 33 = .ok (.ireturn, 1) := by decide +kernel
theorem dX6_sortsBy_34 : decode cX6_sortsBy 34 = .ok (.iconst 4, 1) := by decide +kernel
theorem dX6_sortsBy_35 : decode cX6_sortsBy 35 = .ok (.ireturn, 1) := by decide +kernel
theorem dX6_sortsBy_36 : decode cX6_sortsBy 36 = .ok (.bipush 23, 2) := by decide +kernel
theorem dX6_sortsBy_38 : decode cX6_sortsBy 38 = .ok (.ireturn, 1) := by decide +kernel
set_option maxRecDepth 20000 in
theorem ggX6_sortsOf_X6_sortsBy : GoodIn wsX6_sortsOf wsX6_sortsBy := goodIn_r _ [6] rfl (by decide +kernel)
set_option maxRecDepth 20000 in
theorem gX6_sortsOf_X6_sortsBy : GoodIn wsX6_sortsOf (va_wsS RX6 285 yX6_sortsBy wsX6_sortsBy) := goodIn_app (goodIn_of _ (by decide +kernel)) ggX6_sortsOf_X6_sortsBy
theorem dX6_sortsOf_0 : decode cX6_sortsOf 0 = .ok (.bipush 31, 2) := by decide +kernel
theorem dX6_sortsOf_2 : decode cX6_sortsOf 2 = .ok (.istore_n 2, 1) := by decide +kernel
theorem dX6_sortsOf_3 : decode cX6_sortsOf 3 = .ok (.iconst 0, 1) := by decide +kernel
theorem dX6_sortsOf_4 : decode cX6_sortsOf 4 = .ok (.istore_n 3, 1) := by decide +kernel
theorem dX6_sortsOf_5 : decode cX6_sortsOf 5 = .ok (.iload_n 3, 1) := by decide +kernel
theorem dX6_sortsOf_6 : decode cX6_sortsOf 6 = .ok (.iconst 3, 1) := by decide +kernel
theorem dX6_sortsOf_7 : decode cX6_sortsOf 7 = .ok (.aload_n 0, 1) := by decide +kernel
theorem dX6_sortsOf_8 : decode cX6_sortsOf 8 = .ok (.getfield 218, 3) := by decide +kernel
theorem dX6_sortsOf_11 : decode cX6_sortsOf 11 = .ok (.imul, 1) := by decide +kernel
theorem dX6_sortsOf_12 : decode cX6_sortsOf 12 = .ok (.if_icmp .ge 57, 3) := by decide +kernel
theorem dX6_sortsOf_15 : decode cX6_sortsOf 15 = .ok (.aload_n 0, 1) := by decide +kernel
theorem dX6_sortsOf_16 : decode cX6_sortsOf 16 = .ok (.getfield 61, 3) := by decide +kernel
theorem dX6_sortsOf_19 : decode cX6_sortsOf 19 = .ok (.iload_n 3, 1) := by decide +kernel
theorem dX6_sortsOf_20 : decode cX6_sortsOf 20 = .ok (.iaload, 1) := by decide +kernel
theorem dX6_sortsOf_21 : decode cX6_sortsOf 21 = .ok (.iload_n 1, 1) := by decide +kernel
theorem dX6_sortsOf_22 : decode cX6_sortsOf 22 = .ok (.if_icmp .ne 41, 3) := by decide +kernel
theorem dX6_sortsOf_25 : decode cX6_sortsOf 25 = .ok (.aload_n 0, 1) := by decide +kernel
theorem dX6_sortsOf_26 : decode cX6_sortsOf 26 = .ok (.getfield 61, 3) := by decide +kernel
theorem dX6_sortsOf_29 : decode cX6_sortsOf 29 = .ok (.iload_n 3, 1) := by decide +kernel
theorem dX6_sortsOf_30 : decode cX6_sortsOf 30 = .ok (.iconst 1, 1) := by decide +kernel
theorem dX6_sortsOf_31 : decode cX6_sortsOf 31 = .ok (.iadd, 1) := by decide +kernel
theorem dX6_sortsOf_32 : decode cX6_sortsOf 32 = .ok (.iaload, 1) := by decide +kernel
theorem dX6_sortsOf_33 : decode cX6_sortsOf 33 = .ok (.invokestatic 285, 3) := by decide +kernel
theorem dX6_sortsOf_36 : decode cX6_sortsOf 36 = .ok (.istore 4, 2) := by decide +kernel
theorem dX6_sortsOf_38 : decode cX6_sortsOf 38 = .ok (.iload_n 2, 1) := by decide +kernel
theorem dX6_sortsOf_39 : decode cX6_sortsOf 39 = .ok (.aload_n 0, 1) := by decide +kernel
theorem dX6_sortsOf_40 : decode cX6_sortsOf 40 = .ok (.getfield 61, 3) := by decide +kernel
theorem dX6_sortsOf_43 : decode cX6_sortsOf 43 = .ok (.iload_n 3, 1) := by decide +kernel
theorem dX6_sortsOf_44 : decode cX6_sortsOf 44 = .ok (.iconst 2, 1) := by decide +kernel
theorem dX6_sortsOf_45 : decode cX6_sortsOf 45 = .ok (.iadd, 1) := by decide +kernel
theorem dX6_sortsOf_46 : decode cX6_sortsOf 46 = .ok (.iaload, 1) := by decide +kernel
theorem dX6_sortsOf_47 : decode cX6_sortsOf 47 = .ok (.iconst 1, 1) := by decide +kernel
theorem dX6_sortsOf_48 : decode cX6_sortsOf 48 = .ok (.if_icmp .ne 8, 3) := by decide +kernel
theorem dX6_sortsOf_51 : decode cX6_sortsOf 51 = .ok (.iload 4, 2) := by decide +kernel
theorem dX6_sortsOf_53 : decode cX6_sortsOf 53 = .ok (.goto 8, 3) := by decide +kernel
theorem dX6_sortsOf_56 : decode cX6_sortsOf 56 = .ok (.bipush 31, 2) := by decide +kernel
theorem dX6_sortsOf_58 : decode cX6_sortsOf 58 = .ok (.iload 4, 2) := by decide +kernel
theorem dX6_sortsOf_60 : decode cX6_sortsOf 60 = .ok (.isub, 1) := by decide +kernel
theorem dX6_sortsOf_61 : decode cX6_sortsOf 61 = .ok (.iand, 1) := by decide +kernel
theorem dX6_sortsOf_62 : decode cX6_sortsOf 62 = .ok (.istore_n 2, 1) := by decide +kernel
theorem dX6_sortsOf_63 : decode cX6_sortsOf 63 = .ok (.iinc 3 3, 3) := by decide +kernel
theorem dX6_sortsOf_66 : decode cX6_sortsOf 66 = .ok (.goto (-61), 3) := by decide +kernel
theorem dX6_sortsOf_69 : decode cX6_sortsOf 69 = .ok (.iload_n 2, 1) := by decide +kernel
theorem dX6_sortsOf_70 : decode cX6_sortsOf 70 = .ok (.ireturn, 1) := by decide +kernel
theorem dX6_ones_0 : decode cX6_ones 0 = .ok (.iconst 0, 1) := by decide +kernel
theorem dX6_ones_1 : decode cX6_ones 1 = .ok (.istore_n 1, 1) := by decide +kernel
theorem dX6_ones_2 : decode cX6_ones 2 = .ok (.iconst 0, 1) := by decide +kernel
theorem dX6_ones_3 : decode cX6_ones 3 = .ok (.istore_n 2, 1) := by decide +kernel
theorem dX6_ones_4 : decode cX6_ones 4 = .ok (.iload_n 2, 1) := by decide +kernel
theorem dX6_ones_5 : decode cX6_ones 5 = .ok (.iconst 5, 1) := by decide +kernel
theorem dX6_ones_6 : decode cX6_ones 6 = .ok (.if_icmp .ge 17, 3) := by decide +kernel
theorem dX6_ones_9 : decode cX6_ones 9 = .ok (.iload_n 1, 1) := by decide +kernel
theorem dX6_ones_10 : decode cX6_ones 10 = .ok (.iload_n 0, 1) := by decide +kernel
theorem dX6_ones_11 : decode cX6_ones 11 = .ok (.iload_n 2, 1) := by decide +kernel
theorem dX6_ones_12 : decode cX6_ones 12 = .ok (.ishr, 1) := by decide +kernel
theorem dX6_ones_13 : decode cX6_ones 13 = .ok (.iconst 1, 1) := by decide +kernel
theorem dX6_ones_14 : decode cX6_ones 14 = .ok (.iand, 1) := by decide +kernel
theorem dX6_ones_15 : decode cX6_ones 15 = .ok (.iadd, 1) := by decide +kernel
theorem dX6_ones_16 : decode cX6_ones 16 = .ok (.istore_n 1, 1) := by decide +kernel
theorem dX6_ones_17 : decode cX6_ones 17 = .ok (.iinc 2 1, 3) := by decide +kernel
theorem dX6_ones_20 : decode cX6_ones 20 = .ok (.goto (-16), 3) := by decide +kernel
theorem dX6_ones_23 : decode cX6_ones 23 = .ok (.iload_n 1, 1) := by decide +kernel
theorem dX6_ones_24 : decode cX6_ones 24 = .ok (.ireturn, 1) := by decide +kernel
set_option maxRecDepth 20000 in
theorem ggX6_askOf_X6_sortsOf : GoodIn wsX6_askOf wsX6_sortsOf := goodIn_r _ [5, 6, 7, 8, 9, 4, 10, 14, 15, 16, 17, 18, 19, 20, 21, 22, 23, 24, 25, 26, 27, 28, 29, 30, 31, 32, 33, 34, 35, 36, 37, 38, 39, 40, 41, 42, 43, 44, 45, 46, 47, 48, 49, 50, 51, 52, 53, 54, 55, 56, 57, 58, 59, 60, 61, 62, 63] rfl (by decide +kernel)
set_option maxRecDepth 20000 in
theorem gX6_askOf_X6_sortsOf : GoodIn wsX6_askOf (wsV RX6 288 RX6 yX6_sortsOf wsX6_sortsOf) := goodIn_app (goodIn_of _ (by decide +kernel)) ggX6_askOf_X6_sortsOf
set_option maxRecDepth 20000 in
theorem ggX6_askOf_X6_sortsBy : GoodIn wsX6_askOf wsX6_sortsBy := goodIn_r _ [10] rfl (by decide +kernel)
set_option maxRecDepth 20000 in
theorem gX6_askOf_X6_sortsBy : GoodIn wsX6_askOf (va_wsS RX6 285 yX6_sortsBy wsX6_sortsBy) := goodIn_app (goodIn_of _ (by decide +kernel)) ggX6_askOf_X6_sortsBy
set_option maxRecDepth 20000 in
theorem ggX6_askOf_X6_ones : GoodIn wsX6_askOf wsX6_ones := goodIn_r _ [13] rfl (by decide +kernel)
set_option maxRecDepth 20000 in
theorem gX6_askOf_X6_ones : GoodIn wsX6_askOf (va_wsS RX6 291 yX6_ones wsX6_ones) := goodIn_app (goodIn_of _ (by decide +kernel)) ggX6_askOf_X6_ones
theorem dX6_askOf_0 : decode cX6_askOf 0 = .ok (.aload_n 0, 1) := by decide +kernel
theorem dX6_askOf_1 : decode cX6_askOf 1 = .ok (.iload_n 1, 1) := by decide +kernel
theorem dX6_askOf_2 : decode cX6_askOf 2 = .ok (.invokevirtual 288, 3) := by decide +kernel
theorem dX6_askOf_5 : decode cX6_askOf 5 = .ok (.istore_n 2, 1) := by decide +kernel
theorem dX6_askOf_6 : decode cX6_askOf 6 = .ok (.iconst (-1), 1) := by decide +kernel
theorem dX6_askOf_7 : decode cX6_askOf 7 = .ok (.istore_n 3, 1) := by decide +kernel
theorem dX6_askOf_8 : decode cX6_askOf 8 = .ok (.bipush 6, 2) := by decide +kernel
theorem dX6_askOf_10 : decode cX6_askOf 10 = .ok (.istore 4, 2) := by decide +kernel
theorem dX6_askOf_12 : decode cX6_askOf 12 = .ok (.iconst 0, 1) := by decide +kernel
theorem dX6_askOf_13 : decode cX6_askOf 13 = .ok (.istore 5, 2) := by decide +kernel
theorem dX6_askOf_15 : decode cX6_askOf 15 = .ok (.iload 5, 2) := by decide +kernel
theorem dX6_askOf_17 : decode cX6_askOf 17 = .ok (.iconst 4, 1) := by decide +kernel
theorem dX6_askOf_18 : decode cX6_askOf 18 = .ok (.if_icmp .ge 80, 3) := by decide +kernel
theorem dX6_askOf_21 : decode cX6_askOf 21 = .ok (.iload_n 2, 1) := by decide +kernel
theorem dX6_askOf_22 : decode cX6_askOf 22 = .ok (.ifCond .eq 76, 3) := by decide +kernel
theorem dX6_askOf_25 : decode cX6_askOf 25 = .ok (.iload_n 2, 1) := by decide +kernel
theorem dX6_askOf_26 : decode cX6_askOf 26 = .ok (.iload 5, 2) := by decide +kernel
theorem dX6_askOf_28 : decode cX6_askOf 28 = .ok (.invokestatic 285, 3) := by decide +kernel
theorem dX6_askOf_31 : decode cX6_askOf 31 = .ok (.iand, 1) := by decide +kernel
theorem dX6_askOf_32 : decode cX6_askOf 32 = .ok (.invokestatic 291, 3) := by decide +kernel
theorem dX6_askOf_35 : decode cX6_askOf 35 = .ok (.istore 6, 2) := by decide +kernel
theorem dX6_askOf_37 : decode cX6_askOf 37 = .ok (.iload_n 2, 1) := by decide +kernel
theorem dX6_askOf_38 : decode cX6_askOf 38 = .ok (.invokestatic 291, 3) := by decide +kernel
theorem dX6_askOf_41 : decode cX6_askOf 41 = .ok (.iload 6, 2) := by decide +kernel
theorem dX6_askOf_43 : decode cX6_askOf 43 = .ok (.isub, 1) := by decide +kernel
theorem dX6_askOf_44 : decode cX6_askOf 44 = .ok (.istore 7, 2) := by decide +kernel
theorem dX6_askOf_46 : decode cX6_askOf 46 = .ok (.iload 6, 2) := by decide +kernel
theorem dX6_askOf_48 : decode cX6_askOf 48 = .ok (.iload 7, 2) := by decide +kernel
theorem dX6_askOf_50 : decode cX6_askOf 50 = .ok (.if_icmp .le 8, 3) := by decide +kernel
theorem dX6_askOf_53 : decode cX6_askOf 53 = .ok (.iload 6, 2) := by decide +kernel
theorem dX6_askOf_55 : decode cX6_askOf 55 = .ok (.goto 5, 3) := by decide +kernel
theorem dX6_askOf_58 : decode cX6_askOf 58 = .ok (.iload 7, 2) := by decide +kernel
theorem dX6_askOf_60 : decode cX6_askOf 60 = .ok (.istore 8, 2) := by decide +kernel
theorem dX6_askOf_62 : decode cX6_askOf 62 = .ok (.iload 8, 2) := by decide +kernel
theorem dX6_askOf_64 : decode cX6_askOf 64 = .ok (.iload 4, 2) := by decide +kernel
theorem dX6_askOf_66 : decode cX6_askOf 66 = .ok (.if_icmp .ge 8, 3) := by decide +kernel
theorem dX6_askOf_69 : decode cX6_askOf 69 = .ok (.iload 5, 2) := by decide +kernel
theorem dX6_askOf_71 : decode cX6_askOf 71 = .ok (.goto 4, 3) := by decide +kernel
theorem dX6_askOf_74 : decode cX6_askOf 74 = .ok (.iload_n 3, 1) := by decide +kernel
theorem dX6_askOf_75 : decode cX6_askOf 75 = .ok (.istore_n 3, 1) := by decide +kernel
theorem dX6_askOf_76 : decode cX6_askOf 76 = .ok (.iload 8, 2) := by decide +kernel
theorem dX6_askOf_78 : decode cX6_askOf 78 = .ok (.iload 4, 2) := by decide +kernel
theorem dX6_askOf_80 : decode cX6_askOf 80 = .ok (.if_icmp .ge 8, 3) := by decide +kernel
theorem dX6_askOf_83 : decode cX6_askOf 83 = .ok (.iload 8, 2) := by decide +kernel
theorem dX6_askOf_85 : decode cX6_askOf 85 = .ok (.goto 5, 3) := by decide +kernel
theorem dX6_askOf_88 : decode cX6_askOf 88 = .ok (.iload 4, 2) := by decide +kernel
theorem dX6_askOf_90 : decode cX6_askOf 90 = .ok (.istore 4, 2) := by decide +kernel
theorem dX6_askOf_92 : decode cX6_askOf 92 = .ok (.iinc 5 1, 3) := by decide +kernel
theorem dX6_askOf_95 : decode cX6_askOf 95 = .ok (.goto (-80), 3) := by decide +kernel
theorem dX6_askOf_98 : decode cX6_askOf 98 = .ok (.iload_n 3, 1) := by decide +kernel
theorem dX6_askOf_99 : decode cX6_askOf 99 = .ok (.ireturn, 1) := by decide +kernel
set_option maxRecDepth 20000 in
theorem ggX6_sorts_X6_in : GoodIn wsX6_sorts wsX6_in := goodIn_r _ [5] rfl (by decide +kernel)
set_option maxRecDepth 20000 in
theorem gX6_sorts_X6_in : GoodIn wsX6_sorts (va_wsS RX6 94 yX6_in wsX6_in) := goodIn_app (goodIn_of _ (by decide +kernel)) ggX6_sorts_X6_in
set_option maxRecDepth 20000 in
theorem ggX6_sorts_X6_sortsOf : GoodIn wsX6_sorts wsX6_sortsOf := goodIn_r _ [9, 10, 11, 12, 13, 4, 14, 22, 23, 24, 25, 26, 27, 28, 29, 30, 31, 32, 33, 34, 35, 36, 37, 38, 39, 40, 41, 42, 43, 44, 45, 46, 47, 48, 49, 50, 51, 52, 53, 54, 55, 56, 57, 58, 59, 60, 61, 62, 63, 64, 65, 66, 67, 68, 69, 70, 71] rfl (by decide +kernel)
set_option maxRecDepth 20000 in
theorem gX6_sorts_X6_sortsOf : GoodIn wsX6_sorts (wsV RX6 288 RX6 yX6_sortsOf wsX6_sortsOf) := goodIn_app (goodIn_of _ (by decide +kernel)) ggX6_sorts_X6_sortsOf
set_option maxRecDepth 20000 in
theorem ggX6_sorts_X6_askOf : GoodIn wsX6_sorts wsX6_askOf := goodIn_r _ [18, 6, 7, 8, 4, 9, 10, 11, 12, 13, 14, 19, 20, 21, 22, 23, 24, 25, 26, 27, 28, 29, 30, 31, 32, 33, 34, 35, 36, 37, 38, 39, 40, 41, 42, 43, 44, 45, 46, 47, 48, 49, 50, 51, 52, 53, 54, 55, 56, 57, 58, 59, 60, 61, 62, 63, 64, 65, 66, 67, 68, 69, 70, 71] rfl (by decide +kernel)
set_option maxRecDepth 20000 in
theorem gX6_sorts_X6_askOf : GoodIn wsX6_sorts (wsV RX6 294 RX6 yX6_askOf wsX6_askOf) := goodIn_app (goodIn_of _ (by decide +kernel)) ggX6_sorts_X6_askOf
theorem dX6_sorts_0 : decode cX6_sorts 0 = .ok (.iload_n 1, 1) := by decide +kernel
theorem dX6_sorts_1 : decode cX6_sorts 1 = .ok (.i2l, 1) := by decide +kernel
theorem dX6_sorts_2 : decode cX6_sorts 2 = .ok (.lconst 0, 1) := by decide +kernel
theorem dX6_sorts_3 : decode cX6_sorts 3 = .ok (.ldc2_w 240, 3) := by decide +kernel
theorem dX6_sorts_6 : decode cX6_sorts 6 = .ok (.invokestatic 94, 3) := by decide +kernel
theorem dX6_sorts_9 : decode cX6_sorts 9 = .ok (.ifCond .eq 13, 3) := by decide +kernel
theorem dX6_sorts_12 : decode cX6_sorts 12 = .ok (.iload_n 2, 1) := by decide +kernel
theorem dX6_sorts_13 : decode cX6_sorts 13 = .ok (.i2l, 1) := by decide +kernel
theorem dX6_sorts_14 : decode cX6_sorts 14 = .ok (.lconst 0, 1) := by decide +kernel
theorem dX6_sorts_15 : decode cX6_sorts 15 = .ok (.lconst 1, 1) := by decide +kernel
theorem dX6_sorts_16 : decode cX6_sorts 16 = .ok (.invokestatic 94, 3) := by decide +kernel
theorem dX6_sorts_19 : decode cX6_sorts 19 = .ok (.ifCond .ne 6, 3) := by decide +kernel
theorem dX6_sorts_22 : decode cX6_sorts 22 = .ok (.bipush (-102), 2) := by decide +kernel
theorem dX6_sorts_24 : decode cX6_sorts 24 = .ok (.ireturn, 1) := by decide +kernel
theorem dX6_sorts_25 : decode cX6_sorts 25 = .ok (.iload_n 2, 1) := by decide +kernel
theorem dX6_sorts_26 : decode cX6_sorts 26 = .ok (.ifCond .ne 11, 3) := by decide +kernel
theorem dX6_sorts_29 : decode cX6_sorts 29 = .ok (.aload_n 0, 1) := by decide +kernel
theorem dX6_sorts_30 : decode cX6_sorts 30 = .ok (.iload_n 1, 1) := by decide +kernel
theorem dX6_sorts_31 : decode cX6_sorts 31 = .ok (.invokevirtual 288, 3) := by decide +kernel
theorem dX6_sorts_34 : decode cX6_sorts 34 = .ok (.goto 8, 3) := by decide +kernel
theorem dX6_sorts_37 : decode cX6_sorts 37 = .ok (.aload_n 0, 1) := by decide +kernel
theorem dX6_sorts_38 : decode cX6_sorts 38 = .ok (.iload_n 1, 1) := by decide +kernel
theorem dX6_sorts_39 : decode cX6_sorts 39 = .ok (.invokevirtual 294, 3) := by decide +kernel
theorem dX6_sorts_42 : decode cX6_sorts 42 = .ok (.ireturn, 1) := by decide +kernel
theorem dX6_draw_0 : decode cX6_draw 0 = .ok (.aload_n 0, 1) := by decide +kernel
theorem dX6_draw_1 : decode cX6_draw 1 = .ok (.ldc2_w 297, 3) := by decide +kernel
theorem dX6_draw_4 : decode cX6_draw 4 = .ok (.aload_n 0, 1) := by decide +kernel
theorem dX6_draw_5 : decode cX6_draw 5 = .ok (.getfield 299, 3) := by decide +kernel
theorem dX6_draw_8 : decode cX6_draw 8 = .ok (.i2l, 1) := by decide +kernel
theorem dX6_draw_9 : decode cX6_draw 9 = .ok (.lmul, 1) := by decide +kernel
theorem dX6_draw_10 : decode cX6_draw 10 = .ok (.ldc2_w 302, 3) := by decide +kernel
theorem dX6_draw_13 : decode cX6_draw 13 = .ok (.ladd, 1) := by decide +kernel
theorem dX6_draw_14 : decode cX6_draw 14 = .ok (.ldc2_w 304, 3) := by decide +kernel
theorem dX6_draw_17 : decode cX6_draw 17 = .ok (.land, 1) := by decide +kernel
theorem dX6_draw_18 : decode cX6_draw 18 = .ok (.l2i, 1) := by decide +kernel
theorem dX6_draw_19 : decode cX6_draw 19 = .ok (.putfield 299, 3) := by decide +kernel
theorem dX6_draw_22 : decode cX6_draw 22 = .ok (.aload_n 0, 1) := by decide +kernel
theorem dX6_draw_23 : decode cX6_draw 23 = .ok (.getfield 299, 3) := by decide +kernel
theorem dX6_draw_26 : decode cX6_draw 26 = .ok (.ldc_w 306, 3) := by decide +kernel
theorem dX6_draw_29 : decode cX6_draw 29 = .ok (.idiv, 1) := by decide +kernel
theorem dX6_draw_30 : decode cX6_draw 30 = .ok (.iload_n 1, 1) := by decide +kernel
theorem dX6_draw_31 : decode cX6_draw 31 = .ok (.irem, 1) := by decide +kernel
theorem dX6_draw_32 : decode cX6_draw 32 = .ok (.ireturn, 1) := by decide +kernel
set_option maxRecDepth 20000 in
theorem ggX6_drawn_X6_in : GoodIn wsX6_drawn wsX6_in := goodIn_r _ [10] rfl (by decide +kernel)
set_option maxRecDepth 20000 in
theorem gX6_drawn_X6_in : GoodIn wsX6_drawn (va_wsS RX6 94 yX6_in wsX6_in) := goodIn_app (goodIn_of _ (by decide +kernel)) ggX6_drawn_X6_in
set_option maxRecDepth 20000 in
theorem ggX6_drawn_X6_lacks : GoodIn wsX6_drawn wsX6_lacks := goodIn_r _ [14, 15, 117, 118, 119, 120, 121, 122, 123, 124, 125, 126, 127, 128, 129, 130, 131, 132, 133, 134, 135, 136, 137, 138, 139, 140, 141, 142, 143, 144, 145, 146, 147, 148, 149, 150, 151, 152, 153, 154, 155, 156, 157, 158, 159, 160, 161, 162, 163, 164, 165, 166] rfl (by decide +kernel)
set_option maxRecDepth 20000 in
theorem gX6_drawn_X6_lacks : GoodIn wsX6_drawn (wsV RX6 236 RX6 yX6_lacks wsX6_lacks) := goodIn_app (goodIn_of _ (by decide +kernel)) ggX6_drawn_X6_lacks
set_option maxRecDepth 20000 in
theorem ggX6_drawn_X6_begin : GoodIn wsX6_drawn wsX6_begin := goodIn_r _ [19, 20, 21, 22, 4, 23, 5, 24, 25, 6, 26, 27, 15, 28, 117, 118, 119, 120, 121, 122, 123, 124, 125, 126, 127, 128, 129, 130, 131, 132, 133, 134, 135, 136, 137, 138, 139, 140, 141, 142, 143, 144, 145, 146, 147, 148, 149, 150, 151, 152, 153, 154, 155, 156, 157, 158, 159, 160, 161, 162, 163, 164, 165, 166] rfl (by decide +kernel)
set_option maxRecDepth 20000 in
theorem gX6_drawn_X6_begin : GoodIn wsX6_drawn (wsV RX6 267 RX6 yX6_begin wsX6_begin) := goodIn_app (goodIn_of _ (by decide +kernel)) ggX6_drawn_X6_begin
set_option maxRecDepth 20000 in
theorem ggX6_drawn_X6_draw : GoodIn wsX6_drawn wsX6_draw := goodIn_r _ [32, 33, 3, 34, 35, 36, 117, 118, 119, 120, 121, 122, 123, 124, 125, 126, 127, 128, 129, 130, 131, 132, 133, 134, 135, 136, 137, 138, 139, 140, 141, 142, 143, 144, 145, 146, 147, 148, 149, 150, 151, 152, 153, 154, 155, 156, 157, 158, 159, 160, 161, 162, 163, 164, 165, 166] rfl (by decide +kernel)
set_option maxRecDepth 20000 in
theorem gX6_drawn_X6_draw : GoodIn wsX6_drawn (wsV RX6 311 RX6 yX6_draw wsX6_draw) := goodIn_app (goodIn_of _ (by decide +kernel)) ggX6_drawn_X6_draw
set_option maxRecDepth 20000 in
theorem ggX6_drawn_X6_leave : GoodIn wsX6_drawn wsX6_leave := goodIn_r _ [40, 41, 42, 5, 24, 23, 43, 44, 45, 9, 46, 22, 47, 48, 49, 50, 51, 52, 53, 54, 55, 56, 20, 21, 4, 57, 58, 59, 60, 61, 62, 63, 64, 65, 66, 67, 68, 69, 70, 71, 72, 15, 28, 73, 74, 75, 76, 26, 27, 77, 78, 79, 80, 81, 82, 83, 84, 25, 6, 85, 86, 87, 88, 89, 90, 91, 92, 93, 94, 95, 96, 117, 118, 119, 120, 121, 122, 123, 124, 125, 126, 127, 128, 129, 130, 131, 132, 133, 134, 135, 136, 137, 138, 139, 140, 141, 142, 143, 144, 145, 146, 147, 148, 149, 150, 151, 152, 153, 154, 155, 156, 157, 158, 159, 160, 161, 162, 163, 164, 165, 166] rfl (by decide +kernel)
set_option maxRecDepth 20000 in
theorem gX6_drawn_X6_leave : GoodIn wsX6_drawn (wsV RX6 233 RX6 yX6_leave wsX6_leave) := goodIn_app (goodIn_of _ (by decide +kernel)) ggX6_drawn_X6_leave
set_option maxRecDepth 20000 in
theorem ggX6_drawn_X6_enter : GoodIn wsX6_drawn wsX6_enter := goodIn_r _ [100, 42, 41, 5, 22, 101, 102, 103, 9, 104, 23, 20, 21, 4, 24, 65, 66, 67, 68, 43, 44, 45, 46, 47, 48, 49, 50, 51, 52, 105, 106, 107, 108, 69, 70, 71, 72, 15, 28, 73, 74, 75, 76, 26, 27, 109, 110, 111, 112, 85, 86, 87, 88, 89, 90, 91, 92, 77, 78, 79, 80, 81, 82, 83, 84, 25, 6, 93, 94, 95, 96, 61, 62, 63, 64, 117, 118, 119, 120, 121, 122, 123, 124, 125, 126, 127, 128, 129, 130, 131, 132, 133, 134, 135, 136, 137, 138, 139, 140, 141, 142, 143, 144, 145, 146, 147, 148, 149, 150, 151, 152, 153, 154, 155, 156, 157, 158, 159, 160, 161, 162, 163, 164, 165, 166] rfl (by decide +kernel)
set_option maxRecDepth 20000 in
theorem gX6_drawn_X6_enter : GoodIn wsX6_drawn (wsV RX6 227 RX6 yX6_enter wsX6_enter) := goodIn_app (goodIn_of _ (by decide +kernel)) ggX6_drawn_X6_enter
set_option maxRecDepth 20000 in
theorem ggX6_drawn_X6_tall : GoodIn wsX6_drawn wsX6_tall := goodIn_r _ [116, 4, 43, 44, 45, 9, 46, 22, 117, 118, 119, 120, 121, 122, 123, 124, 125, 126, 127, 128, 129, 130, 131, 132, 133, 134, 135, 136, 137, 138, 139, 140, 141, 142, 143, 144, 145, 146, 147, 148, 149, 150, 151, 152, 153, 154, 155, 156, 157, 158, 159, 160, 161, 162, 163, 164, 165, 166] rfl (by decide +kernel)
set_option maxRecDepth 20000 in
theorem gX6_drawn_X6_tall : GoodIn wsX6_drawn (wsV RX6 258 RX6 yX6_tall wsX6_tall) := goodIn_app (goodIn_of _ (by decide +kernel)) ggX6_drawn_X6_tall
theorem dX6_drawn_0 : decode cX6_drawn 0 = .ok (.iload_n 1, 1) := by decide +kernel
theorem dX6_drawn_1 : decode cX6_drawn 1 = .ok (.i2l, 1) := by decide +kernel
theorem dX6_drawn_2 : decode cX6_drawn 2 = .ok (.lconst 1, 1) := by decide +kernel
theorem dX6_drawn_3 : decode cX6_drawn 3 = .ok (.ldc2_w 307, 3) := by decide +kernel
theorem dX6_drawn_6 : decode cX6_drawn 6 = .ok (.invokestatic 94, 3) := by decide +kernel
theorem dX6_drawn_9 : decode cX6_drawn 9 = .ok (.ifCond .eq 19, 3) := by decide +kernel
theorem dX6_drawn_12 : decode cX6_drawn 12 = .ok (.iload_n 2, 1) := by decide +kernel
theorem dX6_drawn_13 : decode cX6_drawn 13 = .ok (.ifCond .lt 15, 3) := by decide +kernel
theorem dX6_drawn_16 : decode cX6_drawn 16 = .ok (.iload_n 3, 1) := by decide +kernel
theorem dX6_drawn_17 : decode cX6_drawn 17 = .ok (.i2l, 1) := by decide +kernel
theorem dX6_drawn_18 : decode cX6_drawn 18 = .ok (.lconst 0, 1) := by decide +kernel
theorem dX6_drawn_19 : decode cX6_drawn 19 = .ok (.ldc2_w 309, 3) := by decide +kernel
theorem dX6_drawn_22 : decode cX6_drawn 22 = .ok (.invokestatic 94, 3) := by decide +kernel
theorem dX6_drawn_25 : decode cX6_drawn 25 = .ok (.ifCond .ne 6, 3) := by decide +kernel
theorem dX6_drawn_28 : decode cX6_drawn 28 = .ok (.bipush (-102), 2) := by decide +kernel
theorem dX6_drawn_30 : decode cX6_drawn 30 = .ok (.ireturn, 1) := by decide +kernel
theorem dX6_drawn_31 : decode cX6_drawn 31 = .ok (.aload_n 0, 1) := by decide +kernel
theorem dX6_drawn_32 : decode cX6_drawn 32 = .ok (.invokevirtual 236, 3) := by decide +kernel
theorem dX6_drawn_35 : decode cX6_drawn 35 = .ok (.ifCond .eq 6, 3) := by decide +kernel
theorem dX6_drawn_38 : decode cX6_drawn 38 = .ok (.bipush (-103), 2) := by decide +kernel
theorem dX6_drawn_40 : decode cX6_drawn 40 = .ok (.ireturn, 1) := by decide +kernel
theorem dX6_drawn_41 : decode cX6_drawn 41 = .ok (.aload_n 0, 1) := by decide +kernel
theorem dX6_drawn_42 : decode cX6_drawn 42 = .ok (.iload_n 2, 1) := by decide +kernel
theorem dX6_drawn_43 : decode cX6_drawn 43 = .ok (.putfield 299, 3) := by decide +kernel
theorem dX6_drawn_46 : decode cX6_drawn 46 = .ok (.aload_n 0, 1) := by decide +kernel
theorem dX6_drawn_47 : decode cX6_drawn 47 = .ok (.invokevirtual 267, 3) := by decide +kernel
