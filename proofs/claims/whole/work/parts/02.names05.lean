theorem dX6_isLopsided_14 : decode cX6_isLopsided 14 = .ok (.iload_n 1, 1) := by decide +kernel
theorem dX6_isLopsided_15 : decode cX6_isLopsided 15 = .ok (.invokevirtual 158, 3) := by decide +kernel
theorem dX6_isLopsided_18 : decode cX6_isLopsided 18 = .ok (.aload_n 0, 1) := by decide +kernel
theorem dX6_isLopsided_19 : decode cX6_isLopsided 19 = .ok (.iload_n 1, 1) := by decide +kernel
theorem dX6_isLopsided_20 : decode cX6_isLopsided 20 = .ok (.aload_n 0, 1) := by decide +kernel
theorem dX6_isLopsided_21 : decode cX6_isLopsided 21 = .ok (.getfield 13, 3) := by decide +kernel
theorem dX6_isLopsided_24 : decode cX6_isLopsided 24 = .ok (.bipush 100, 2) := by decide +kernel
theorem dX6_isLopsided_26 : decode cX6_isLopsided 26 = .ok (.iload_n 1, 1) := by decide +kernel
theorem dX6_isLopsided_27 : decode cX6_isLopsided 27 = .ok (.imul, 1) := by decide +kernel
theorem dX6_isLopsided_28 : decode cX6_isLopsided 28 = .ok (.iload_n 2, 1) := by decide +kernel
theorem dX6_isLopsided_29 : decode cX6_isLopsided 29 = .ok (.iadd, 1) := by decide +kernel
theorem dX6_isLopsided_30 : decode cX6_isLopsided 30 = .ok (.iaload, 1) := by decide +kernel
theorem dX6_isLopsided_31 : decode cX6_isLopsided 31 = .ok (.invokevirtual 168, 3) := by decide +kernel
theorem dX6_isLopsided_34 : decode cX6_isLopsided 34 = .ok (.imul, 1) := by decide +kernel
theorem dX6_isLopsided_35 : decode cX6_isLopsided 35 = .ok (.iload_n 3, 1) := by decide +kernel
theorem dX6_isLopsided_36 : decode cX6_isLopsided 36 = .ok (.if_icmp .gt 29, 3) := by decide +kernel
theorem dX6_isLopsided_39 : decode cX6_isLopsided 39 = .ok (.aload_n 0, 1) := by decide +kernel
theorem dX6_isLopsided_40 : decode cX6_isLopsided 40 = .ok (.iload_n 1, 1) := by decide +kernel
theorem dX6_isLopsided_41 : decode cX6_isLopsided 41 = .ok (.invokevirtual 158, 3) := by decide +kernel
theorem dX6_isLopsided_44 : decode cX6_isLopsided 44 = .ok (.aload_n 0, 1) := by decide +kernel
theorem dX6_isLopsided_45 : decode cX6_isLopsided 45 = .ok (.iload_n 1, 1) := by decide +kernel
theorem dX6_isLopsided_46 : decode cX6_isLopsided 46 = .ok (.aload_n 0, 1) := by decide +kernel
theorem dX6_isLopsided_47 : decode cX6_isLopsided 47 = .ok (.getfield 16, 3) := by decide +kernel
theorem dX6_isLopsided_50 : decode cX6_isLopsided 50 = .ok (.bipush 100, 2) := by decide +kernel
theorem dX6_isLopsided_52 : decode cX6_isLopsided 52 = .ok (.iload_n 1, 1) := by decide +kernel
theorem dX6_isLopsided_53 : decode cX6_isLopsided 53 = .ok (.imul, 1) := by decide +kernel
theorem dX6_isLopsided_54 : decode cX6_isLopsided 54 = .ok (.iload_n 2, 1) := by decide +kernel
theorem dX6_isLopsided_55 : decode cX6_isLopsided 55 = .ok (.iadd, 1) := by decide +kernel
theorem dX6_isLopsided_56 : decode cX6_isLopsided 56 = .ok (.iaload, 1) := by decide +kernel
theorem dX6_isLopsided_57 : decode cX6_isLopsided 57 = .ok (.invokevirtual 168, 3) := by decide +kernel
theorem dX6_isLopsided_60 : decode cX6_isLopsided 60 = .ok (.imul, 1) := by decide +kernel
theorem dX6_isLopsided_61 : decode cX6_isLopsided 61 = .ok (.iload_n 3, 1) := by decide +kernel
theorem dX6_isLopsided_62 : decode cX6_isLopsided 62 = .ok (.if_icmp .le 7, 3) := by decide +kernel
theorem dX6_isLopsided_65 : decode cX6_isLopsided 65 = .ok (.iconst 1, 1) := by decide +kernel
theorem dX6_isLopsided_66 : decode cX6_isLopsided 66 = .ok (.goto 4, 3) := by decide +kernel
theorem dX6_isLopsided_69 : decode cX6_isLopsided 69 = .ok (.iconst 0, 1) := by decide +kernel
theorem dX6_isLopsided_70 : decode cX6_isLopsided 70 = .ok (.ireturn, 1) := by decide +kernel
set_option maxRecDepth 20000 in
theorem ggX6_enter_X6_insert : GoodIn wsX6_enter wsX6_insert := goodIn_r _ [9, 10, 11, 12, 13, 3, 14, 15, 16, 17, 8, 18, 4, 75, 76, 77, 78, 79, 80, 81, 82, 83, 84, 85, 86, 87, 88, 89, 90, 91, 92, 93, 94, 95, 96, 97, 98, 99, 100, 101, 102, 103, 104, 105, 106, 107, 108, 109, 110, 111, 112, 113, 114, 115, 116, 117, 118, 119, 120, 121, 122, 123, 124] (by decide +kernel) (by decide +kernel)
set_option maxRecDepth 20000 in
theorem gX6_enter_X6_insert : GoodIn wsX6_enter (wsV RX6 190 RX6 yX6_insert wsX6_insert) := goodIn_app (goodIn_of _ (by decide +kernel)) ggX6_enter_X6_insert
set_option maxRecDepth 20000 in
theorem ggX6_enter_X6_depth : GoodIn wsX6_enter wsX6_depth := goodIn_r _ [22, 4, 75, 76, 77, 78, 79, 80, 81, 82, 83, 84, 85, 86, 87, 88, 89, 90, 91, 92, 93, 94, 95, 96, 97, 98, 99, 100, 101, 102, 103, 104, 105, 106, 107, 108, 109, 110, 111, 112, 113, 114, 115, 116, 117, 118, 119, 120, 121, 122, 123, 124] (by decide +kernel) (by decide +kernel)
set_option maxRecDepth 20000 in
theorem gX6_enter_X6_depth : GoodIn wsX6_enter (wsV RX6 154 RX6 yX6_depth wsX6_depth) := goodIn_app (goodIn_of _ (by decide +kernel)) ggX6_enter_X6_depth
set_option maxRecDepth 20000 in
theorem ggX6_enter_X6_pay : GoodIn wsX6_enter wsX6_pay := goodIn_r _ [26, 27, 28, 75, 76, 77, 78, 79, 80, 81, 82, 83, 84, 85, 86, 87, 88, 89, 90, 91, 92, 93, 94, 95, 96, 97, 98, 99, 100, 101, 102, 103, 104, 105, 106, 107, 108, 109, 110, 111, 112, 113, 114, 115, 116, 117, 118, 119, 120, 121, 122, 123, 124] (by decide +kernel) (by decide +kernel)
set_option maxRecDepth 20000 in
theorem gX6_enter_X6_pay : GoodIn wsX6_enter (wsV RX6 181 RX6 yX6_pay wsX6_pay) := goodIn_app (goodIn_of _ (by decide +kernel)) ggX6_enter_X6_pay
set_option maxRecDepth 20000 in
theorem ggX6_enter_X6_limit : GoodIn wsX6_enter wsX6_limit := goodIn_r _ [32, 33, 34, 35, 8, 36, 37, 38, 39, 40, 41, 42, 43, 44, 75, 76, 77, 78, 79, 80, 81, 82, 83, 84, 85, 86, 87, 88, 89, 90, 91, 92, 93, 94, 95, 96, 97, 98, 99, 100, 101, 102, 103, 104, 105, 106, 107, 108, 109, 110, 111, 112, 113, 114, 115, 116, 117, 118, 119, 120, 121, 122, 123, 124] (by decide +kernel) (by decide +kernel)
set_option maxRecDepth 20000 in
theorem gX6_enter_X6_limit : GoodIn wsX6_enter (wsV RX6 196 RX6 yX6_limit wsX6_limit) := goodIn_app (goodIn_of _ (by decide +kernel)) ggX6_enter_X6_limit
set_option maxRecDepth 20000 in
theorem ggX6_enter_X6_isLopsided : GoodIn wsX6_enter wsX6_isLopsided := goodIn_r _ [48, 11, 12, 39, 40, 41, 8, 42, 43, 44, 49, 50, 51, 52, 13, 53, 54, 55, 56, 4, 33, 34, 35, 36, 37, 38, 75, 76, 77, 78, 79, 80, 81, 82, 83, 84, 85, 86, 87, 88, 89, 90, 91, 92, 93, 94, 95, 96, 97, 98, 99, 100, 101, 102, 103, 104, 105, 106, 107, 108, 109, 110, 111, 112, 113, 114, 115, 116, 117, 118, 119, 120, 121, 122, 123, 124] (by decide +kernel) (by decide +kernel)
set_option maxRecDepth 20000 in
theorem gX6_enter_X6_isLopsided : GoodIn wsX6_enter (wsV RX6 199 RX6 yX6_isLopsided wsX6_isLopsided) := goodIn_app (goodIn_of _ (by decide +kernel)) ggX6_enter_X6_isLopsided
set_option maxRecDepth 20000 in
theorem ggX6_enter_X6_build : GoodIn wsX6_enter wsX6_build := goodIn_r _ [60, 1, 61, 4, 62, 63, 64, 11, 12, 65, 66, 49, 50, 51, 8, 52, 13, 53, 54, 55, 56, 67, 68, 69, 70, 71, 72, 73, 74, 15, 16, 17, 18, 10, 23, 24, 25, 26, 27, 28, 75, 76, 77, 78, 79, 80, 81, 82, 83, 84, 85, 86, 87, 88, 89, 90, 91, 92, 93, 94, 95, 96, 97, 98, 99, 100, 101, 102, 103, 104, 105, 106, 107, 108, 109, 110, 111, 112, 113, 114, 115, 116, 117, 118, 119, 120, 121, 122, 123, 124] (by decide +kernel) (by decide +kernel)
set_option maxRecDepth 20000 in
theorem gX6_enter_X6_build : GoodIn wsX6_enter (wsV RX6 202 RX6 yX6_build wsX6_build) := goodIn_app (goodIn_of _ (by decide +kernel)) ggX6_enter_X6_build
theorem dX6_enter_0 : decode cX6_enter 0 = .ok (.aload_n 0, 1) := by decide +kernel
theorem dX6_enter_1 : decode cX6_enter 1 = .ok (.iload_n 1, 1) := by decide +kernel
theorem dX6_enter_2 : decode cX6_enter 2 = .ok (.iload_n 2, 1) := by decide +kernel
theorem dX6_enter_3 : decode cX6_enter 3 = .ok (.invokevirtual 190, 3) := by decide +kernel
theorem dX6_enter_6 : decode cX6_enter 6 = .ok (.aload_n 0, 1) := by decide +kernel
theorem dX6_enter_7 : decode cX6_enter 7 = .ok (.iconst 0, 1) := by decide +kernel
theorem dX6_enter_8 : decode cX6_enter 8 = .ok (.putfield 171, 3) := by decide +kernel
theorem dX6_enter_11 : decode cX6_enter 11 = .ok (.aload_n 0, 1) := by decide +kernel
theorem dX6_enter_12 : decode cX6_enter 12 = .ok (.iload_n 1, 1) := by decide +kernel
theorem dX6_enter_13 : decode cX6_enter 13 = .ok (.iload_n 2, 1) := by decide +kernel
theorem dX6_enter_14 : decode cX6_enter 14 = .ok (.invokevirtual 154, 3) := by decide +kernel
theorem dX6_enter_17 : decode cX6_enter 17 = .ok (.istore_n 3, 1) := by decide +kernel
theorem dX6_enter_18 : decode cX6_enter 18 = .ok (.aload_n 0, 1) := by decide +kernel
theorem dX6_enter_19 : decode cX6_enter 19 = .ok (.iload_n 1, 1) := by decide +kernel
theorem dX6_enter_20 : decode cX6_enter 20 = .ok (.aload_n 0, 1) := by decide +kernel
theorem dX6_enter_21 : decode cX6_enter 21 = .ok (.getfield 193, 3) := by decide +kernel
theorem dX6_enter_24 : decode cX6_enter 24 = .ok (.iload_n 3, 1) := by decide +kernel
theorem dX6_enter_25 : decode cX6_enter 25 = .ok (.iconst 1, 1) := by decide +kernel
theorem dX6_enter_26 : decode cX6_enter 26 = .ok (.iadd, 1) := by decide +kernel
theorem dX6_enter_27 : decode cX6_enter 27 = .ok (.imul, 1) := by decide +kernel
theorem dX6_enter_28 : decode cX6_enter 28 = .ok (.invokevirtual 181, 3) := by decide +kernel
theorem dX6_enter_31 : decode cX6_enter 31 = .ok (.iload_n 3, 1) := by decide +kernel
theorem dX6_enter_32 : decode cX6_enter 32 = .ok (.aload_n 0, 1) := by decide +kernel
theorem dX6_enter_33 : decode cX6_enter 33 = .ok (.iload_n 1, 1) := by decide +kernel
theorem dX6_enter_34 : decode cX6_enter 34 = .ok (.aload_n 0, 1) := by decide +kernel
theorem dX6_enter_35 : decode cX6_enter 35 = .ok (.getfield 28, 3) := by decide +kernel
theorem dX6_enter_38 : decode cX6_enter 38 = .ok (.iload_n 1, 1) := by decide +kernel
theorem dX6_enter_39 : decode cX6_enter 39 = .ok (.iaload, 1) := by decide +kernel
theorem dX6_enter_40 : decode cX6_enter 40 = .ok (.invokevirtual 196, 3) := by decide +kernel
theorem dX6_enter_43 : decode cX6_enter 43 = .ok (.if_icmp .le 52, 3) := by decide +kernel
theorem dX6_enter_46 : decode cX6_enter 46 = .ok (.iload_n 2, 1) := by decide +kernel
theorem dX6_enter_47 : decode cX6_enter 47 = .ok (.istore 4, 2) := by decide +kernel
theorem dX6_enter_49 : decode cX6_enter 49 = .ok (.iload 4, 2) := by decide +kernel
theorem dX6_enter_51 : decode cX6_enter 51 = .ok (.iconst (-1), 1) := by decide +kernel
theorem dX6_enter_52 : decode cX6_enter 52 = .ok (.if_icmp .eq 30, 3) := by decide +kernel
theorem dX6_enter_55 : decode cX6_enter 55 = .ok (.aload_n 0, 1) := by decide +kernel
theorem dX6_enter_56 : decode cX6_enter 56 = .ok (.iload_n 1, 1) := by decide +kernel
theorem dX6_enter_57 : decode cX6_enter 57 = .ok (.iload 4, 2) := by decide +kernel
theorem dX6_enter_59 : decode cX6_enter 59 = .ok (.invokevirtual 199, 3) := by decide +kernel
theorem dX6_enter_62 : decode cX6_enter 62 = .ok (.ifCond .ne 20, 3) := by decide +kernel
theorem dX6_enter_65 : decode cX6_enter 65 = .ok (.aload_n 0, 1) := by decide +kernel
theorem dX6_enter_66 : decode cX6_enter 66 = .ok (.getfield 19, 3) := by decide +kernel
theorem dX6_enter_69 : decode cX6_enter 69 = .ok (.bipush 100, 2) := by decide +kernel
theorem dX6_enter_71 : decode cX6_enter 71 = .ok (.iload_n 1, 1) := by decide +kernel
theorem dX6_enter_72 : decode cX6_enter 72 = .ok (.imul, 1) := by decide +kernel
theorem dX6_enter_73 : decode cX6_enter 73 = .ok (.iload 4, 2) := by decide +kernel
theorem dX6_enter_75 : decode cX6_enter 75 = .ok (.iadd, 1) := by decide +kernel
theorem dX6_enter_76 : decode cX6_enter 76 = .ok (.iaload, 1) := by decide +kernel
theorem dX6_enter_77 : decode cX6_enter 77 = .ok (.istore 4, 2) := by decide +kernel
theorem dX6_enter_79 : decode cX6_enter 79 = .ok (.goto (-30), 3) := by decide +kernel
theorem dX6_enter_82 : decode cX6_enter 82 = .ok (.iload 4, 2) := by decide +kernel
theorem dX6_enter_84 : decode cX6_enter 84 = .ok (.iconst (-1), 1) := by decide +kernel
theorem dX6_enter_85 : decode cX6_enter 85 = .ok (.if_icmp .eq 10, 3) := by decide +kernel
theorem dX6_enter_88 : decode cX6_enter 88 = .ok (.aload_n 0, 1) := by decide +kernel
theorem dX6_enter_89 : decode cX6_enter 89 = .ok (.iload_n 1, 1) := by decide +kernel
theorem dX6_enter_90 : decode cX6_enter 90 = .ok (.iload 4, 2) := by decide +kernel
theorem dX6_enter_92 : decode cX6_enter 92 = .ok (.invokevirtual 202, 3) := by decide +kernel
theorem dX6_enter_95 : decode cX6_enter 95 = .ok (.return_, 1) := by decide +kernel
set_option maxRecDepth 20000 in
theorem ggX6_unhang_X6_replace : GoodIn wsX6_unhang wsX6_replace := goodIn_r _ [7, 8, 1, 2, 9, 10, 11, 6, 12, 13, 14, 15, 16, 17, 18, 19, 20, 21, 22, 23, 24, 25, 26, 27, 28, 29, 30, 31, 32, 33, 34, 35, 36, 37, 38, 39, 40, 41, 42, 43, 44, 45, 46, 47, 48, 49, 50, 51, 52, 53, 54, 55, 56, 57, 58, 59, 60, 61, 62, 63] (by decide +kernel) (by decide +kernel)
set_option maxRecDepth 20000 in
theorem gX6_unhang_X6_replace : GoodIn wsX6_unhang (wsV RX6 178 RX6 yX6_replace wsX6_replace) := goodIn_app (goodIn_of _ (by decide +kernel)) ggX6_unhang_X6_replace
theorem dX6_unhang_0 : decode cX6_unhang 0 = .ok (.aload_n 0, 1) := by decide +kernel
theorem dX6_unhang_1 : decode cX6_unhang 1 = .ok (.getfield 13, 3) := by decide +kernel
theorem dX6_unhang_4 : decode cX6_unhang 4 = .ok (.bipush 100, 2) := by decide +kernel
theorem dX6_unhang_6 : decode cX6_unhang 6 = .ok (.iload_n 1, 1) := by decide +kernel
theorem dX6_unhang_7 : decode cX6_unhang 7 = .ok (.imul, 1) := by decide +kernel
theorem dX6_unhang_8 : decode cX6_unhang 8 = .ok (.iload_n 2, 1) := by decide +kernel
theorem dX6_unhang_9 : decode cX6_unhang 9 = .ok (.iadd, 1) := by decide +kernel
theorem dX6_unhang_10 : decode cX6_unhang 10 = .ok (.iaload, 1) := by decide +kernel
theorem dX6_unhang_11 : decode cX6_unhang 11 = .ok (.iconst (-1), 1) := by decide +kernel
theorem dX6_unhang_12 : decode cX6_unhang 12 = .ok (.if_icmp .ne 17, 3) := by decide +kernel
theorem dX6_unhang_15 : decode cX6_unhang 15 = .ok (.aload_n 0, 1) := by decide +kernel
theorem dX6_unhang_16 : decode cX6_unhang 16 = .ok (.getfield 16, 3) := by decide +kernel
theorem dX6_unhang_19 : decode cX6_unhang 19 = .ok (.bipush 100, 2) := by decide +kernel
theorem dX6_unhang_21 : decode cX6_unhang 21 = .ok (.iload_n 1, 1) := by decide +kernel
theorem dX6_unhang_22 : decode cX6_unhang 22 = .ok (.imul, 1) := by decide +kernel
theorem dX6_unhang_23 : decode cX6_unhang 23 = .ok (.iload_n 2, 1) := by decide +kernel
theorem dX6_unhang_24 : decode cX6_unhang 24 = .ok (.iadd, 1) := by decide +kernel
theorem dX6_unhang_25 : decode cX6_unhang 25 = .ok (.iaload, 1) := by decide +kernel
theorem dX6_unhang_26 : decode cX6_unhang 26 = .ok (.goto 14, 3) := by decide +kernel
theorem dX6_unhang_29 : decode cX6_unhang 29 = .ok (.aload_n 0, 1) := by decide +kernel
theorem dX6_unhang_30 : decode cX6_unhang 30 = .ok (.getfield 13, 3) := by decide +kernel
theorem dX6_unhang_33 : decode cX6_unhang 33 = .ok (.bipush 100, 2) := by decide +kernel
theorem dX6_unhang_35 : decode cX6_unhang 35 = .ok (.iload_n 1, 1) := by decide +kernel
theorem dX6_unhang_36 : decode cX6_unhang 36 = .ok (.imul, 1) := by decide +kernel
theorem dX6_unhang_37 : decode cX6_unhang 37 = .ok (.iload_n 2, 1) := by decide +kernel
theorem dX6_unhang_38 : decode cX6_unhang 38 = .ok (.iadd, 1) := by decide +kernel
theorem dX6_unhang_39 : decode cX6_unhang 39 = .ok (.iaload, 1) := by decide +kernel
theorem dX6_unhang_40 : decode cX6_unhang 40 = .ok (.istore_n 3, 1) := by decide +kernel
theorem dX6_unhang_41 : decode cX6_unhang 41 = .ok (.aload_n 0, 1) := by decide +kernel
theorem dX6_unhang_42 : decode cX6_unhang 42 = .ok (.iload_n 1, 1) := by decide +kernel
theorem dX6_unhang_43 : decode cX6_unhang 43 = .ok (.iload_n 2, 1) := by decide +kernel
theorem dX6_unhang_44 : decode cX6_unhang 44 = .ok (.iload_n 3, 1) := by decide +kernel
theorem dX6_unhang_45 : decode cX6_unhang 45 = .ok (.invokevirtual 178, 3) := by decide +kernel
theorem dX6_unhang_48 : decode cX6_unhang 48 = .ok (.return_, 1) := by decide +kernel
set_option maxRecDepth 20000 in
theorem ggX6_remove_X6_unhang : GoodIn wsX6_remove wsX6_unhang := goodIn_r _ [9, 1, 2, 10, 11, 12, 8, 13, 14, 15, 16, 17, 18, 19, 20, 21, 22, 23, 24, 25, 26, 27, 28, 29, 30, 31, 32, 33, 34, 35, 36, 37, 38, 39, 40, 41, 42, 43, 44, 45, 46, 47, 48, 49, 50, 51, 52, 53, 54, 55, 56, 57, 58, 59, 60, 61, 62, 63, 64, 65, 66, 67, 68, 69] (by decide +kernel) (by decide +kernel)
set_option maxRecDepth 20000 in
theorem gX6_remove_X6_unhang : GoodIn wsX6_remove (wsV RX6 205 RX6 yX6_unhang wsX6_unhang) := goodIn_app (goodIn_of _ (by decide +kernel)) ggX6_remove_X6_unhang
set_option maxRecDepth 20000 in
theorem ggX6_remove_X6_hang : GoodIn wsX6_remove wsX6_hang := goodIn_r _ [18, 14, 19, 20, 21, 22, 23, 24, 25, 26, 27, 28, 29, 30, 31, 32, 33, 34, 35, 36, 37, 38, 39, 40, 41, 42, 43, 44, 45, 46, 47, 48, 49, 50, 51, 52, 53, 54, 55, 56, 57, 58, 59, 60, 61, 62, 63, 64, 65, 66, 67, 68, 69] (by decide +kernel) (by decide +kernel)
set_option maxRecDepth 20000 in
theorem gX6_remove_X6_hang : GoodIn wsX6_remove (wsV RX6 164 RX6 yX6_hang wsX6_hang) := goodIn_app (goodIn_of _ (by decide +kernel)) ggX6_remove_X6_hang
set_option maxRecDepth 20000 in
theorem ggX6_remove_X6_replace : GoodIn wsX6_remove wsX6_replace := goodIn_r _ [13, 14, 1, 2, 15, 16, 17, 8, 18, 19, 20, 21, 22, 23, 24, 25, 26, 27, 28, 29, 30, 31, 32, 33, 34, 35, 36, 37, 38, 39, 40, 41, 42, 43, 44, 45, 46, 47, 48, 49, 50, 51, 52, 53, 54, 55, 56, 57, 58, 59, 60, 61, 62, 63, 64, 65, 66, 67, 68, 69] (by decide +kernel) (by decide +kernel)
set_option maxRecDepth 20000 in
theorem gX6_remove_X6_replace : GoodIn wsX6_remove (wsV RX6 178 RX6 yX6_replace wsX6_replace) := goodIn_app (goodIn_of _ (by decide +kernel)) ggX6_remove_X6_replace
theorem dX6_remove_0 : decode cX6_remove 0 = .ok (.aload_n 0, 1) := by decide +kernel
theorem dX6_remove_1 : decode cX6_remove 1 = .ok (.getfield 13, 3) := by decide +kernel
theorem dX6_remove_4 : decode cX6_remove 4 = .ok (.bipush 100, 2) := by decide +kernel
theorem dX6_remove_6 : decode cX6_remove 6 = .ok (.iload_n 1, 1) := by decide +kernel
theorem dX6_remove_7 : decode cX6_remove 7 = .ok (.imul, 1) := by decide +kernel
theorem dX6_remove_8 : decode cX6_remove 8 = .ok (.iload_n 2, 1) := by decide +kernel
theorem dX6_remove_9 : decode cX6_remove 9 = .ok (.iadd, 1) := by decide +kernel
theorem dX6_remove_10 : decode cX6_remove 10 = .ok (.iaload, 1) := by decide +kernel
theorem dX6_remove_11 : decode cX6_remove 11 = .ok (.iconst (-1), 1) := by decide +kernel
theorem dX6_remove_12 : decode cX6_remove 12 = .ok (.if_icmp .eq 18, 3) := by decide +kernel
theorem dX6_remove_15 : decode cX6_remove 15 = .ok (.aload_n 0, 1) := by decide +kernel
theorem dX6_remove_16 : decode cX6_remove 16 = .ok (.getfield 16, 3) := by decide +kernel
theorem dX6_remove_19 : decode cX6_remove 19 = .ok (.bipush 100, 2) := by decide +kernel
theorem dX6_remove_21 : decode cX6_remove 21 = .ok (.iload_n 1, 1) := by decide +kernel
theorem dX6_remove_22 : decode cX6_remove 22 = .ok (.imul, 1) := by decide +kernel
theorem dX6_remove_23 : decode cX6_remove 23 = .ok (.iload_n 2, 1) := by decide +kernel
theorem dX6_remove_24 : decode cX6_remove 24 = .ok (.iadd, 1) := by decide +kernel
theorem dX6_remove_25 : decode cX6_remove 25 = .ok (.iaload, 1) := by decide +kernel
theorem dX6_remove_26 : decode cX6_remove 26 = .ok (.iconst (-1), 1) := by decide +kernel
theorem dX6_remove_27 : decode cX6_remove 27 = .ok (.if_icmp .ne 12, 3) := by decide +kernel
theorem dX6_remove_30 : decode cX6_remove 30 = .ok (.aload_n 0, 1) := by decide +kernel
theorem dX6_remove_31 : decode cX6_remove 31 = .ok (.iload_n 1, 1) := by decide +kernel
theorem dX6_remove_32 : decode cX6_remove 32 = .ok (.iload_n 2, 1) := by decide +kernel
theorem dX6_remove_33 : decode cX6_remove 33 = .ok (.invokevirtual 205, 3) := by decide +kernel
theorem dX6_remove_36 : decode cX6_remove 36 = .ok (.goto 151, 3) := by decide +kernel
theorem dX6_remove_39 : decode cX6_remove 39 = .ok (.aload_n 0, 1) := by decide +kernel
theorem dX6_remove_40 : decode cX6_remove 40 = .ok (.getfield 16, 3) := by decide +kernel
theorem dX6_remove_43 : decode cX6_remove 43 = .ok (.bipush 100, 2) := by decide +kernel
theorem dX6_remove_45 : decode cX6_remove 45 = .ok (.iload_n 1, 1) := by decide +kernel
theorem dX6_remove_46 : decode cX6_remove 46 = .ok (.imul, 1) := by decide +kernel
theorem dX6_remove_47 : decode cX6_remove 47 = .ok (.iload_n 2, 1) := by decide +kernel
theorem dX6_remove_48 : decode cX6_remove 48 = .ok (.iadd, 1) := by decide +kernel
theorem dX6_remove_49 : decode cX6_remove 49 = .ok (.iaload, 1) := by decide +kernel
theorem dX6_remove_50 : decode cX6_remove 50 = .ok (.istore_n 3, 1) := by decide +kernel
theorem dX6_remove_51 : decode cX6_remove 51 = .ok (.aload_n 0, 1) := by decide +kernel
theorem dX6_remove_52 : decode cX6_remove 52 = .ok (.getfield 13, 3) := by decide +kernel
theorem dX6_remove_55 : decode cX6_remove 55 = .ok (.bipush 100, 2) := by decide +kernel
theorem dX6_remove_57 : decode cX6_remove 57 = .ok (.iload_n 1, 1) := by decide +kernel
theorem dX6_remove_58 : decode cX6_remove 58 = .ok (.imul, 1) := by decide +kernel
theorem dX6_remove_59 : decode cX6_remove 59 = .ok (.iload_n 3, 1) := by decide +kernel
theorem dX6_remove_60 : decode cX6_remove 60 = .ok (.iadd, 1) := by decide +kernel
theorem dX6_remove_61 : decode cX6_remove 61 = .ok (.iaload, 1) := by decide +kernel
theorem dX6_remove_62 : decode cX6_remove 62 = .ok (.iconst (-1), 1) := by decide +kernel
theorem dX6_remove_63 : decode cX6_remove 63 = .ok (.if_icmp .eq 18, 3) := by decide +kernel
theorem dX6_remove_66 : decode cX6_remove 66 = .ok (.aload_n 0, 1) := by decide +kernel
theorem dX6_remove_67 : decode cX6_remove 67 = .ok (.getfield 13, 3) := by decide +kernel
theorem dX6_remove_70 : decode cX6_remove 70 = .ok (.bipush 100, 2) := by decide +kernel
theorem dX6_remove_72 : decode cX6_remove 72 = .ok (.iload_n 1, 1) := by decide +kernel
theorem dX6_remove_73 : decode cX6_remove 73 = .ok (.imul, 1) := by decide +kernel
theorem dX6_remove_74 : decode cX6_remove 74 = .ok (.iload_n 3, 1) := by decide +kernel
theorem dX6_remove_75 : decode cX6_remove 75 = .ok (.iadd, 1) := by decide +kernel
theorem dX6_remove_76 : decode cX6_remove 76 = .ok (.iaload, 1) := by decide +kernel
theorem dX6_remove_77 : decode cX6_remove 77 = .ok (.istore_n 3, 1) := by decide +kernel
theorem dX6_remove_78 : decode cX6_remove 78 = .ok (.goto (-27), 3) := by decide +kernel
theorem dX6_remove_81 : decode cX6_remove 81 = .ok (.aload_n 0, 1) := by decide +kernel
theorem dX6_remove_82 : decode cX6_remove 82 = .ok (.iload_n 1, 1) := by decide +kernel
theorem dX6_remove_83 : decode cX6_remove 83 = .ok (.iload_n 3, 1) := by decide +kernel
theorem dX6_remove_84 : decode cX6_remove 84 = .ok (.invokevirtual 205, 3) := by decide +kernel
theorem dX6_remove_87 : decode cX6_remove 87 = .ok (.aload_n 0, 1) := by decide +kernel
theorem dX6_remove_88 : decode cX6_remove 88 = .ok (.getfield 13, 3) := by decide +kernel
theorem dX6_remove_91 : decode cX6_remove 91 = .ok (.bipush 100, 2) := by decide +kernel
theorem dX6_remove_93 : decode cX6_remove 93 = .ok (.iload_n 1, 1) := by decide +kernel
theorem dX6_remove_94 : decode cX6_remove 94 = .ok (.imul, 1) := by decide +kernel
theorem dX6_remove_95 : decode cX6_remove 95 = .ok (.iload_n 3, 1) := by decide +kernel
theorem dX6_remove_96 : decode cX6_remove 96 = .ok (.iadd, 1) := by decide +kernel
theorem dX6_remove_97 : decode cX6_remove 97 = .ok (.aload_n 0, 1) := by decide +kernel
theorem dX6_remove_98 : decode cX6_remove 98 = .ok (.getfield 13, 3) := by decide +kernel
theorem dX6_remove_101 : decode cX6_remove 101 = .ok (.bipush 100, 2) := by decide +kernel
theorem dX6_remove_103 : decode cX6_remove 103 = .ok (.iload_n 1, 1) := by decide +kernel
theorem dX6_remove_104 : decode cX6_remove 104 = .ok (.imul, 1) := by decide +kernel
theorem dX6_remove_105 : decode cX6_remove 105 = .ok (.iload_n 2, 1) := by decide +kernel
theorem dX6_remove_106 : decode cX6_remove 106 = .ok (.iadd, 1) := by decide +kernel
theorem dX6_remove_107 : decode cX6_remove 107 = .ok (.iaload, 1) := by decide +kernel
theorem dX6_remove_108 : decode cX6_remove 108 = .ok (.iastore, 1) := by decide +kernel
theorem dX6_remove_109 : decode cX6_remove 109 = .ok (.aload_n 0, 1) := by decide +kernel
theorem dX6_remove_110 : decode cX6_remove 110 = .ok (.getfield 16, 3) := by decide +kernel
theorem dX6_remove_113 : decode cX6_remove 113 = .ok (.bipush 100, 2) := by decide +kernel
theorem dX6_remove_115 : decode cX6_remove 115 = .ok (.iload_n 1, 1) := by decide +kernel
theorem dX6_remove_116 : decode cX6_remove 116 = .ok (.imul, 1) := by decide +kernel
theorem dX6_remove_117 : decode cX6_remove 117 = .ok (.iload_n 3, 1) := by decide +kernel
theorem dX6_remove_118 : decode cX6_remove 118 = .ok (.iadd, 1) := by decide +kernel
theorem dX6_remove_119 : decode cX6_remove 119 = .ok (.aload_n 0, 1) := by decide +kernel
theorem dX6_remove_120 : decode cX6_remove 120 = .ok (.getfield 16, 3) := by decide +kernel
theorem dX6_remove_123 : decode cX6_remove 123 = .ok (.bipush 100, 2) := by decide +kernel
theorem dX6_remove_125 : decode cX6_remove 125 = .ok (.iload_n 1, 1) := by decide +kernel
theorem dX6_remove_126 : decode cX6_remove 126 = .ok (.imul, 1) := by decide +kernel
theorem dX6_remove_127 : decode cX6_remove 127 = .ok (.iload_n 2, 1) := by decide +kernel
theorem dX6_remove_128 : decode cX6_remove 128 = .ok (.iadd, 1) := by decide +kernel
theorem dX6_remove_129 : decode cX6_remove 129 = .ok (.iaload, 1) := by decide +kernel
theorem dX6_remove_130 : decode cX6_remove 130 = .ok (.iastore, 1) := by decide +kernel
theorem dX6_remove_131 : decode cX6_remove 131 = .ok (.aload_n 0, 1) := by decide +kernel
theorem dX6_remove_132 : decode cX6_remove 132 = .ok (.iload_n 1, 1) := by decide +kernel
theorem dX6_remove_133 : decode cX6_remove 133 = .ok (.aload_n 0, 1) := by decide +kernel
theorem dX6_remove_134 : decode cX6_remove 134 = .ok (.getfield 13, 3) := by decide +kernel
theorem dX6_remove_137 : decode cX6_remove 137 = .ok (.bipush 100, 2) := by decide +kernel
theorem dX6_remove_139 : decode cX6_remove 139 = .ok (.iload_n 1, 1) := by decide +kernel
theorem dX6_remove_140 : decode cX6_remove 140 = .ok (.imul, 1) := by decide +kernel
theorem dX6_remove_141 : decode cX6_remove 141 = .ok (.iload_n 3, 1) := by decide +kernel
theorem dX6_remove_142 : decode cX6_remove 142 = .ok (.iadd, 1) := by decide +kernel
theorem dX6_remove_143 : decode cX6_remove 143 = .ok (.iaload, 1) := by decide +kernel
theorem dX6_remove_144 : decode cX6_remove 144 = .ok (.iload_n 3, 1) := by decide +kernel
theorem dX6_remove_145 : decode cX6_remove 145 = .ok (.invokevirtual 164, 3) := by decide +kernel
theorem dX6_remove_148 : decode cX6_remove 148 = .ok (.aload_n 0, 1) := by decide +kernel
theorem dX6_remove_149 : decode cX6_remove 149 = .ok (.getfield 16, 3) := by decide +kernel
theorem dX6_remove_152 : decode cX6_remove 152 = .ok (.bipush 100, 2) := by decide +kernel
theorem dX6_remove_154 : decode cX6_remove 154 = .ok (.iload_n 1, 1) := by decide +kernel
theorem dX6_remove_155 : decode cX6_remove 155 = .ok (.imul, 1) := by decide +kernel
theorem dX6_remove_156 : decode cX6_remove 156 = .ok (.iload_n 3, 1) := by decide +kernel
theorem dX6_remove_157 : decode cX6_remove 157 = .ok (.iadd, 1) := by decide +kernel
theorem dX6_remove_158 : decode cX6_remove 158 = .ok (.iaload, 1) := by decide +kernel
theorem dX6_remove_159 : decode cX6_remove 159 = .ok (.iconst (-1), 1) := by decide +kernel
theorem dX6_remove_160 : decode cX6_remove 160 = .ok (.if_icmp .eq 20, 3) := by decide +kernel
theorem dX6_remove_163 : decode cX6_remove 163 = .ok (.aload_n 0, 1) := by decide +kernel
theorem dX6_remove_164 : decode cX6_remove 164 = .ok (.iload_n 1, 1) := by decide +kernel
theorem dX6_remove_165 : decode cX6_remove 165 = .ok (.aload_n 0, 1) := by decide +kernel
theorem dX6_remove_166 : decode cX6_remove 166 = .ok (.getfield 16, 3) := by decide +kernel
theorem dX6_remove_169 : decode cX6_remove 169 = .ok (.bipush 100, 2) := by decide +kernel
theorem dX6_remove_171 : decode cX6_remove 171 = .ok (.iload_n 1, 1) := by decide +kernel
theorem dX6_remove_172 : decode cX6_remove 172 = .ok (.imul, 1) := by decide +kernel
theorem dX6_remove_173 : decode cX6_remove 173 = .ok (.iload_n 3, 1) := by decide +kernel
theorem dX6_remove_174 : decode cX6_remove 174 = .ok (.iadd, 1) := by decide +kernel
theorem dX6_remove_175 : decode cX6_remove 175 = .ok (.iaload, 1) := by decide +kernel
theorem dX6_remove_176 : decode cX6_remove 176 = .ok (.iload_n 3, 1) := by decide +kernel
theorem dX6_remove_177 : decode cX6_remove 177 = .ok (.invokevirtual 164, 3) := by decide +kernel
theorem dX6_remove_180 : decode cX6_remove 180 = .ok (.aload_n 0, 1) := by decide +kernel
theorem dX6_remove_181 : decode cX6_remove 181 = .ok (.iload_n 1, 1) := by decide +kernel
theorem dX6_remove_182 : decode cX6_remove 182 = .ok (.iload_n 2, 1) := by decide +kernel
theorem dX6_remove_183 : decode cX6_remove 183 = .ok (.iload_n 3, 1) := by decide +kernel
theorem dX6_remove_184 : decode cX6_remove 184 = .ok (.invokevirtual 178, 3) := by decide +kernel
theorem dX6_remove_187 : decode cX6_remove 187 = .ok (.aload_n 0, 1) := by decide +kernel
theorem dX6_remove_188 : decode cX6_remove 188 = .ok (.getfield 22, 3) := by decide +kernel
theorem dX6_remove_191 : decode cX6_remove 191 = .ok (.bipush 100, 2) := by decide +kernel
theorem dX6_remove_193 : decode cX6_remove 193 = .ok (.iload_n 1, 1) := by decide +kernel
theorem dX6_remove_194 : decode cX6_remove 194 = .ok (.imul, 1) := by decide +kernel
theorem dX6_remove_195 : decode cX6_remove 195 = .ok (.iload_n 2, 1) := by decide +kernel
theorem dX6_remove_196 : decode cX6_remove 196 = .ok (.iadd, 1) := by decide +kernel
theorem dX6_remove_197 : decode cX6_remove 197 = .ok (.iconst 0, 1) := by decide +kernel
theorem dX6_remove_198 : decode cX6_remove 198 = .ok (.iastore, 1) := by decide +kernel
theorem dX6_remove_199 : decode cX6_remove 199 = .ok (.aload_n 0, 1) := by decide +kernel
theorem dX6_remove_200 : decode cX6_remove 200 = .ok (.getfield 28, 3) := by decide +kernel
theorem dX6_remove_203 : decode cX6_remove 203 = .ok (.iload_n 1, 1) := by decide +kernel
theorem dX6_remove_204 : decode cX6_remove 204 = .ok (.dup2, 1) := by decide +kernel
theorem dX6_remove_205 : decode cX6_remove 205 = .ok (.iaload, 1) := by decide +kernel
theorem dX6_remove_206 : decode cX6_remove 206 = .ok (.iconst 1, 1) := by decide +kernel
theorem dX6_remove_207 : decode cX6_remove 207 = .ok (.isub, 1) := by decide +kernel
theorem dX6_remove_208 : decode cX6_remove 208 = .ok (.iastore, 1) := by decide +kernel
theorem dX6_remove_209 : decode cX6_remove 209 = .ok (.return_, 1) := by decide +kernel
set_option maxRecDepth 20000 in
theorem ggX6_leave_X6_depth : GoodIn wsX6_leave wsX6_depth := goodIn_r _ [10, 11, 71, 72, 73, 74, 75, 76, 77, 78, 79, 80, 81, 82, 83, 84, 85, 86, 87, 88, 89, 90, 91, 92, 93, 94, 95, 96, 97, 98, 99, 100, 101, 102, 103, 104, 105, 106, 107, 108, 109, 110, 111, 112, 113, 114, 115, 116, 117, 118, 119, 120] (by decide +kernel) (by decide +kernel)
set_option maxRecDepth 20000 in
theorem gX6_leave_X6_depth : GoodIn wsX6_leave (wsV RX6 154 RX6 yX6_depth wsX6_depth) := goodIn_app (goodIn_of _ (by decide +kernel)) ggX6_leave_X6_depth
set_option maxRecDepth 20000 in
theorem ggX6_leave_X6_pay : GoodIn wsX6_leave wsX6_pay := goodIn_r _ [15, 16, 17, 71, 72, 73, 74, 75, 76, 77, 78, 79, 80, 81, 82, 83, 84, 85, 86, 87, 88, 89, 90, 91, 92, 93, 94, 95, 96, 97, 98, 99, 100, 101, 102, 103, 104, 105, 106, 107, 108, 109, 110, 111, 112, 113, 114, 115, 116, 117, 118, 119, 120] (by decide +kernel) (by decide +kernel)
set_option maxRecDepth 20000 in
theorem gX6_leave_X6_pay : GoodIn wsX6_leave (wsV RX6 181 RX6 yX6_pay wsX6_pay) := goodIn_app (goodIn_of _ (by decide +kernel)) ggX6_leave_X6_pay
set_option maxRecDepth 20000 in
theorem ggX6_leave_X6_remove : GoodIn wsX6_leave wsX6_remove := goodIn_r _ [21, 22, 23, 24, 3, 25, 26, 27, 9, 28, 29, 30, 31, 32, 11, 33, 34, 35, 36, 5, 71, 72, 73, 74, 75, 76, 77, 78, 79, 80, 81, 82, 83, 84, 85, 86, 87, 88, 89, 90, 91, 92, 93, 94, 95, 96, 97, 98, 99, 100, 101, 102, 103, 104, 105, 106, 107, 108, 109, 110, 111, 112, 113, 114, 115, 116, 117, 118, 119, 120] (by decide +kernel) (by decide +kernel)
set_option maxRecDepth 20000 in
theorem gX6_leave_X6_remove : GoodIn wsX6_leave (wsV RX6 208 RX6 yX6_remove wsX6_remove) := goodIn_app (goodIn_of _ (by decide +kernel)) ggX6_leave_X6_remove
set_option maxRecDepth 20000 in
theorem ggX6_leave_X6_b : GoodIn wsX6_leave wsX6_b := goodIn_r _ [40, 41, 42, 71, 72, 73, 74, 75, 76, 77, 78, 79, 80, 81, 82, 83, 84, 85, 86, 87, 88, 89, 90, 91, 92, 93, 94, 95, 96, 97, 98, 99, 100, 101, 102, 103, 104, 105, 106, 107, 108, 109, 110, 111, 112, 113, 114, 115, 116, 117, 118, 119, 120] (by decide +kernel) (by decide +kernel)
set_option maxRecDepth 20000 in
theorem gX6_leave_X6_b : GoodIn wsX6_leave (wsV RX6 158 RX6 yX6_b wsX6_b) := goodIn_app (goodIn_of _ (by decide +kernel)) ggX6_leave_X6_b
set_option maxRecDepth 20000 in
theorem ggX6_leave_X6_a : GoodIn wsX6_leave wsX6_a := goodIn_r _ [46, 47, 48, 71, 72, 73, 74, 75, 76, 77, 78, 79, 80, 81, 82, 83, 84, 85, 86, 87, 88, 89, 90, 91, 92, 93, 94, 95, 96, 97, 98, 99, 100, 101, 102, 103, 104, 105, 106, 107, 108, 109, 110, 111, 112, 113, 114, 115, 116, 117, 118, 119, 120] (by decide +kernel) (by decide +kernel)
set_option maxRecDepth 20000 in
theorem gX6_leave_X6_a : GoodIn wsX6_leave (wsV RX6 161 RX6 yX6_a wsX6_a) := goodIn_app (goodIn_of _ (by decide +kernel)) ggX6_leave_X6_a
set_option maxRecDepth 20000 in
theorem ggX6_leave_X6_build : GoodIn wsX6_leave wsX6_build := goodIn_r _ [52, 2, 53, 11, 54, 55, 56, 22, 23, 57, 58, 59, 60, 61, 9, 62, 24, 63, 64, 65, 66, 67, 68, 69, 70, 29, 30, 31, 32, 33, 34, 35, 36, 5, 12, 13, 14, 15, 16, 17, 71, 72, 73, 74, 75, 76, 77, 78, 79, 80, 81, 82, 83, 84, 85, 86, 87, 88, 89, 90, 91, 92, 93, 94, 95, 96, 97, 98, 99, 100, 101, 102, 103, 104, 105, 106, 107, 108, 109, 110, 111, 112, 113, 114, 115, 116, 117, 118, 119, 120] (by decide +kernel) (by decide +kernel)
set_option maxRecDepth 20000 in
theorem gX6_leave_X6_build : GoodIn wsX6_leave (wsV RX6 202 RX6 yX6_build wsX6_build) := goodIn_app (goodIn_of _ (by decide +kernel)) ggX6_leave_X6_build
theorem dX6_leave_0 : decode cX6_leave 0 = .ok (.aload_n 0, 1) := by decide +kernel
theorem dX6_leave_1 : decode cX6_leave 1 = .ok (.iload_n 1, 1) := by decide +kernel
theorem dX6_leave_2 : decode cX6_leave 2 = .ok (.aload_n 0, 1) := by decide +kernel
theorem dX6_leave_3 : decode cX6_leave 3 = .ok (.getfield 193, 3) := by decide +kernel
theorem dX6_leave_6 : decode cX6_leave 6 = .ok (.aload_n 0, 1) := by decide +kernel
theorem dX6_leave_7 : decode cX6_leave 7 = .ok (.iload_n 1, 1) := by decide +kernel
theorem dX6_leave_8 : decode cX6_leave 8 = .ok (.iload_n 2, 1) := by decide +kernel
theorem dX6_leave_9 : decode cX6_leave 9 = .ok (.invokevirtual 154, 3) := by decide +kernel
theorem dX6_leave_12 : decode cX6_leave 12 = .ok (.iconst 1, 1) := by decide +kernel
theorem dX6_leave_13 : decode cX6_leave 13 = .ok (.iadd, 1) := by decide +kernel
theorem dX6_leave_14 : decode cX6_leave 14 = .ok (.imul, 1) := by decide +kernel
theorem dX6_leave_15 : decode cX6_leave 15 = .ok (.invokevirtual 181, 3) := by decide +kernel
theorem dX6_leave_18 : decode cX6_leave 18 = .ok (.aload_n 0, 1) := by decide +kernel
theorem dX6_leave_19 : decode cX6_leave 19 = .ok (.iload_n 1, 1) := by decide +kernel
theorem dX6_leave_20 : decode cX6_leave 20 = .ok (.iload_n 2, 1) := by decide +kernel
theorem dX6_leave_21 : decode cX6_leave 21 = .ok (.invokevirtual 208, 3) := by decide +kernel
theorem dX6_leave_24 : decode cX6_leave 24 = .ok (.aload_n 0, 1) := by decide +kernel
theorem dX6_leave_25 : decode cX6_leave 25 = .ok (.iconst 0, 1) := by decide +kernel
theorem dX6_leave_26 : decode cX6_leave 26 = .ok (.putfield 171, 3) := by decide +kernel
theorem dX6_leave_29 : decode cX6_leave 29 = .ok (.aload_n 0, 1) := by decide +kernel
theorem dX6_leave_30 : decode cX6_leave 30 = .ok (.getfield 28, 3) := by decide +kernel
theorem dX6_leave_33 : decode cX6_leave 33 = .ok (.iload_n 1, 1) := by decide +kernel
theorem dX6_leave_34 : decode cX6_leave 34 = .ok (.iaload, 1) := by decide +kernel
theorem dX6_leave_35 : decode cX6_leave 35 = .ok (.ifCond .le 53, 3) := by decide +kernel
theorem dX6_leave_38 : decode cX6_leave 38 = .ok (.aload_n 0, 1) := by decide +kernel
theorem dX6_leave_39 : decode cX6_leave 39 = .ok (.iload_n 1, 1) := by decide +kernel
theorem dX6_leave_40 : decode cX6_leave 40 = .ok (.invokevirtual 158, 3) := by decide +kernel
theorem dX6_leave_43 : decode cX6_leave 43 = .ok (.aload_n 0, 1) := by decide +kernel
theorem dX6_leave_44 : decode cX6_leave 44 = .ok (.getfield 28, 3) := by decide +kernel
theorem dX6_leave_47 : decode cX6_leave 47 = .ok (.iload_n 1, 1) := by decide +kernel
theorem dX6_leave_48 : decode cX6_leave 48 = .ok (.iaload, 1) := by decide +kernel
theorem dX6_leave_49 : decode cX6_leave 49 = .ok (.imul, 1) := by decide +kernel
theorem dX6_leave_50 : decode cX6_leave 50 = .ok (.aload_n 0, 1) := by decide +kernel
theorem dX6_leave_51 : decode cX6_leave 51 = .ok (.iload_n 1, 1) := by decide +kernel
theorem dX6_leave_52 : decode cX6_leave 52 = .ok (.invokevirtual 161, 3) := by decide +kernel
theorem dX6_leave_55 : decode cX6_leave 55 = .ok (.aload_n 0, 1) := by decide +kernel
theorem dX6_leave_56 : decode cX6_leave 56 = .ok (.getfield 31, 3) := by decide +kernel
theorem dX6_leave_59 : decode cX6_leave 59 = .ok (.iload_n 1, 1) := by decide +kernel
theorem dX6_leave_60 : decode cX6_leave 60 = .ok (.iaload, 1) := by decide +kernel
theorem dX6_leave_61 : decode cX6_leave 61 = .ok (.imul, 1) := by decide +kernel
theorem dX6_leave_62 : decode cX6_leave 62 = .ok (.if_icmp .ge 26, 3) := by decide +kernel
theorem dX6_leave_65 : decode cX6_leave 65 = .ok (.aload_n 0, 1) := by decide +kernel
theorem dX6_leave_66 : decode cX6_leave 66 = .ok (.iload_n 1, 1) := by decide +kernel
theorem dX6_leave_67 : decode cX6_leave 67 = .ok (.aload_n 0, 1) := by decide +kernel
theorem dX6_leave_68 : decode cX6_leave 68 = .ok (.getfield 25, 3) := by decide +kernel
theorem dX6_leave_71 : decode cX6_leave 71 = .ok (.iload_n 1, 1) := by decide +kernel
theorem dX6_leave_72 : decode cX6_leave 72 = .ok (.iaload, 1) := by decide +kernel
theorem dX6_leave_73 : decode cX6_leave 73 = .ok (.invokevirtual 202, 3) := by decide +kernel
theorem dX6_leave_76 : decode cX6_leave 76 = .ok (.aload_n 0, 1) := by decide +kernel
theorem dX6_leave_77 : decode cX6_leave 77 = .ok (.getfield 31, 3) := by decide +kernel
theorem dX6_leave_80 : decode cX6_leave 80 = .ok (.iload_n 1, 1) := by decide +kernel
theorem dX6_leave_81 : decode cX6_leave 81 = .ok (.aload_n 0, 1) := by decide +kernel
theorem dX6_leave_82 : decode cX6_leave 82 = .ok (.getfield 28, 3) := by decide +kernel
theorem dX6_leave_85 : decode cX6_leave 85 = .ok (.iload_n 1, 1) := by decide +kernel
theorem dX6_leave_86 : decode cX6_leave 86 = .ok (.iaload, 1) := by decide +kernel
theorem dX6_leave_87 : decode cX6_leave 87 = .ok (.iastore, 1) := by decide +kernel
theorem dX6_leave_88 : decode cX6_leave 88 = .ok (.aload_n 0, 1) := by decide +kernel
theorem dX6_leave_89 : decode cX6_leave 89 = .ok (.getfield 31, 3) := by decide +kernel
theorem dX6_leave_92 : decode cX6_leave 92 = .ok (.iload_n 1, 1) := by decide +kernel
theorem dX6_leave_93 : decode cX6_leave 93 = .ok (.aload_n 0, 1) := by decide +kernel
theorem dX6_leave_94 : decode cX6_leave 94 = .ok (.getfield 28, 3) := by decide +kernel
theorem dX6_leave_97 : decode cX6_leave 97 = .ok (.iload_n 1, 1) := by decide +kernel
theorem dX6_leave_98 : decode cX6_leave 98 = .ok (.iaload, 1) := by decide +kernel
theorem dX6_leave_99 : decode cX6_leave 99 = .ok (.ifCond .ne 7, 3) := by decide +kernel
theorem dX6_leave_102 : decode cX6_leave 102 = .ok (.iconst 0, 1) := by decide +kernel
theorem dX6_leave_103 : decode cX6_leave 103 = .ok (.goto 9, 3) := by decide +kernel
theorem dX6_leave_106 : decode cX6_leave 106 = .ok (.aload_n 0, 1) := by decide +kernel
theorem dX6_leave_107 : decode cX6_leave 107 = .ok (.getfield 31, 3) := by decide +kernel
theorem dX6_leave_110 : decode cX6_leave 110 = .ok (.iload_n 1, 1) := by decide +kernel
theorem dX6_leave_111 : decode cX6_leave 111 = .ok (.iaload, 1) := by decide +kernel
theorem dX6_leave_112 : decode cX6_leave 112 = .ok (.iastore, 1) := by decide +kernel
theorem dX6_leave_113 : decode cX6_leave 113 = .ok (.return_, 1) := by decide +kernel
theorem dX6_write_0 : decode cX6_write 0 = .ok (.aload_n 0, 1) := by decide +kernel
theorem dX6_write_1 : decode cX6_write 1 = .ok (.getfield 211, 3) := by decide +kernel
theorem dX6_write_4 : decode cX6_write 4 = .ok (.bipush 60, 2) := by decide +kernel
theorem dX6_write_6 : decode cX6_write 6 = .ok (.if_icmp .ge 23, 3) := by decide +kernel
theorem dX6_write_9 : decode cX6_write 9 = .ok (.aload_n 0, 1) := by decide +kernel
theorem dX6_write_10 : decode cX6_write 10 = .ok (.getfield 46, 3) := by decide +kernel
theorem dX6_write_13 : decode cX6_write 13 = .ok (.aload_n 0, 1) := by decide +kernel
theorem dX6_write_14 : decode cX6_write 14 = .ok (.getfield 211, 3) := by decide +kernel
theorem dX6_write_17 : decode cX6_write 17 = .ok (.iload_n 1, 1) := by decide +kernel
theorem dX6_write_18 : decode cX6_write 18 = .ok (.iastore, 1) := by decide +kernel
theorem dX6_write_19 : decode cX6_write 19 = .ok (.aload_n 0, 1) := by decide +kernel
theorem dX6_write_20 : decode cX6_write 20 = .ok (.dup, 1) := by decide +kernel
theorem dX6_write_21 : decode cX6_write 21 = .ok (.getfield 211, 3) := by decide +kernel
theorem dX6_write_24 : decode cX6_write 24 = .ok (.iconst 1, 1) := by decide +kernel
theorem dX6_write_25 : decode cX6_write 25 = .ok (.iadd, 1) := by decide +kernel
theorem dX6_write_26 : decode cX6_write 26 = .ok (.putfield 211, 3) := by decide +kernel
theorem dX6_write_29 : decode cX6_write 29 = .ok (.return_, 1) := by decide +kernel
theorem dX6_lacks_0 : decode cX6_lacks 0 = .ok (.aload_n 0, 1) := by decide +kernel
theorem dX6_lacks_1 : decode cX6_lacks 1 = .ok (.getfield 144, 3) := by decide +kernel
theorem dX6_lacks_4 : decode cX6_lacks 4 = .ok (.ifCond .ne 7, 3) := by decide +kernel
theorem dX6_lacks_7 : decode cX6_lacks 7 = .ok (.iconst 1, 1) := by decide +kernel
theorem dX6_lacks_8 : decode cX6_lacks 8 = .ok (.goto 4, 3) := by decide +kernel
theorem dX6_lacks_11 : decode cX6_lacks 11 = .ok (.iconst 0, 1) := by decide +kernel
theorem dX6_lacks_12 : decode cX6_lacks 12 = .ok (.ireturn, 1) := by decide +kernel
set_option maxRecDepth 20000 in
theorem ggX6_shelf_X6_faultOf : GoodIn wsX6_shelf wsX6_faultOf := goodIn_r _ [16, 1, 17, 18, 19, 15, 20, 2, 21, 22, 23, 24, 25, 26, 27, 28, 29, 30, 31, 32, 33, 34, 35, 36, 37, 38, 39, 40, 41, 42, 43, 44, 45, 46, 47, 134, 135, 136, 137, 138, 139, 140, 141, 142, 143, 144, 145, 146, 147, 148, 149, 150, 151, 152, 153, 154, 155, 156, 157, 158, 159, 160, 161, 162, 163, 164, 165, 166, 167, 168, 169, 170, 171, 172, 173, 174, 175, 176, 177, 178, 179, 180, 181, 182, 183] (by decide +kernel) (by decide +kernel)
set_option maxRecDepth 20000 in
theorem gX6_shelf_X6_faultOf : GoodIn wsX6_shelf (wsV RX6 134 RX6 yX6_faultOf wsX6_faultOf) := goodIn_app (goodIn_of _ (by decide +kernel)) ggX6_shelf_X6_faultOf
set_option maxRecDepth 20000 in
theorem ggX6_shelf_X6_empty : GoodIn wsX6_shelf wsX6_empty := goodIn_r _ [51, 52, 53, 11, 54, 55, 56, 134, 135, 136, 137, 138, 139, 140, 141, 142, 143, 144, 145, 146, 147, 148, 149, 150, 151, 152, 153, 154, 155, 156, 157, 158, 159, 160, 161, 162, 163, 164, 165, 166, 167, 168, 169, 170, 171, 172, 173, 174, 175, 176, 177, 178, 179, 180, 181, 182, 183] (by decide +kernel) (by decide +kernel)
set_option maxRecDepth 20000 in
theorem gX6_shelf_X6_empty : GoodIn wsX6_shelf (wsV RX6 214 RX6 yX6_empty wsX6_empty) := goodIn_app (goodIn_of _ (by decide +kernel)) ggX6_shelf_X6_empty
set_option maxRecDepth 20000 in
theorem ggX6_shelf_X6_kindBy : GoodIn wsX6_shelf wsX6_kindBy := goodIn_r _ [39] (by decide +kernel) (by decide +kernel)
set_option maxRecDepth 20000 in
theorem gX6_shelf_X6_kindBy : GoodIn wsX6_shelf (va_wsS RX6 107 yX6_kindBy wsX6_kindBy) := goodIn_app (goodIn_of _ (by decide +kernel)) ggX6_shelf_X6_kindBy
set_option maxRecDepth 20000 in
theorem ggX6_shelf_X6_keyAt : GoodIn wsX6_shelf wsX6_keyAt := goodIn_r _ [47, 2, 134, 135, 136, 137, 138, 139, 140, 141, 142, 143, 144, 145, 146, 147, 148, 149, 150, 151, 152, 153, 154, 155, 156, 157, 158, 159, 160, 161, 162, 163, 164, 165, 166, 167, 168, 169, 170, 171, 172, 173, 174, 175, 176, 177, 178, 179, 180, 181, 182, 183] (by decide +kernel) (by decide +kernel)
set_option maxRecDepth 20000 in
theorem gX6_shelf_X6_keyAt : GoodIn wsX6_shelf (wsV RX6 103 RX6 yX6_keyAt wsX6_keyAt) := goodIn_app (goodIn_of _ (by decide +kernel)) ggX6_shelf_X6_keyAt
set_option maxRecDepth 20000 in
theorem ggX6_shelf_X6_putNew : GoodIn wsX6_shelf wsX6_putNew := goodIn_r _ [60, 61, 62, 63, 64, 65, 15, 66, 67, 5, 11, 68, 69, 70, 71, 72, 53, 73, 74, 52, 54, 75, 76, 77, 78, 79, 80, 81, 82, 83, 84, 85, 86, 6, 7, 87, 88, 89, 90, 91, 92, 93, 94, 4, 95, 96, 97, 98, 99, 3, 100, 101, 102, 103, 104, 105, 106, 107, 108, 109, 110, 111, 112, 113, 114, 115, 116, 117, 118, 119, 120, 55, 56, 121, 122, 123, 124, 125, 126, 127, 128, 129, 130, 131, 132, 8, 133, 134, 135, 136, 137, 138, 139, 140, 141, 142, 143, 144, 145, 146, 147, 148, 149, 150, 151, 152, 153, 154, 155, 156, 157, 158, 159, 160, 161, 162, 163, 164, 165, 166, 167, 168, 169, 170, 171, 172, 173, 174, 175, 176, 177, 178, 179, 180, 181, 182, 183] (by decide +kernel) (by decide +kernel)
set_option maxRecDepth 20000 in
theorem gX6_shelf_X6_putNew : GoodIn wsX6_shelf (wsV RX6 221 RX6 yX6_putNew wsX6_putNew) := goodIn_app (goodIn_of _ (by decide +kernel)) ggX6_shelf_X6_putNew
theorem dX6_shelf_0 : decode cX6_shelf 0 = .ok (.aload_n 0, 1) := by decide +kernel
theorem dX6_shelf_1 : decode cX6_shelf 1 = .ok (.getfield 98, 3) := by decide +kernel
theorem dX6_shelf_4 : decode cX6_shelf 4 = .ok (.iconst 5, 1) := by decide +kernel
theorem dX6_shelf_5 : decode cX6_shelf 5 = .ok (.if_icmp .lt 35, 3) := by decide +kernel
theorem dX6_shelf_8 : decode cX6_shelf 8 = .ok (.aload_n 0, 1) := by decide +kernel
theorem dX6_shelf_9 : decode cX6_shelf 9 = .ok (.invokevirtual 134, 3) := by decide +kernel
theorem dX6_shelf_12 : decode cX6_shelf 12 = .ok (.aload_n 0, 1) := by decide +kernel
theorem dX6_shelf_13 : decode cX6_shelf 13 = .ok (.getfield 98, 3) := by decide +kernel
theorem dX6_shelf_16 : decode cX6_shelf 16 = .ok (.if_icmp .lt 24, 3) := by decide +kernel
theorem dX6_shelf_19 : decode cX6_shelf 19 = .ok (.aload_n 0, 1) := by decide +kernel
theorem dX6_shelf_20 : decode cX6_shelf 20 = .ok (.getfield 98, 3) := by decide +kernel
theorem dX6_shelf_23 : decode cX6_shelf 23 = .ok (.iconst 5, 1) := by decide +kernel
theorem dX6_shelf_24 : decode cX6_shelf 24 = .ok (.if_icmp .le 19, 3) := by decide +kernel
theorem dX6_shelf_27 : decode cX6_shelf 27 = .ok (.aload_n 0, 1) := by decide +kernel
theorem dX6_shelf_28 : decode cX6_shelf 28 = .ok (.getfield 98, 3) := by decide +kernel
theorem dX6_shelf_31 : decode cX6_shelf 31 = .ok (.iconst 5, 1) := by decide +kernel
theorem dX6_shelf_32 : decode cX6_shelf 32 = .ok (.isub, 1) := by decide +kernel
theorem dX6_shelf_33 : decode cX6_shelf 33 = .ok (.bipush 6, 2) := by decide +kernel
theorem dX6_shelf_35 : decode cX6_shelf 35 = .ok (.irem, 1) := by decide +kernel
theorem dX6_shelf_36 : decode cX6_shelf 36 = .ok (.iconst 5, 1) := by decide +kernel
theorem dX6_shelf_37 : decode cX6_shelf 37 = .ok (.if_icmp .eq 6, 3) := by decide +kernel
theorem dX6_shelf_40 : decode cX6_shelf 40 = .ok (.bipush (-103), 2) := by decide +kernel
theorem dX6_shelf_42 : decode cX6_shelf 42 = .ok (.ireturn, 1) := by decide +kernel
theorem dX6_shelf_43 : decode cX6_shelf 43 = .ok (.aload_n 0, 1) := by decide +kernel
theorem dX6_shelf_44 : decode cX6_shelf 44 = .ok (.aload_n 0, 1) := by decide +kernel
theorem dX6_shelf_45 : decode cX6_shelf 45 = .ok (.getfield 7, 3) := by decide +kernel
theorem dX6_shelf_48 : decode cX6_shelf 48 = .ok (.iconst 0, 1) := by decide +kernel
theorem dX6_shelf_49 : decode cX6_shelf 49 = .ok (.iaload, 1) := by decide +kernel
theorem dX6_shelf_50 : decode cX6_shelf 50 = .ok (.bipush 48, 2) := by decide +kernel
theorem dX6_shelf_52 : decode cX6_shelf 52 = .ok (.isub, 1) := by decide +kernel
theorem dX6_shelf_53 : decode cX6_shelf 53 = .ok (.putfield 138, 3) := by decide +kernel
theorem dX6_shelf_56 : decode cX6_shelf 56 = .ok (.aload_n 0, 1) := by decide +kernel
theorem dX6_shelf_57 : decode cX6_shelf 57 = .ok (.aload_n 0, 1) := by decide +kernel
theorem dX6_shelf_58 : decode cX6_shelf 58 = .ok (.getfield 7, 3) := by decide +kernel
theorem dX6_shelf_61 : decode cX6_shelf 61 = .ok (.iconst 1, 1) := by decide +kernel
theorem dX6_shelf_62 : decode cX6_shelf 62 = .ok (.iaload, 1) := by decide +kernel
theorem dX6_shelf_63 : decode cX6_shelf 63 = .ok (.bipush 48, 2) := by decide +kernel
theorem dX6_shelf_65 : decode cX6_shelf 65 = .ok (.isub, 1) := by decide +kernel
theorem dX6_shelf_66 : decode cX6_shelf 66 = .ok (.putfield 144, 3) := by decide +kernel
theorem dX6_shelf_69 : decode cX6_shelf 69 = .ok (.aload_n 0, 1) := by decide +kernel
theorem dX6_shelf_70 : decode cX6_shelf 70 = .ok (.aload_n 0, 1) := by decide +kernel
theorem dX6_shelf_71 : decode cX6_shelf 71 = .ok (.getfield 7, 3) := by decide +kernel
theorem dX6_shelf_74 : decode cX6_shelf 74 = .ok (.iconst 3, 1) := by decide +kernel
theorem dX6_shelf_75 : decode cX6_shelf 75 = .ok (.iaload, 1) := by decide +kernel
theorem dX6_shelf_76 : decode cX6_shelf 76 = .ok (.bipush 48, 2) := by decide +kernel
theorem dX6_shelf_78 : decode cX6_shelf 78 = .ok (.isub, 1) := by decide +kernel
theorem dX6_shelf_79 : decode cX6_shelf 79 = .ok (.putfield 193, 3) := by decide +kernel
theorem dX6_shelf_82 : decode cX6_shelf 82 = .ok (.aload_n 0, 1) := by decide +kernel
theorem dX6_shelf_83 : decode cX6_shelf 83 = .ok (.iconst 0, 1) := by decide +kernel
theorem dX6_shelf_84 : decode cX6_shelf 84 = .ok (.invokevirtual 214, 3) := by decide +kernel
theorem dX6_shelf_87 : decode cX6_shelf 87 = .ok (.aload_n 0, 1) := by decide +kernel
theorem dX6_shelf_88 : decode cX6_shelf 88 = .ok (.iconst 0, 1) := by decide +kernel
theorem dX6_shelf_89 : decode cX6_shelf 89 = .ok (.putfield 184, 3) := by decide +kernel
theorem dX6_shelf_92 : decode cX6_shelf 92 = .ok (.aload_n 0, 1) := by decide +kernel
theorem dX6_shelf_93 : decode cX6_shelf 93 = .ok (.iconst 0, 1) := by decide +kernel
theorem dX6_shelf_94 : decode cX6_shelf 94 = .ok (.putfield 187, 3) := by decide +kernel
theorem dX6_shelf_97 : decode cX6_shelf 97 = .ok (.aload_n 0, 1) := by decide +kernel
theorem dX6_shelf_98 : decode cX6_shelf 98 = .ok (.iconst 0, 1) := by decide +kernel
theorem dX6_shelf_99 : decode cX6_shelf 99 = .ok (.putfield 211, 3) := by decide +kernel
theorem dX6_shelf_102 : decode cX6_shelf 102 = .ok (.aload_n 0, 1) := by decide +kernel
theorem dX6_shelf_103 : decode cX6_shelf 103 = .ok (.iconst 0, 1) := by decide +kernel
theorem dX6_shelf_104 : decode cX6_shelf 104 = .ok (.putfield 218, 3) := by decide +kernel
theorem dX6_shelf_107 : decode cX6_shelf 107 = .ok (.iconst 5, 1) := by decide +kernel
theorem dX6_shelf_108 : decode cX6_shelf 108 = .ok (.istore_n 1, 1) := by decide +kernel
theorem dX6_shelf_109 : decode cX6_shelf 109 = .ok (.iload_n 1, 1) := by decide +kernel
theorem dX6_shelf_110 : decode cX6_shelf 110 = .ok (.aload_n 0, 1) := by decide +kernel
theorem dX6_shelf_111 : decode cX6_shelf 111 = .ok (.getfield 98, 3) := by decide +kernel
theorem dX6_shelf_114 : decode cX6_shelf 114 = .ok (.if_icmp .ge 40, 3) := by decide +kernel
theorem dX6_shelf_117 : decode cX6_shelf 117 = .ok (.aload_n 0, 1) := by decide +kernel
theorem dX6_shelf_118 : decode cX6_shelf 118 = .ok (.aload_n 0, 1) := by decide +kernel
theorem dX6_shelf_119 : decode cX6_shelf 119 = .ok (.getfield 7, 3) := by decide +kernel
theorem dX6_shelf_122 : decode cX6_shelf 122 = .ok (.iload_n 1, 1) := by decide +kernel
theorem dX6_shelf_123 : decode cX6_shelf 123 = .ok (.iaload, 1) := by decide +kernel
theorem dX6_shelf_124 : decode cX6_shelf 124 = .ok (.invokestatic 107, 3) := by decide +kernel
theorem dX6_shelf_127 : decode cX6_shelf 127 = .ok (.aload_n 0, 1) := by decide +kernel
theorem dX6_shelf_128 : decode cX6_shelf 128 = .ok (.iload_n 1, 1) := by decide +kernel
theorem dX6_shelf_129 : decode cX6_shelf 129 = .ok (.iconst 1, 1) := by decide +kernel
theorem dX6_shelf_130 : decode cX6_shelf 130 = .ok (.iadd, 1) := by decide +kernel
theorem dX6_shelf_131 : decode cX6_shelf 131 = .ok (.invokevirtual 103, 3) := by decide +kernel
theorem dX6_shelf_134 : decode cX6_shelf 134 = .ok (.aload_n 0, 1) := by decide +kernel
theorem dX6_shelf_135 : decode cX6_shelf 135 = .ok (.getfield 7, 3) := by decide +kernel
theorem dX6_shelf_138 : decode cX6_shelf 138 = .ok (.iload_n 1, 1) := by decide +kernel
theorem dX6_shelf_139 : decode cX6_shelf 139 = .ok (.iconst 4, 1) := by decide +kernel
theorem dX6_shelf_140 : decode cX6_shelf 140 = .ok (.iadd, 1) := by decide +kernel
theorem dX6_shelf_141 : decode cX6_shelf 141 = .ok (.iaload, 1) := by decide +kernel
theorem dX6_shelf_142 : decode cX6_shelf 142 = .ok (.bipush 48, 2) := by decide +kernel
theorem dX6_shelf_144 : decode cX6_shelf 144 = .ok (.isub, 1) := by decide +kernel
theorem dX6_shelf_145 : decode cX6_shelf 145 = .ok (.invokevirtual 221, 3) := by decide +kernel
theorem dX6_shelf_148 : decode cX6_shelf 148 = .ok (.iinc 1 6, 3) := by decide +kernel
theorem dX6_shelf_151 : decode cX6_shelf 151 = .ok (.goto (-42), 3) := by decide +kernel
theorem dX6_shelf_154 : decode cX6_shelf 154 = .ok (.aload_n 0, 1) := by decide +kernel
theorem dX6_shelf_155 : decode cX6_shelf 155 = .ok (.dup, 1) := by decide +kernel
theorem dX6_shelf_156 : decode cX6_shelf 156 = .ok (.getfield 224, 3) := by decide +kernel
theorem dX6_shelf_159 : decode cX6_shelf 159 = .ok (.iconst 1, 1) := by decide +kernel
theorem dX6_shelf_160 : decode cX6_shelf 160 = .ok (.iadd, 1) := by decide +kernel
theorem dX6_shelf_161 : decode cX6_shelf 161 = .ok (.putfield 224, 3) := by decide +kernel
theorem dX6_shelf_164 : decode cX6_shelf 164 = .ok (.aload_n 0, 1) := by decide +kernel
theorem dX6_shelf_165 : decode cX6_shelf 165 = .ok (.iconst 0, 1) := by decide +kernel
theorem dX6_shelf_166 : decode cX6_shelf 166 = .ok (.putfield 98, 3) := by decide +kernel
theorem dX6_shelf_169 : decode cX6_shelf 169 = .ok (.aload_n 0, 1) := by decide +kernel
theorem dX6_shelf_170 : decode cX6_shelf 170 = .ok (.getfield 28, 3) := by decide +kernel
theorem dX6_shelf_173 : decode cX6_shelf 173 = .ok (.iconst 0, 1) := by decide +kernel
theorem dX6_shelf_174 : decode cX6_shelf 174 = .ok (.iaload, 1) := by decide +kernel
theorem dX6_shelf_175 : decode cX6_shelf 175 = .ok (.ireturn, 1) := by decide +kernel
set_option maxRecDepth 20000 in
theorem ggX6_putNew_X6_enter : GoodIn wsX6_putNew wsX6_enter := goodIn_r _ [7, 8, 9, 10, 11, 12, 13, 14, 6, 15, 16, 17, 18, 19, 20, 21, 22, 23, 24, 25, 26, 27, 28, 29, 30, 31, 32, 33, 34, 35, 36, 37, 38, 39, 40, 41, 42, 43, 44, 45, 46, 47, 48, 49, 50, 51, 52, 53, 54, 55, 56, 57, 58, 59, 60, 61, 62, 63, 64, 65, 66, 67, 68, 69, 70, 71, 72, 73, 74, 75, 76, 77, 78, 79, 80, 87, 88, 89, 90, 91, 92, 93, 94, 95, 96, 97, 98, 99, 100, 101, 102, 103, 104, 105, 106, 107, 108, 109, 110, 111, 112, 113, 114, 115, 116, 117, 118, 119, 120, 121, 122, 123, 124, 125, 126, 127, 128, 129, 130, 131, 132, 133, 134, 135, 136] (by decide +kernel) (by decide +kernel)
set_option maxRecDepth 20000 in
theorem gX6_putNew_X6_enter : GoodIn wsX6_putNew (wsV RX6 227 RX6 yX6_enter wsX6_enter) := goodIn_app (goodIn_of _ (by decide +kernel)) ggX6_putNew_X6_enter
set_option maxRecDepth 20000 in
theorem ggX6_putNew_X6_write : GoodIn wsX6_putNew wsX6_write := goodIn_r _ [84, 85, 86, 87, 88, 89, 90, 91, 92, 93, 94, 95, 96, 97, 98, 99, 100, 101, 102, 103, 104, 105, 106, 107, 108, 109, 110, 111, 112, 113, 114, 115, 116, 117, 118, 119, 120, 121, 122, 123, 124, 125, 126, 127, 128, 129, 130, 131, 132, 133, 134, 135, 136] (by decide +kernel) (by decide +kernel)
set_option maxRecDepth 20000 in
theorem gX6_putNew_X6_write : GoodIn wsX6_putNew (wsV RX6 230 RX6 yX6_write wsX6_write) := goodIn_app (goodIn_of _ (by decide +kernel)) ggX6_putNew_X6_write
theorem dX6_putNew_0 : decode cX6_putNew 0 = .ok (.aload_n 0, 1) := by decide +kernel
theorem dX6_putNew_1 : decode cX6_putNew 1 = .ok (.getfield 40, 3) := by decide +kernel
theorem dX6_putNew_4 : decode cX6_putNew 4 = .ok (.iload_n 2, 1) := by decide +kernel
theorem dX6_putNew_5 : decode cX6_putNew 5 = .ok (.iload_n 1, 1) := by decide +kernel
theorem dX6_putNew_6 : decode cX6_putNew 6 = .ok (.iastore, 1) := by decide +kernel
theorem dX6_putNew_7 : decode cX6_putNew 7 = .ok (.aload_n 0, 1) := by decide +kernel
theorem dX6_putNew_8 : decode cX6_putNew 8 = .ok (.getfield 43, 3) := by decide +kernel
theorem dX6_putNew_11 : decode cX6_putNew 11 = .ok (.iload_n 2, 1) := by decide +kernel
theorem dX6_putNew_12 : decode cX6_putNew 12 = .ok (.iload_n 3, 1) := by decide +kernel
theorem dX6_putNew_13 : decode cX6_putNew 13 = .ok (.iastore, 1) := by decide +kernel
theorem dX6_putNew_14 : decode cX6_putNew 14 = .ok (.aload_n 0, 1) := by decide +kernel
theorem dX6_putNew_15 : decode cX6_putNew 15 = .ok (.iconst 0, 1) := by decide +kernel
theorem dX6_putNew_16 : decode cX6_putNew 16 = .ok (.iload_n 2, 1) := by decide +kernel
theorem dX6_putNew_17 : decode cX6_putNew 17 = .ok (.invokevirtual 227, 3) := by decide +kernel
theorem dX6_putNew_20 : decode cX6_putNew 20 = .ok (.aload_n 0, 1) := by decide +kernel
theorem dX6_putNew_21 : decode cX6_putNew 21 = .ok (.iload_n 2, 1) := by decide +kernel
theorem dX6_putNew_22 : decode cX6_putNew 22 = .ok (.invokevirtual 230, 3) := by decide +kernel
theorem dX6_putNew_25 : decode cX6_putNew 25 = .ok (.return_, 1) := by decide +kernel
set_option maxRecDepth 20000 in
theorem ggX6_takeOut_X6_leave : GoodIn wsX6_takeOut wsX6_leave := goodIn_r _ [5, 6, 7, 8, 9, 10, 11, 12, 13, 4, 14, 15, 16, 17, 18, 19, 20, 21, 22, 23, 24, 25, 26, 27, 28, 29, 30, 31, 32, 33, 34, 35, 36, 37, 38, 39, 40, 41, 42, 43, 44, 45, 46, 47, 48, 49, 50, 51, 52, 53, 54, 55, 56, 57, 58, 59, 60, 61, 62, 63, 64, 65, 66, 67, 68, 69, 70, 71, 72, 73, 74, 81, 82, 83, 84, 85, 86, 87, 88, 89, 90, 91, 92, 93, 94, 95, 96, 97, 98, 99, 100, 101, 102, 103, 104, 105, 106, 107, 108, 109, 110, 111, 112, 113, 114, 115, 116, 117, 118, 119, 120, 121, 122, 123, 124, 125, 126, 127, 128, 129, 130] (by decide +kernel) (by decide +kernel)
set_option maxRecDepth 20000 in
theorem gX6_takeOut_X6_leave : GoodIn wsX6_takeOut (wsV RX6 233 RX6 yX6_leave wsX6_leave) := goodIn_app (goodIn_of _ (by decide +kernel)) ggX6_takeOut_X6_leave
set_option maxRecDepth 20000 in
theorem ggX6_takeOut_X6_write : GoodIn wsX6_takeOut wsX6_write := goodIn_r _ [78, 79, 80, 81, 82, 83, 84, 85, 86, 87, 88, 89, 90, 91, 92, 93, 94, 95, 96, 97, 98, 99, 100, 101, 102, 103, 104, 105, 106, 107, 108, 109, 110, 111, 112, 113, 114, 115, 116, 117, 118, 119, 120, 121, 122, 123, 124, 125, 126, 127, 128, 129, 130] (by decide +kernel) (by decide +kernel)
set_option maxRecDepth 20000 in
theorem gX6_takeOut_X6_write : GoodIn wsX6_takeOut (wsV RX6 230 RX6 yX6_write wsX6_write) := goodIn_app (goodIn_of _ (by decide +kernel)) ggX6_takeOut_X6_write
theorem dX6_takeOut_0 : decode cX6_takeOut 0 = .ok (.aload_n 0, 1) := by decide +kernel
theorem dX6_takeOut_1 : decode cX6_takeOut 1 = .ok (.iconst 0, 1) := by decide +kernel
theorem dX6_takeOut_2 : decode cX6_takeOut 2 = .ok (.iload_n 1, 1) := by decide +kernel
theorem dX6_takeOut_3 : decode cX6_takeOut 3 = .ok (.invokevirtual 233, 3) := by decide +kernel
theorem dX6_takeOut_6 : decode cX6_takeOut 6 = .ok (.aload_n 0, 1) := by decide +kernel
theorem dX6_takeOut_7 : decode cX6_takeOut 7 = .ok (.iconst (-1), 1) := by decide +kernel
theorem dX6_takeOut_8 : decode cX6_takeOut 8 = .ok (.iload_n 1, 1) := by decide +kernel
theorem dX6_takeOut_9 : decode cX6_takeOut 9 = .ok (.isub, 1) := by decide +kernel
theorem dX6_takeOut_10 : decode cX6_takeOut 10 = .ok (.invokevirtual 230, 3) := by decide +kernel
theorem dX6_takeOut_13 : decode cX6_takeOut 13 = .ok (.return_, 1) := by decide +kernel
set_option maxRecDepth 20000 in
theorem ggX6_isThere_X6_lacks : GoodIn wsX6_isThere wsX6_lacks := goodIn_r _ [7, 8, 12, 13, 14, 15, 16, 17, 18, 19, 20, 21, 22, 23, 24, 25, 26, 27, 28, 29, 30, 31, 32, 33, 34, 35, 36, 37, 38, 39, 40, 41, 42, 43, 44, 45, 46, 47, 48, 49, 50, 51, 52, 53, 54, 55, 56, 57, 58, 59, 60, 61] (by decide +kernel) (by decide +kernel)
set_option maxRecDepth 20000 in
theorem gX6_isThere_X6_lacks : GoodIn wsX6_isThere (wsV RX6 236 RX6 yX6_lacks wsX6_lacks) := goodIn_app (goodIn_of _ (by decide +kernel)) ggX6_isThere_X6_lacks
set_option maxRecDepth 20000 in
theorem ggX6_isThere_X6_in : GoodIn wsX6_isThere wsX6_in := goodIn_r _ [11] (by decide +kernel) (by decide +kernel)
set_option maxRecDepth 20000 in
theorem gX6_isThere_X6_in : GoodIn wsX6_isThere (va_wsS RX6 94 yX6_in wsX6_in) := goodIn_app (goodIn_of _ (by decide +kernel)) ggX6_isThere_X6_in
theorem dX6_isThere_0 : decode cX6_isThere 0 = .ok (.aload_n 0, 1) := by decide +kernel
theorem dX6_isThere_1 : decode cX6_isThere 1 = .ok (.invokevirtual 236, 3) := by decide +kernel
theorem dX6_isThere_4 : decode cX6_isThere 4 = .ok (.ifCond .ne 29, 3) := by decide +kernel
theorem dX6_isThere_7 : decode cX6_isThere 7 = .ok (.iload_n 1, 1) := by decide +kernel
theorem dX6_isThere_8 : decode cX6_isThere 8 = .ok (.i2l, 1) := by decide +kernel
theorem dX6_isThere_9 : decode cX6_isThere 9 = .ok (.lconst 0, 1) := by decide +kernel
theorem dX6_isThere_10 : decode cX6_isThere 10 = .ok (.ldc2_w 240, 3) := by decide +kernel
theorem dX6_isThere_13 : decode cX6_isThere 13 = .ok (.invokestatic 94, 3) := by decide +kernel
theorem dX6_isThere_16 : decode cX6_isThere 16 = .ok (.ifCond .eq 17, 3) := by decide +kernel
theorem dX6_isThere_19 : decode cX6_isThere 19 = .ok (.aload_n 0, 1) := by decide +kernel
theorem dX6_isThere_20 : decode cX6_isThere 20 = .ok (.getfield 22, 3) := by decide +kernel
theorem dX6_isThere_23 : decode cX6_isThere 23 = .ok (.iload_n 1, 1) := by decide +kernel
theorem dX6_isThere_24 : decode cX6_isThere 24 = .ok (.iaload, 1) := by decide +kernel
theorem dX6_isThere_25 : decode cX6_isThere 25 = .ok (.iconst 1, 1) := by decide +kernel
theorem dX6_isThere_26 : decode cX6_isThere 26 = .ok (.if_icmp .ne 7, 3) := by decide +kernel
theorem dX6_isThere_29 : decode cX6_isThere 29 = .ok (.iconst 1, 1) := by decide +kernel
theorem dX6_isThere_30 : decode cX6_isThere 30 = .ok (.goto 4, 3) := by decide +kernel
theorem dX6_isThere_33 : decode cX6_isThere 33 = .ok (.iconst 0, 1) := by decide +kernel
theorem dX6_isThere_34 : decode cX6_isThere 34 = .ok (.ireturn, 1) := by decide +kernel
theorem dX6_lessMany_0 : decode cX6_lessMany 0 = .ok (.iconst 0, 1) := by decide +kernel
theorem dX6_lessMany_1 : decode cX6_lessMany 1 = .ok (.istore_n 2, 1) := by decide +kernel
theorem dX6_lessMany_2 : decode cX6_lessMany 2 = .ok (.iconst 0, 1) := by decide +kernel
theorem dX6_lessMany_3 : decode cX6_lessMany 3 = .ok (.istore_n 3, 1) := by decide +kernel
theorem dX6_lessMany_4 : decode cX6_lessMany 4 = .ok (.iload_n 3, 1) := by decide +kernel
theorem dX6_lessMany_5 : decode cX6_lessMany 5 = .ok (.iload_n 1, 1) := by decide +kernel
theorem dX6_lessMany_6 : decode cX6_lessMany 6 = .ok (.if_icmp .ge 18, 3) := by decide +kernel
theorem dX6_lessMany_9 : decode cX6_lessMany 9 = .ok (.iload_n 2, 1) := by decide +kernel
theorem dX6_lessMany_10 : decode cX6_lessMany 10 = .ok (.aload_n 0, 1) := by decide +kernel
theorem dX6_lessMany_11 : decode cX6_lessMany 11 = .ok (.getfield 22, 3) := by decide +kernel
theorem dX6_lessMany_14 : decode cX6_lessMany 14 = .ok (.iload_n 3, 1) := by decide +kernel
theorem dX6_lessMany_15 : decode cX6_lessMany 15 = .ok (.iaload, 1) := by decide +kernel
theorem dX6_lessMany_16 : decode cX6_lessMany 16 = .ok (.iadd, 1) := by decide +kernel
theorem dX6_lessMany_17 : decode cX6_lessMany 17 = .ok (.istore_n 2, 1) := by decide +kernel
theorem dX6_lessMany_18 : decode cX6_lessMany 18 = .ok (.iinc 3 1, 3) := by decide +kernel
theorem dX6_lessMany_21 : decode cX6_lessMany 21 = .ok (.goto (-17), 3) := by decide +kernel
theorem dX6_lessMany_24 : decode cX6_lessMany 24 = .ok (.iload_n 2, 1) := by decide +kernel
theorem dX6_lessMany_25 : decode cX6_lessMany 25 = .ok (.ireturn, 1) := by decide +kernel
set_option maxRecDepth 20000 in
theorem ggX6_tellEntry_X6_depth : GoodIn wsX6_tellEntry wsX6_depth := goodIn_r _ [10, 5, 24, 25, 26, 27, 28, 29, 30, 31, 32, 33, 34, 35, 36, 37, 38, 39, 40, 41, 42, 43, 44, 45, 46, 47, 48, 49, 50, 51, 52, 53, 54, 55, 56, 57, 58, 59, 60, 61, 62, 63, 64, 65, 66, 67, 68, 69, 70, 71, 72, 73] (by decide +kernel) (by decide +kernel)
set_option maxRecDepth 20000 in
theorem gX6_tellEntry_X6_depth : GoodIn wsX6_tellEntry (wsV RX6 154 RX6 yX6_depth wsX6_depth) := goodIn_app (goodIn_of _ (by decide +kernel)) ggX6_tellEntry_X6_depth
set_option maxRecDepth 20000 in
theorem ggX6_tellEntry_X6_size : GoodIn wsX6_tellEntry wsX6_size := goodIn_r _ [14, 15, 16, 17, 18, 9, 19, 5, 24, 25, 26, 27, 28, 29, 30, 31, 32, 33, 34, 35, 36, 37, 38, 39, 40, 41, 42, 43, 44, 45, 46, 47, 48, 49, 50, 51, 52, 53, 54, 55, 56, 57, 58, 59, 60, 61, 62, 63, 64, 65, 66, 67, 68, 69, 70, 71, 72, 73] (by decide +kernel) (by decide +kernel)
set_option maxRecDepth 20000 in
theorem gX6_tellEntry_X6_size : GoodIn wsX6_tellEntry (wsV RX6 168 RX6 yX6_size wsX6_size) := goodIn_app (goodIn_of _ (by decide +kernel)) ggX6_tellEntry_X6_size
set_option maxRecDepth 20000 in
theorem ggX6_tellEntry_X6_lessMany : GoodIn wsX6_tellEntry wsX6_lessMany := goodIn_r _ [23, 15, 24, 25, 26, 27, 28, 29, 30, 31, 32, 33, 34, 35, 36, 37, 38, 39, 40, 41, 42, 43, 44, 45, 46, 47, 48, 49, 50, 51, 52, 53, 54, 55, 56, 57, 58, 59, 60, 61, 62, 63, 64, 65, 66, 67, 68, 69, 70, 71, 72, 73] (by decide +kernel) (by decide +kernel)
set_option maxRecDepth 20000 in
theorem gX6_tellEntry_X6_lessMany : GoodIn wsX6_tellEntry (wsV RX6 242 RX6 yX6_lessMany wsX6_lessMany) := goodIn_app (goodIn_of _ (by decide +kernel)) ggX6_tellEntry_X6_lessMany
theorem dX6_tellEntry_0 : decode cX6_tellEntry 0 = .ok (.iload_n 2, 1) := by decide +kernel
theorem dX6_tellEntry_1 : decode cX6_tellEntry 1 = .ok (.tableswitch 102 0 7 #[47, 54, 61, 68, 75, 82, 89, 96], 47) := by decide +kernel
theorem dX6_tellEntry_48 : decode cX6_tellEntry 48 = .ok (.aload_n 0, 1) := by decide +kernel
theorem dX6_tellEntry_49 : decode cX6_tellEntry 49 = .ok (.getfield 40, 3) := by decide +kernel
theorem dX6_tellEntry_52 : decode cX6_tellEntry 52 = .ok (.iload_n 1, 1) := by decide +kernel
theorem dX6_tellEntry_53 : decode cX6_tellEntry 53 = .ok (.iaload, 1) := by decide +kernel
theorem dX6_tellEntry_54 : decode cX6_tellEntry 54 = .ok (.ireturn, 1) := by decide +kernel
theorem dX6_tellEntry_55 : decode cX6_tellEntry 55 = .ok (.aload_n 0, 1) := by decide +kernel
theorem dX6_tellEntry_56 : decode cX6_tellEntry 56 = .ok (.getfield 43, 3) := by decide +kernel
theorem dX6_tellEntry_59 : decode cX6_tellEntry 59 = .ok (.iload_n 1, 1) := by decide +kernel
theorem dX6_tellEntry_60 : decode cX6_tellEntry 60 = .ok (.iaload, 1) := by decide +kernel
theorem dX6_tellEntry_61 : decode cX6_tellEntry 61 = .ok (.ireturn, 1) := by decide +kernel
theorem dX6_tellEntry_62 : decode cX6_tellEntry 62 = .ok (.aload_n 0, 1) := by decide +kernel
theorem dX6_tellEntry_63 : decode cX6_tellEntry 63 = .ok (.iconst 0, 1) := by decide +kernel
theorem dX6_tellEntry_64 : decode cX6_tellEntry 64 = .ok (.iload_n 1, 1) := by decide +kernel
theorem dX6_tellEntry_65 : decode cX6_tellEntry 65 = .ok (.invokevirtual 154, 3) := by decide +kernel
theorem dX6_tellEntry_68 : decode cX6_tellEntry 68 = .ok (.ireturn, 1) := by decide +kernel
theorem dX6_tellEntry_69 : decode cX6_tellEntry 69 = .ok (.aload_n 0, 1) := by decide +kernel
theorem dX6_tellEntry_70 : decode cX6_tellEntry 70 = .ok (.iconst 0, 1) := by decide +kernel
theorem dX6_tellEntry_71 : decode cX6_tellEntry 71 = .ok (.iload_n 1, 1) := by decide +kernel
theorem dX6_tellEntry_72 : decode cX6_tellEntry 72 = .ok (.invokevirtual 168, 3) := by decide +kernel
theorem dX6_tellEntry_75 : decode cX6_tellEntry 75 = .ok (.ireturn, 1) := by decide +kernel
theorem dX6_tellEntry_76 : decode cX6_tellEntry 76 = .ok (.aload_n 0, 1) := by decide +kernel
theorem dX6_tellEntry_77 : decode cX6_tellEntry 77 = .ok (.getfield 13, 3) := by decide +kernel
theorem dX6_tellEntry_80 : decode cX6_tellEntry 80 = .ok (.iload_n 1, 1) := by decide +kernel
theorem dX6_tellEntry_81 : decode cX6_tellEntry 81 = .ok (.iaload, 1) := by decide +kernel
theorem dX6_tellEntry_82 : decode cX6_tellEntry 82 = .ok (.ireturn, 1) := by decide +kernel
theorem dX6_tellEntry_83 : decode cX6_tellEntry 83 = .ok (.aload_n 0, 1) := by decide +kernel
theorem dX6_tellEntry_84 : decode cX6_tellEntry 84 = .ok (.getfield 16, 3) := by decide +kernel
theorem dX6_tellEntry_87 : decode cX6_tellEntry 87 = .ok (.iload_n 1, 1) := by decide +kernel
theorem dX6_tellEntry_88 : decode cX6_tellEntry 88 = .ok (.iaload, 1) := by decide +kernel
theorem dX6_tellEntry_89 : decode cX6_tellEntry 89 = .ok (.ireturn, 1) := by decide +kernel
theorem dX6_tellEntry_90 : decode cX6_tellEntry 90 = .ok (.aload_n 0, 1) := by decide +kernel
theorem dX6_tellEntry_91 : decode cX6_tellEntry 91 = .ok (.getfield 19, 3) := by decide +kernel
theorem dX6_tellEntry_94 : decode cX6_tellEntry 94 = .ok (.iload_n 1, 1) := by decide +kernel
theorem dX6_tellEntry_95 : decode cX6_tellEntry 95 = .ok (.iaload, 1) := by decide +kernel
theorem dX6_tellEntry_96 : decode cX6_tellEntry 96 = .ok (.ireturn, 1) := by decide +kernel
theorem dX6_tellEntry_97 : decode cX6_tellEntry 97 = .ok (.aload_n 0, 1) := by decide +kernel
theorem dX6_tellEntry_98 : decode cX6_tellEntry 98 = .ok (.iload_n 1, 1) := by decide +kernel
theorem dX6_tellEntry_99 : decode cX6_tellEntry 99 = .ok (.invokevirtual 242, 3) := by decide +kernel
theorem dX6_tellEntry_102 : decode cX6_tellEntry 102 = .ok (.ireturn, 1) := by decide +kernel
theorem dX6_tellEntry_103 : decode cX6_tellEntry 103 = .ok (.bipush (-102), 2) := by decide +kernel
theorem dX6_tellEntry_105 : decode cX6_tellEntry 105 = .ok (.ireturn, 1) := by decide +kernel
set_option maxRecDepth 20000 in
theorem ggX6_entry_X6_isThere : GoodIn wsX6_entry wsX6_isThere := goodIn_r _ [5, 6, 7, 8, 9, 10, 4, 11, 12, 13, 14, 15, 41, 42, 43, 44, 45, 46, 47, 48, 49, 50, 51, 52, 53, 54, 55, 56, 57, 58, 59, 60, 61, 62, 63, 64, 65, 66, 67, 68, 69, 70, 71, 72, 73, 74, 75, 76, 77, 78, 79, 80, 81, 82, 83, 84, 85, 86, 87, 88, 89, 90] (by decide +kernel) (by decide +kernel)
set_option maxRecDepth 20000 in
theorem gX6_entry_X6_isThere : GoodIn wsX6_entry (wsV RX6 245 RX6 yX6_isThere wsX6_isThere) := goodIn_app (goodIn_of _ (by decide +kernel)) ggX6_entry_X6_isThere
set_option maxRecDepth 20000 in
theorem ggX6_entry_X6_tellEntry : GoodIn wsX6_entry wsX6_tellEntry := goodIn_r _ [19, 20, 21, 22, 23, 24, 25, 26, 27, 4, 28, 29, 30, 31, 32, 7, 33, 34, 35, 36, 37, 38, 39, 40, 41, 42, 43, 44, 45, 46, 47, 48, 49, 50, 51, 52, 53, 54, 55, 56, 57, 58, 59, 60, 61, 62, 63, 64, 65, 66, 67, 68, 69, 70, 71, 72, 73, 74, 75, 76, 77, 78, 79, 80, 81, 82, 83, 84, 85, 86, 87, 88, 89, 90] (by decide +kernel) (by decide +kernel)
set_option maxRecDepth 20000 in
theorem gX6_entry_X6_tellEntry : GoodIn wsX6_entry (wsV RX6 248 RX6 yX6_tellEntry wsX6_tellEntry) := goodIn_app (goodIn_of _ (by decide +kernel)) ggX6_entry_X6_tellEntry
theorem dX6_entry_0 : decode cX6_entry 0 = .ok (.aload_n 0, 1) := by decide +kernel
theorem dX6_entry_1 : decode cX6_entry 1 = .ok (.iload_n 1, 1) := by decide +kernel
theorem dX6_entry_2 : decode cX6_entry 2 = .ok (.invokevirtual 245, 3) := by decide +kernel
theorem dX6_entry_5 : decode cX6_entry 5 = .ok (.ifCond .eq 12, 3) := by decide +kernel
theorem dX6_entry_8 : decode cX6_entry 8 = .ok (.aload_n 0, 1) := by decide +kernel
theorem dX6_entry_9 : decode cX6_entry 9 = .ok (.iload_n 1, 1) := by decide +kernel
theorem dX6_entry_10 : decode cX6_entry 10 = .ok (.iload_n 2, 1) := by decide +kernel
theorem dX6_entry_11 : decode cX6_entry 11 = .ok (.invokevirtual 248, 3) := by decide +kernel
theorem dX6_entry_14 : decode cX6_entry 14 = .ok (.goto 5, 3) := by decide +kernel
theorem dX6_entry_17 : decode cX6_entry 17 = .ok (.bipush (-101), 2) := by decide +kernel
theorem dX6_entry_19 : decode cX6_entry 19 = .ok (.ireturn, 1) := by decide +kernel
set_option maxRecDepth 20000 in
theorem ggX6_as_X6_isThere : GoodIn wsX6_as wsX6_isThere := goodIn_r _ [7, 8, 9, 10, 11, 12, 6, 13, 14, 15, 16, 17, 18, 19, 20, 21, 22, 23, 24, 25, 26, 27, 28, 29, 30, 31, 32, 33, 34, 35, 36, 37, 38, 39, 40, 41, 42, 43, 44, 45, 46, 47, 48, 49, 50, 51, 52, 53, 54, 55, 56, 57, 58, 59, 60, 61, 62, 63, 64, 65, 66, 67] (by decide +kernel) (by decide +kernel)
set_option maxRecDepth 20000 in
theorem gX6_as_X6_isThere : GoodIn wsX6_as (wsV RX6 245 RX6 yX6_isThere wsX6_isThere) := goodIn_app (goodIn_of _ (by decide +kernel)) ggX6_as_X6_isThere
set_option maxRecDepth 20000 in
theorem ggX6_as_X6_in : GoodIn wsX6_as wsX6_in := goodIn_r _ [17] (by decide +kernel) (by decide +kernel)
set_option maxRecDepth 20000 in
theorem gX6_as_X6_in : GoodIn wsX6_as (va_wsS RX6 94 yX6_in wsX6_in) := goodIn_app (goodIn_of _ (by decide +kernel)) ggX6_as_X6_in
theorem dX6_as_0 : decode cX6_as 0 = .ok (.aload_n 0, 1) := by decide +kernel
theorem dX6_as_1 : decode cX6_as 1 = .ok (.iload_n 1, 1) := by decide +kernel
theorem dX6_as_2 : decode cX6_as 2 = .ok (.invokevirtual 245, 3) := by decide +kernel
theorem dX6_as_5 : decode cX6_as 5 = .ok (.ifCond .ne 6, 3) := by decide +kernel
theorem dX6_as_8 : decode cX6_as 8 = .ok (.bipush (-101), 2) := by decide +kernel
theorem dX6_as_10 : decode cX6_as 10 = .ok (.ireturn, 1) := by decide +kernel
theorem dX6_as_11 : decode cX6_as 11 = .ok (.iload_n 2, 1) := by decide +kernel
theorem dX6_as_12 : decode cX6_as 12 = .ok (.i2l, 1) := by decide +kernel
theorem dX6_as_13 : decode cX6_as 13 = .ok (.lconst 0, 1) := by decide +kernel
theorem dX6_as_14 : decode cX6_as 14 = .ok (.ldc2_w 251, 3) := by decide +kernel
theorem dX6_as_17 : decode cX6_as 17 = .ok (.invokestatic 94, 3) := by decide +kernel
theorem dX6_as_20 : decode cX6_as 20 = .ok (.ifCond .ne 6, 3) := by decide +kernel
theorem dX6_as_23 : decode cX6_as 23 = .ok (.bipush (-102), 2) := by decide +kernel
theorem dX6_as_25 : decode cX6_as 25 = .ok (.ireturn, 1) := by decide +kernel
theorem dX6_as_26 : decode cX6_as 26 = .ok (.iload_n 2, 1) := by decide +kernel
theorem dX6_as_27 : decode cX6_as 27 = .ok (.ifCond .eq 28, 3) := by decide +kernel
theorem dX6_as_30 : decode cX6_as 30 = .ok (.iload_n 2, 1) := by decide +kernel
theorem dX6_as_31 : decode cX6_as 31 = .ok (.aload_n 0, 1) := by decide +kernel
theorem dX6_as_32 : decode cX6_as 32 = .ok (.getfield 40, 3) := by decide +kernel
theorem dX6_as_35 : decode cX6_as 35 = .ok (.iload_n 1, 1) := by decide +kernel
theorem dX6_as_36 : decode cX6_as 36 = .ok (.iaload, 1) := by decide +kernel
theorem dX6_as_37 : decode cX6_as 37 = .ok (.if_icmp .eq 18, 3) := by decide +kernel
theorem dX6_as_40 : decode cX6_as 40 = .ok (.iload_n 2, 1) := by decide +kernel
theorem dX6_as_41 : decode cX6_as 41 = .ok (.iconst 1, 1) := by decide +kernel
theorem dX6_as_42 : decode cX6_as 42 = .ok (.if_icmp .ne 17, 3) := by decide +kernel
theorem dX6_as_45 : decode cX6_as 45 = .ok (.aload_n 0, 1) := by decide +kernel
theorem dX6_as_46 : decode cX6_as 46 = .ok (.getfield 40, 3) := by decide +kernel
theorem dX6_as_49 : decode cX6_as 49 = .ok (.iload_n 1, 1) := by decide +kernel
theorem dX6_as_50 : decode cX6_as 50 = .ok (.iaload, 1) := by decide +kernel
theorem dX6_as_51 : decode cX6_as 51 = .ok (.iconst 4, 1) := by decide +kernel
theorem dX6_as_52 : decode cX6_as 52 = .ok (.if_icmp .ne 7, 3) := by decide +kernel
theorem dX6_as_55 : decode cX6_as 55 = .ok (.iconst 1, 1) := by decide +kernel
theorem dX6_as_56 : decode cX6_as 56 = .ok (.goto 4, 3) := by decide +kernel
theorem dX6_as_59 : decode cX6_as 59 = .ok (.iconst 0, 1) := by decide +kernel
theorem dX6_as_60 : decode cX6_as 60 = .ok (.istore_n 3, 1) := by decide +kernel
theorem dX6_as_61 : decode cX6_as 61 = .ok (.iload_n 3, 1) := by decide +kernel
theorem dX6_as_62 : decode cX6_as 62 = .ok (.ifCond .eq 7, 3) := by decide +kernel
theorem dX6_as_65 : decode cX6_as 65 = .ok (.iload_n 1, 1) := by decide +kernel
theorem dX6_as_66 : decode cX6_as 66 = .ok (.goto 4, 3) := by decide +kernel
theorem dX6_as_69 : decode cX6_as 69 = .ok (.iconst (-1), 1) := by decide +kernel
theorem dX6_as_70 : decode cX6_as 70 = .ok (.ireturn, 1) := by decide +kernel
set_option maxRecDepth 20000 in
theorem ggX6_at_X6_lacks : GoodIn wsX6_at wsX6_lacks := goodIn_r _ [7, 8, 16, 17, 18, 19, 20, 21, 22, 23, 24, 25, 26, 27, 28, 29, 30, 31, 32, 33, 34, 35, 36, 37, 38, 39, 40, 41, 42, 43, 44, 45, 46, 47, 48, 49, 50, 51, 52, 53, 54, 55, 56, 57, 58, 59, 60, 61, 62, 63, 64, 65] (by decide +kernel) (by decide +kernel)
set_option maxRecDepth 20000 in
theorem gX6_at_X6_lacks : GoodIn wsX6_at (wsV RX6 236 RX6 yX6_lacks wsX6_lacks) := goodIn_app (goodIn_of _ (by decide +kernel)) ggX6_at_X6_lacks
set_option maxRecDepth 20000 in
theorem ggX6_at_X6_in : GoodIn wsX6_at wsX6_in := goodIn_r _ [11] (by decide +kernel) (by decide +kernel)
set_option maxRecDepth 20000 in
theorem gX6_at_X6_in : GoodIn wsX6_at (va_wsS RX6 94 yX6_in wsX6_in) := goodIn_app (goodIn_of _ (by decide +kernel)) ggX6_at_X6_in
set_option maxRecDepth 20000 in
theorem ggX6_at_X6_lessMany : GoodIn wsX6_at wsX6_lessMany := goodIn_r _ [15, 2, 16, 17, 18, 19, 20, 21, 22, 23, 24, 25, 26, 27, 28, 29, 30, 31, 32, 33, 34, 35, 36, 37, 38, 39, 40, 41, 42, 43, 44, 45, 46, 47, 48, 49, 50, 51, 52, 53, 54, 55, 56, 57, 58, 59, 60, 61, 62, 63, 64, 65] (by decide +kernel) (by decide +kernel)
set_option maxRecDepth 20000 in
theorem gX6_at_X6_lessMany : GoodIn wsX6_at (wsV RX6 242 RX6 yX6_lessMany wsX6_lessMany) := goodIn_app (goodIn_of _ (by decide +kernel)) ggX6_at_X6_lessMany
theorem dX6_at_0 : decode cX6_at 0 = .ok (.aload_n 0, 1) := by decide +kernel
theorem dX6_at_1 : decode cX6_at 1 = .ok (.invokevirtual 236, 3) := by decide +kernel
theorem dX6_at_4 : decode cX6_at 4 = .ok (.ifCond .ne 21, 3) := by decide +kernel
theorem dX6_at_7 : decode cX6_at 7 = .ok (.iload_n 1, 1) := by decide +kernel
theorem dX6_at_8 : decode cX6_at 8 = .ok (.i2l, 1) := by decide +kernel
theorem dX6_at_9 : decode cX6_at 9 = .ok (.lconst 0, 1) := by decide +kernel
theorem dX6_at_10 : decode cX6_at 10 = .ok (.aload_n 0, 1) := by decide +kernel
theorem dX6_at_11 : decode cX6_at 11 = .ok (.getfield 28, 3) := by decide +kernel
theorem dX6_at_14 : decode cX6_at 14 = .ok (.iconst 0, 1) := by decide +kernel
theorem dX6_at_15 : decode cX6_at 15 = .ok (.iaload, 1) := by decide +kernel
theorem dX6_at_16 : decode cX6_at 16 = .ok (.iconst 1, 1) := by decide +kernel
theorem dX6_at_17 : decode cX6_at 17 = .ok (.isub, 1) := by decide +kernel
theorem dX6_at_18 : decode cX6_at 18 = .ok (.i2l, 1) := by decide +kernel
theorem dX6_at_19 : decode cX6_at 19 = .ok (.invokestatic 94, 3) := by decide +kernel
theorem dX6_at_22 : decode cX6_at 22 = .ok (.ifCond .ne 6, 3) := by decide +kernel
theorem dX6_at_25 : decode cX6_at 25 = .ok (.bipush (-101), 2) := by decide +kernel
theorem dX6_at_27 : decode cX6_at 27 = .ok (.ireturn, 1) := by decide +kernel
theorem dX6_at_28 : decode cX6_at 28 = .ok (.iconst 0, 1) := by decide +kernel
theorem dX6_at_29 : decode cX6_at 29 = .ok (.istore_n 2, 1) := by decide +kernel
theorem dX6_at_30 : decode cX6_at 30 = .ok (.aload_n 0, 1) := by decide +kernel
theorem dX6_at_31 : decode cX6_at 31 = .ok (.getfield 22, 3) := by decide +kernel
theorem dX6_at_34 : decode cX6_at 34 = .ok (.iload_n 2, 1) := by decide +kernel
theorem dX6_at_35 : decode cX6_at 35 = .ok (.iaload, 1) := by decide +kernel
theorem dX6_at_36 : decode cX6_at 36 = .ok (.ifCond .eq 12, 3) := by decide +kernel
theorem dX6_at_39 : decode cX6_at 39 = .ok (.aload_n 0, 1) := by decide +kernel
theorem dX6_at_40 : decode cX6_at 40 = .ok (.iload_n 2, 1) := by decide +kernel
theorem dX6_at_41 : decode cX6_at 41 = .ok (.invokevirtual 242, 3) := by decide +kernel
theorem dX6_at_44 : decode cX6_at 44 = .ok (.iload_n 1, 1) := by decide +kernel
theorem dX6_at_45 : decode cX6_at 45 = .ok (.if_icmp .ge 9, 3) := by decide +kernel
theorem dX6_at_48 : decode cX6_at 48 = .ok (.iinc 2 1, 3) := by decide +kernel
theorem dX6_at_51 : decode cX6_at 51 = .ok (.goto (-21), 3) := by decide +kernel
theorem dX6_at_54 : decode cX6_at 54 = .ok (.iload_n 2, 1) := by decide +kernel
theorem dX6_at_55 : decode cX6_at 55 = .ok (.ireturn, 1) := by decide +kernel
set_option maxRecDepth 20000 in
theorem ggX6_next_X6_lacks : GoodIn wsX6_next wsX6_lacks := goodIn_r _ [6, 7, 8, 9, 10, 11, 12, 13, 14, 15, 16, 17, 18, 19, 20, 21, 22, 23, 24, 25, 26, 27, 28, 29, 30, 31, 32, 33, 34, 35, 36, 37, 38, 39, 40, 41, 42, 43, 44, 45, 46, 47, 48, 49, 50, 51, 52, 53, 54, 55, 56, 57] (by decide +kernel) (by decide +kernel)
set_option maxRecDepth 20000 in
theorem gX6_next_X6_lacks : GoodIn wsX6_next (wsV RX6 236 RX6 yX6_lacks wsX6_lacks) := goodIn_app (goodIn_of _ (by decide +kernel)) ggX6_next_X6_lacks
theorem dX6_next_0 : decode cX6_next 0 = .ok (.aload_n 0, 1) := by decide +kernel
theorem dX6_next_1 : decode cX6_next 1 = .ok (.invokevirtual 236, 3) := by decide +kernel
theorem dX6_next_4 : decode cX6_next 4 = .ok (.ifCond .eq 6, 3) := by decide +kernel
theorem dX6_next_7 : decode cX6_next 7 = .ok (.bipush (-103), 2) := by decide +kernel
theorem dX6_next_9 : decode cX6_next 9 = .ok (.ireturn, 1) := by decide +kernel
theorem dX6_next_10 : decode cX6_next 10 = .ok (.iconst 0, 1) := by decide +kernel
theorem dX6_next_11 : decode cX6_next 11 = .ok (.istore_n 2, 1) := by decide +kernel
theorem dX6_next_12 : decode cX6_next 12 = .ok (.iload_n 2, 1) := by decide +kernel
theorem dX6_next_13 : decode cX6_next 13 = .ok (.bipush 100, 2) := by decide +kernel
theorem dX6_next_15 : decode cX6_next 15 = .ok (.if_icmp .ge 26, 3) := by decide +kernel
theorem dX6_next_18 : decode cX6_next 18 = .ok (.aload_n 0, 1) := by decide +kernel
theorem dX6_next_19 : decode cX6_next 19 = .ok (.getfield 22, 3) := by decide +kernel
theorem dX6_next_22 : decode cX6_next 22 = .ok (.iload_n 2, 1) := by decide +kernel
theorem dX6_next_23 : decode cX6_next 23 = .ok (.iaload, 1) := by decide +kernel
theorem dX6_next_24 : decode cX6_next 24 = .ok (.iconst 1, 1) := by decide +kernel
theorem dX6_next_25 : decode cX6_next 25 = .ok (.if_icmp .ne 10, 3) := by decide +kernel
theorem dX6_next_28 : decode cX6_next 28 = .ok (.iload_n 2, 1) := by decide +kernel
theorem dX6_next_29 : decode cX6_next 29 = .ok (.iload_n 1, 1) := by decide +kernel
theorem dX6_next_30 : decode cX6_next 30 = .ok (.if_icmp .le 5, 3) := by decide +kernel
theorem dX6_next_33 : decode cX6_next 33 = .ok (.iload_n 2, 1) := by decide +kernel
theorem dX6_next_34 : decode cX6_next 34 = .ok (.ireturn, 1) := by decide +kernel
theorem dX6_next_35 : decode cX6_next 35 = .ok (.iinc 2 1, 3) := by decide +kernel
theorem dX6_next_38 : decode cX6_next 38 = .ok (.goto (-26), 3) := by decide +kernel
theorem dX6_next_41 : decode cX6_next 41 = .ok (.iconst (-1), 1) := by decide +kernel
theorem dX6_next_42 : decode cX6_next 42 = .ok (.ireturn, 1) := by decide +kernel
set_option maxRecDepth 20000 in
theorem ggX6_put_X6_in : GoodIn wsX6_put wsX6_in := goodIn_r _ [12] (by decide +kernel) (by decide +kernel)
set_option maxRecDepth 20000 in
theorem gX6_put_X6_in : GoodIn wsX6_put (va_wsS RX6 94 yX6_in wsX6_in) := goodIn_app (goodIn_of _ (by decide +kernel)) ggX6_put_X6_in
set_option maxRecDepth 20000 in
theorem ggX6_put_X6_lacks : GoodIn wsX6_put wsX6_lacks := goodIn_r _ [16, 17, 101, 102, 103, 104, 105, 106, 107, 108, 109, 110, 111, 112, 113, 114, 115, 116, 117, 118, 119, 120, 121, 122, 123, 124, 125, 126, 127, 128, 129, 130, 131, 132, 133, 134, 135, 136, 137, 138, 139, 140, 141, 142, 143, 144, 145, 146, 147, 148, 149, 150] (by decide +kernel) (by decide +kernel)
set_option maxRecDepth 20000 in
theorem gX6_put_X6_lacks : GoodIn wsX6_put (wsV RX6 236 RX6 yX6_lacks wsX6_lacks) := goodIn_app (goodIn_of _ (by decide +kernel)) ggX6_put_X6_lacks
set_option maxRecDepth 20000 in
theorem ggX6_put_X6_putNew : GoodIn wsX6_put wsX6_putNew := goodIn_r _ [21, 5, 6, 22, 23, 24, 11, 25, 8, 26, 7, 27, 28, 29, 30, 31, 32, 33, 34, 4, 35, 36, 37, 38, 39, 40, 41, 42, 43, 44, 45, 46, 47, 48, 49, 50, 51, 52, 53, 54, 55, 56, 57, 17, 58, 59, 60, 61, 62, 63, 64, 65, 66, 67, 68, 69, 70, 71, 72, 73, 74, 75, 76, 77, 78, 79, 80, 81, 82, 83, 84, 85, 86, 87, 88, 89, 90, 91, 92, 93, 94, 95, 96, 97, 98, 99, 100, 101, 102, 103, 104, 105, 106, 107, 108, 109, 110, 111, 112, 113, 114, 115, 116, 117, 118, 119, 120, 121, 122, 123, 124, 125, 126, 127, 128, 129, 130, 131, 132, 133, 134, 135, 136, 137, 138, 139, 140, 141, 142, 143, 144, 145, 146, 147, 148, 149, 150] (by decide +kernel) (by decide +kernel)
set_option maxRecDepth 20000 in
theorem gX6_put_X6_putNew : GoodIn wsX6_put (wsV RX6 221 RX6 yX6_putNew wsX6_putNew) := goodIn_app (goodIn_of _ (by decide +kernel)) ggX6_put_X6_putNew
theorem dX6_put_0 : decode cX6_put 0 = .ok (.iload_n 1, 1) := by decide +kernel
theorem dX6_put_1 : decode cX6_put 1 = .ok (.i2l, 1) := by decide +kernel
theorem dX6_put_2 : decode cX6_put 2 = .ok (.lconst 0, 1) := by decide +kernel
theorem dX6_put_3 : decode cX6_put 3 = .ok (.ldc2_w 251, 3) := by decide +kernel
theorem dX6_put_6 : decode cX6_put 6 = .ok (.invokestatic 94, 3) := by decide +kernel
theorem dX6_put_9 : decode cX6_put 9 = .ok (.ifCond .eq 27, 3) := by decide +kernel
theorem dX6_put_12 : decode cX6_put 12 = .ok (.iload_n 2, 1) := by decide +kernel
theorem dX6_put_13 : decode cX6_put 13 = .ok (.i2l, 1) := by decide +kernel
theorem dX6_put_14 : decode cX6_put 14 = .ok (.lconst 0, 1) := by decide +kernel
theorem dX6_put_15 : decode cX6_put 15 = .ok (.ldc2_w 240, 3) := by decide +kernel
theorem dX6_put_18 : decode cX6_put 18 = .ok (.invokestatic 94, 3) := by decide +kernel
theorem dX6_put_21 : decode cX6_put 21 = .ok (.ifCond .eq 15, 3) := by decide +kernel
theorem dX6_put_24 : decode cX6_put 24 = .ok (.iload_n 3, 1) := by decide +kernel
theorem dX6_put_25 : decode cX6_put 25 = .ok (.i2l, 1) := by decide +kernel
theorem dX6_put_26 : decode cX6_put 26 = .ok (.lconst 0, 1) := by decide +kernel
theorem dX6_put_27 : decode cX6_put 27 = .ok (.ldc2_w 253, 3) := by decide +kernel
theorem dX6_put_30 : decode cX6_put 30 = .ok (.invokestatic 94, 3) := by decide +kernel
theorem dX6_put_33 : decode cX6_put 33 = .ok (.ifCond .ne 6, 3) := by decide +kernel
theorem dX6_put_36 : decode cX6_put 36 = .ok (.bipush (-102), 2) := by decide +kernel
theorem dX6_put_38 : decode cX6_put 38 = .ok (.ireturn, 1) := by decide +kernel
theorem dX6_put_39 : decode cX6_put 39 = .ok (.aload_n 0, 1) := by decide +kernel
theorem dX6_put_40 : decode cX6_put 40 = .ok (.invokevirtual 236, 3) := by decide +kernel
theorem dX6_put_43 : decode cX6_put 43 = .ok (.ifCond .ne 23, 3) := by decide +kernel
theorem dX6_put_46 : decode cX6_put 46 = .ok (.aload_n 0, 1) := by decide +kernel
theorem dX6_put_47 : decode cX6_put 47 = .ok (.getfield 22, 3) := by decide +kernel
theorem dX6_put_50 : decode cX6_put 50 = .ok (.iload_n 2, 1) := by decide +kernel
theorem dX6_put_51 : decode cX6_put 51 = .ok (.iaload, 1) := by decide +kernel
theorem dX6_put_52 : decode cX6_put 52 = .ok (.iconst 1, 1) := by decide +kernel
theorem dX6_put_53 : decode cX6_put 53 = .ok (.if_icmp .ne 16, 3) := by decide +kernel
theorem dX6_put_56 : decode cX6_put 56 = .ok (.aload_n 0, 1) := by decide +kernel
theorem dX6_put_57 : decode cX6_put 57 = .ok (.getfield 40, 3) := by decide +kernel
theorem dX6_put_60 : decode cX6_put 60 = .ok (.iload_n 2, 1) := by decide +kernel
theorem dX6_put_61 : decode cX6_put 61 = .ok (.iaload, 1) := by decide +kernel
theorem dX6_put_62 : decode cX6_put 62 = .ok (.iconst 4, 1) := by decide +kernel
theorem dX6_put_63 : decode cX6_put 63 = .ok (.if_icmp .ne 6, 3) := by decide +kernel
theorem dX6_put_66 : decode cX6_put 66 = .ok (.bipush (-103), 2) := by decide +kernel
theorem dX6_put_68 : decode cX6_put 68 = .ok (.ireturn, 1) := by decide +kernel
theorem dX6_put_69 : decode cX6_put 69 = .ok (.aload_n 0, 1) := by decide +kernel
theorem dX6_put_70 : decode cX6_put 70 = .ok (.getfield 22, 3) := by decide +kernel
theorem dX6_put_73 : decode cX6_put 73 = .ok (.iload_n 2, 1) := by decide +kernel
theorem dX6_put_74 : decode cX6_put 74 = .ok (.iaload, 1) := by decide +kernel
theorem dX6_put_75 : decode cX6_put 75 = .ok (.iconst 1, 1) := by decide +kernel
theorem dX6_put_76 : decode cX6_put 76 = .ok (.if_icmp .ne 19, 3) := by decide +kernel
theorem dX6_put_79 : decode cX6_put 79 = .ok (.aload_n 0, 1) := by decide +kernel
theorem dX6_put_80 : decode cX6_put 80 = .ok (.getfield 40, 3) := by decide +kernel
theorem dX6_put_83 : decode cX6_put 83 = .ok (.iload_n 2, 1) := by decide +kernel
theorem dX6_put_84 : decode cX6_put 84 = .ok (.iload_n 1, 1) := by decide +kernel
theorem dX6_put_85 : decode cX6_put 85 = .ok (.iastore, 1) := by decide +kernel
theorem dX6_put_86 : decode cX6_put 86 = .ok (.aload_n 0, 1) := by decide +kernel
theorem dX6_put_87 : decode cX6_put 87 = .ok (.getfield 43, 3) := by decide +kernel
theorem dX6_put_90 : decode cX6_put 90 = .ok (.iload_n 2, 1) := by decide +kernel
theorem dX6_put_91 : decode cX6_put 91 = .ok (.iload_n 3, 1) := by decide +kernel
theorem dX6_put_92 : decode cX6_put 92 = .ok (.iastore, 1) := by decide +kernel
theorem dX6_put_93 : decode cX6_put 93 = .ok (.iconst 0, 1) := by decide +kernel
theorem dX6_put_94 : decode cX6_put 94 = .ok (.ireturn, 1) := by decide +kernel
theorem dX6_put_95 : decode cX6_put 95 = .ok (.aload_n 0, 1) := by decide +kernel
theorem dX6_put_96 : decode cX6_put 96 = .ok (.getfield 28, 3) := by decide +kernel
theorem dX6_put_99 : decode cX6_put 99 = .ok (.iconst 0, 1) := by decide +kernel
theorem dX6_put_100 : decode cX6_put 100 = .ok (.iaload, 1) := by decide +kernel
theorem dX6_put_101 : decode cX6_put 101 = .ok (.bipush 40, 2) := by decide +kernel
theorem dX6_put_103 : decode cX6_put 103 = .ok (.if_icmp .ne 6, 3) := by decide +kernel
theorem dX6_put_106 : decode cX6_put 106 = .ok (.bipush (-104), 2) := by decide +kernel
theorem dX6_put_108 : decode cX6_put 108 = .ok (.ireturn, 1) := by decide +kernel
theorem dX6_put_109 : decode cX6_put 109 = .ok (.aload_n 0, 1) := by decide +kernel
theorem dX6_put_110 : decode cX6_put 110 = .ok (.iload_n 1, 1) := by decide +kernel
theorem dX6_put_111 : decode cX6_put 111 = .ok (.iload_n 2, 1) := by decide +kernel
theorem dX6_put_112 : decode cX6_put 112 = .ok (.iload_n 3, 1) := by decide +kernel
theorem dX6_put_113 : decode cX6_put 113 = .ok (.invokevirtual 221, 3) := by decide +kernel
theorem dX6_put_116 : decode cX6_put 116 = .ok (.aload_n 0, 1) := by decide +kernel
theorem dX6_put_117 : decode cX6_put 117 = .ok (.getfield 171, 3) := by decide +kernel
theorem dX6_put_120 : decode cX6_put 120 = .ok (.ireturn, 1) := by decide +kernel
set_option maxRecDepth 20000 in
theorem ggX6_take_X6_isThere : GoodIn wsX6_take wsX6_isThere := goodIn_r _ [7, 8, 9, 10, 11, 12, 6, 13, 14, 15, 16, 17, 99, 100, 101, 102, 103, 104, 105, 106, 107, 108, 109, 110, 111, 112, 113, 114, 115, 116, 117, 118, 119, 120, 121, 122, 123, 124, 125, 126, 127, 128, 129, 130, 131, 132, 133, 134, 135, 136, 137, 138, 139, 140, 141, 142, 143, 144, 145, 146, 147, 148] (by decide +kernel) (by decide +kernel)
set_option maxRecDepth 20000 in
theorem gX6_take_X6_isThere : GoodIn wsX6_take (wsV RX6 245 RX6 yX6_isThere wsX6_isThere) := goodIn_app (goodIn_of _ (by decide +kernel)) ggX6_take_X6_isThere
set_option maxRecDepth 20000 in
theorem ggX6_take_X6_takeOut : GoodIn wsX6_take wsX6_takeOut := goodIn_r _ [21, 22, 23, 24, 6, 25, 26, 27, 28, 29, 30, 31, 32, 33, 34, 35, 36, 37, 38, 39, 40, 41, 42, 43, 44, 45, 46, 47, 9, 48, 49, 50, 51, 52, 53, 54, 55, 56, 57, 58, 59, 60, 61, 62, 63, 14, 64, 65, 66, 67, 68, 69, 70, 71, 72, 73, 74, 75, 76, 77, 78, 79, 80, 81, 82, 83, 84, 85, 86, 87, 88, 89, 90, 91, 92, 93, 94, 95, 96, 97, 98, 99, 100, 101, 102, 103, 104, 105, 106, 107, 108, 109, 110, 111, 112, 113, 114, 115, 116, 117, 118, 119, 120, 121, 122, 123, 124, 125, 126, 127, 128, 129, 130, 131, 132, 133, 134, 135, 136, 137, 138, 139, 140, 141, 142, 143, 144, 145, 146, 147, 148] (by decide +kernel) (by decide +kernel)
set_option maxRecDepth 20000 in
theorem gX6_take_X6_takeOut : GoodIn wsX6_take (wsV RX6 255 RX6 yX6_takeOut wsX6_takeOut) := goodIn_app (goodIn_of _ (by decide +kernel)) ggX6_take_X6_takeOut
theorem dX6_take_0 : decode cX6_take 0 = .ok (.aload_n 0, 1) := by decide +kernel
theorem dX6_take_1 : decode cX6_take 1 = .ok (.iload_n 1, 1) := by decide +kernel
theorem dX6_take_2 : decode cX6_take 2 = .ok (.invokevirtual 245, 3) := by decide +kernel
theorem dX6_take_5 : decode cX6_take 5 = .ok (.ifCond .ne 6, 3) := by decide +kernel
theorem dX6_take_8 : decode cX6_take 8 = .ok (.bipush (-101), 2) := by decide +kernel
theorem dX6_take_10 : decode cX6_take 10 = .ok (.ireturn, 1) := by decide +kernel
theorem dX6_take_11 : decode cX6_take 11 = .ok (.aload_n 0, 1) := by decide +kernel
theorem dX6_take_12 : decode cX6_take 12 = .ok (.getfield 40, 3) := by decide +kernel
theorem dX6_take_15 : decode cX6_take 15 = .ok (.iload_n 1, 1) := by decide +kernel
theorem dX6_take_16 : decode cX6_take 16 = .ok (.iaload, 1) := by decide +kernel
theorem dX6_take_17 : decode cX6_take 17 = .ok (.iconst 1, 1) := by decide +kernel
theorem dX6_take_18 : decode cX6_take 18 = .ok (.if_icmp .eq 13, 3) := by decide +kernel
theorem dX6_take_21 : decode cX6_take 21 = .ok (.aload_n 0, 1) := by decide +kernel
theorem dX6_take_22 : decode cX6_take 22 = .ok (.getfield 40, 3) := by decide +kernel
theorem dX6_take_25 : decode cX6_take 25 = .ok (.iload_n 1, 1) := by decide +kernel
theorem dX6_take_26 : decode cX6_take 26 = .ok (.iaload, 1) := by decide +kernel
theorem dX6_take_27 : decode cX6_take 27 = .ok (.iconst 4, 1) := by decide +kernel
theorem dX6_take_28 : decode cX6_take 28 = .ok (.if_icmp .ne 6, 3) := by decide +kernel
theorem dX6_take_31 : decode cX6_take 31 = .ok (.bipush (-103), 2) := by decide +kernel
theorem dX6_take_33 : decode cX6_take 33 = .ok (.ireturn, 1) := by decide +kernel
theorem dX6_take_34 : decode cX6_take 34 = .ok (.aload_n 0, 1) := by decide +kernel
theorem dX6_take_35 : decode cX6_take 35 = .ok (.iload_n 1, 1) := by decide +kernel
theorem dX6_take_36 : decode cX6_take 36 = .ok (.invokevirtual 255, 3) := by decide +kernel
theorem dX6_take_39 : decode cX6_take 39 = .ok (.aload_n 0, 1) := by decide +kernel
theorem dX6_take_40 : decode cX6_take 40 = .ok (.getfield 43, 3) := by decide +kernel
theorem dX6_take_43 : decode cX6_take 43 = .ok (.iload_n 1, 1) := by decide +kernel
theorem dX6_take_44 : decode cX6_take 44 = .ok (.iaload, 1) := by decide +kernel
theorem dX6_take_45 : decode cX6_take 45 = .ok (.ireturn, 1) := by decide +kernel
set_option maxRecDepth 20000 in
theorem ggX6_tell_X6_isThere : GoodIn wsX6_tell wsX6_isThere := goodIn_r _ [7, 8, 9, 10, 11, 12, 6, 13, 14, 15, 16, 17, 99, 100, 101, 102, 103, 104, 105, 106, 107, 108, 109, 110, 111, 112, 113, 114, 115, 116, 117, 118, 119, 120, 121, 122, 123, 124, 125, 126, 127, 128, 129, 130, 131, 132, 133, 134, 135, 136, 137, 138, 139, 140, 141, 142, 143, 144, 145, 146, 147, 148] (by decide +kernel) (by decide +kernel)
set_option maxRecDepth 20000 in
theorem gX6_tell_X6_isThere : GoodIn wsX6_tell (wsV RX6 245 RX6 yX6_isThere wsX6_isThere) := goodIn_app (goodIn_of _ (by decide +kernel)) ggX6_tell_X6_isThere
set_option maxRecDepth 20000 in
theorem ggX6_tell_X6_takeOut : GoodIn wsX6_tell wsX6_takeOut := goodIn_r _ [21, 22, 23, 24, 6, 25, 26, 27, 28, 29, 30, 31, 32, 33, 34, 35, 36, 37, 38, 39, 40, 41, 42, 43, 44, 45, 46, 47, 9, 48, 49, 50, 51, 52, 53, 54, 55, 56, 57, 58, 59, 60, 61, 62, 63, 14, 64, 65, 66, 67, 68, 69, 70, 71, 72, 73, 74, 75, 76, 77, 78, 79, 80, 81, 82, 83, 84, 85, 86, 87, 88, 89, 90, 91, 92, 93, 94, 95, 96, 97, 98, 99, 100, 101, 102, 103, 104, 105, 106, 107, 108, 109, 110, 111, 112, 113, 114, 115, 116, 117, 118, 119, 120, 121, 122, 123, 124, 125, 126, 127, 128, 129, 130, 131, 132, 133, 134, 135, 136, 137, 138, 139, 140, 141, 142, 143, 144, 145, 146, 147, 148] (by decide +kernel) (by decide +kernel)
set_option maxRecDepth 20000 in
theorem gX6_tell_X6_takeOut : GoodIn wsX6_tell (wsV RX6 255 RX6 yX6_takeOut wsX6_takeOut) := goodIn_app (goodIn_of _ (by decide +kernel)) ggX6_tell_X6_takeOut
theorem dX6_tell_0 : decode cX6_tell 0 = .ok (.aload_n 0, 1) := by decide +kernel
theorem dX6_tell_1 : decode cX6_tell 1 = .ok (.iload_n 1, 1) := by decide +kernel
theorem dX6_tell_2 : decode cX6_tell 2 = .ok (.invokevirtual 245, 3) := by decide +kernel
theorem dX6_tell_5 : decode cX6_tell 5 = .ok (.ifCond .ne 6, 3) := by decide +kernel
theorem dX6_tell_8 : decode cX6_tell 8 = .ok (.bipush (-101), 2) := by decide +kernel
theorem dX6_tell_10 : decode cX6_tell 10 = .ok (.ireturn, 1) := by decide +kernel
theorem dX6_tell_11 : decode cX6_tell 11 = .ok (.aload_n 0, 1) := by decide +kernel
theorem dX6_tell_12 : decode cX6_tell 12 = .ok (.getfield 43, 3) := by decide +kernel
theorem dX6_tell_15 : decode cX6_tell 15 = .ok (.iload_n 1, 1) := by decide +kernel
theorem dX6_tell_16 : decode cX6_tell 16 = .ok (.iaload, 1) := by decide +kernel
theorem dX6_tell_17 : decode cX6_tell 17 = .ok (.istore_n 2, 1) := by decide +kernel
theorem dX6_tell_18 : decode cX6_tell 18 = .ok (.aload_n 0, 1) := by decide +kernel
theorem dX6_tell_19 : decode cX6_tell 19 = .ok (.getfield 40, 3) := by decide +kernel
theorem dX6_tell_22 : decode cX6_tell 22 = .ok (.iload_n 1, 1) := by decide +kernel
theorem dX6_tell_23 : decode cX6_tell 23 = .ok (.iaload, 1) := by decide +kernel
theorem dX6_tell_24 : decode cX6_tell 24 = .ok (.iconst 2, 1) := by decide +kernel
theorem dX6_tell_25 : decode cX6_tell 25 = .ok (.if_icmp .ne 20, 3) := by decide +kernel
theorem dX6_tell_28 : decode cX6_tell 28 = .ok (.iload_n 2, 1) := by decide +kernel
theorem dX6_tell_29 : decode cX6_tell 29 = .ok (.sipush 999, 3) := by decide +kernel
theorem dX6_tell_32 : decode cX6_tell 32 = .ok (.if_icmp .ge 13, 3) := by decide +kernel
theorem dX6_tell_35 : decode cX6_tell 35 = .ok (.aload_n 0, 1) := by decide +kernel
theorem dX6_tell_36 : decode cX6_tell 36 = .ok (.getfield 43, 3) := by decide +kernel
theorem dX6_tell_39 : decode cX6_tell 39 = .ok (.iload_n 1, 1) := by decide +kernel
theorem dX6_tell_40 : decode cX6_tell 40 = .ok (.dup2, 1) := by decide +kernel
theorem dX6_tell_41 : decode cX6_tell 41 = .ok (.iaload, 1) := by decide +kernel
theorem dX6_tell_42 : decode cX6_tell 42 = .ok (.iconst 1, 1) := by decide +kernel
theorem dX6_tell_43 : decode cX6_tell 43 = .ok (.iadd, 1) := by decide +kernel
theorem dX6_tell_44 : decode cX6_tell 44 = .ok (.iastore, 1) := by decide +kernel
theorem dX6_tell_45 : decode cX6_tell 45 = .ok (.aload_n 0, 1) := by decide +kernel
theorem dX6_tell_46 : decode cX6_tell 46 = .ok (.getfield 40, 3) := by decide +kernel
theorem dX6_tell_49 : decode cX6_tell 49 = .ok (.iload_n 1, 1) := by decide +kernel
theorem dX6_tell_50 : decode cX6_tell 50 = .ok (.iaload, 1) := by decide +kernel
theorem dX6_tell_51 : decode cX6_tell 51 = .ok (.iconst 3, 1) := by decide +kernel
theorem dX6_tell_52 : decode cX6_tell 52 = .ok (.if_icmp .ne 8, 3) := by decide +kernel
theorem dX6_tell_55 : decode cX6_tell 55 = .ok (.aload_n 0, 1) := by decide +kernel
theorem dX6_tell_56 : decode cX6_tell 56 = .ok (.iload_n 1, 1) := by decide +kernel
theorem dX6_tell_57 : decode cX6_tell 57 = .ok (.invokevirtual 255, 3) := by decide +kernel
theorem dX6_tell_60 : decode cX6_tell 60 = .ok (.iload_n 2, 1) := by decide +kernel
theorem dX6_tell_61 : decode cX6_tell 61 = .ok (.ireturn, 1) := by decide +kernel
set_option maxRecDepth 20000 in
theorem ggX6_flatten_X6_lacks : GoodIn wsX6_flatten wsX6_lacks := goodIn_r _ [7, 8, 50, 51, 52, 53, 54, 55, 56, 57, 58, 59, 60, 61, 62, 63, 64, 65, 66, 67, 68, 69, 70, 71, 72, 73, 74, 75, 76, 77, 78, 79, 80, 81, 82, 83, 84, 85, 86, 87, 88, 89, 90, 91, 92, 93, 94, 95, 96, 97, 98, 99] (by decide +kernel) (by decide +kernel)
set_option maxRecDepth 20000 in
theorem gX6_flatten_X6_lacks : GoodIn wsX6_flatten (wsV RX6 236 RX6 yX6_lacks wsX6_lacks) := goodIn_app (goodIn_of _ (by decide +kernel)) ggX6_flatten_X6_lacks
set_option maxRecDepth 20000 in
theorem ggX6_flatten_X6_build : GoodIn wsX6_flatten wsX6_build := goodIn_r _ [12, 13, 14, 15, 16, 17, 18, 19, 20, 21, 22, 23, 24, 25, 6, 26, 27, 28, 29, 30, 31, 32, 33, 34, 35, 36, 37, 38, 39, 40, 41, 42, 43, 2, 44, 45, 46, 47, 48, 49, 50, 51, 52, 53, 54, 55, 56, 57, 58, 59, 60, 61, 62, 63, 64, 65, 66, 67, 68, 69, 70, 71, 72, 73, 74, 75, 76, 77, 78, 79, 80, 81, 82, 83, 84, 85, 86, 87, 88, 89, 90, 91, 92, 93, 94, 95, 96, 97, 98, 99] (by decide +kernel) (by decide +kernel)
set_option maxRecDepth 20000 in
theorem gX6_flatten_X6_build : GoodIn wsX6_flatten (wsV RX6 202 RX6 yX6_build wsX6_build) := goodIn_app (goodIn_of _ (by decide +kernel)) ggX6_flatten_X6_build
theorem dX6_flatten_0 : decode cX6_flatten 0 = .ok (.aload_n 0, 1) := by decide +kernel
theorem dX6_flatten_1 : decode cX6_flatten 1 = .ok (.invokevirtual 236, 3) := by decide +kernel
theorem dX6_flatten_4 : decode cX6_flatten 4 = .ok (.ifCond .eq 6, 3) := by decide +kernel
theorem dX6_flatten_7 : decode cX6_flatten 7 = .ok (.bipush (-103), 2) := by decide +kernel
theorem dX6_flatten_9 : decode cX6_flatten 9 = .ok (.ireturn, 1) := by decide +kernel
theorem dX6_flatten_10 : decode cX6_flatten 10 = .ok (.aload_n 0, 1) := by decide +kernel
theorem dX6_flatten_11 : decode cX6_flatten 11 = .ok (.getfield 28, 3) := by decide +kernel
theorem dX6_flatten_14 : decode cX6_flatten 14 = .ok (.iconst 0, 1) := by decide +kernel
theorem dX6_flatten_15 : decode cX6_flatten 15 = .ok (.iaload, 1) := by decide +kernel
theorem dX6_flatten_16 : decode cX6_flatten 16 = .ok (.ifCond .le 14, 3) := by decide +kernel
theorem dX6_flatten_19 : decode cX6_flatten 19 = .ok (.aload_n 0, 1) := by decide +kernel
theorem dX6_flatten_20 : decode cX6_flatten 20 = .ok (.iconst 0, 1) := by decide +kernel
theorem dX6_flatten_21 : decode cX6_flatten 21 = .ok (.aload_n 0, 1) := by decide +kernel
theorem dX6_flatten_22 : decode cX6_flatten 22 = .ok (.getfield 25, 3) := by decide +kernel
theorem dX6_flatten_25 : decode cX6_flatten 25 = .ok (.iconst 0, 1) := by decide +kernel
theorem dX6_flatten_26 : decode cX6_flatten 26 = .ok (.iaload, 1) := by decide +kernel
theorem dX6_flatten_27 : decode cX6_flatten 27 = .ok (.invokevirtual 202, 3) := by decide +kernel
theorem dX6_flatten_30 : decode cX6_flatten 30 = .ok (.aload_n 0, 1) := by decide +kernel
theorem dX6_flatten_31 : decode cX6_flatten 31 = .ok (.getfield 28, 3) := by decide +kernel
theorem dX6_flatten_34 : decode cX6_flatten 34 = .ok (.iconst 0, 1) := by decide +kernel
theorem dX6_flatten_35 : decode cX6_flatten 35 = .ok (.iaload, 1) := by decide +kernel
theorem dX6_flatten_36 : decode cX6_flatten 36 = .ok (.ireturn, 1) := by decide +kernel
set_option maxRecDepth 20000 in
theorem ggX6_ledgerOf_X6_tall : GoodIn wsX6_ledgerOf wsX6_tall := goodIn_r _ [12, 13, 14, 15, 16, 11, 17, 18, 35, 36, 37, 38, 39, 40, 41, 42, 43, 44, 45, 46, 47, 48, 49, 50, 51, 52, 53, 54, 55, 56, 57, 58, 59, 60, 61, 62, 63, 64, 65, 66, 67, 68, 69, 70, 71, 72, 73, 74, 75, 76, 77, 78, 79, 80, 81, 82, 83, 84] (by decide +kernel) (by decide +kernel)
set_option maxRecDepth 20000 in
theorem gX6_ledgerOf_X6_tall : GoodIn wsX6_ledgerOf (wsV RX6 258 RX6 yX6_tall wsX6_tall) := goodIn_app (goodIn_of _ (by decide +kernel)) ggX6_ledgerOf_X6_tall
set_option maxRecDepth 20000 in
theorem ggX6_ledgerOf_X6_limit : GoodIn wsX6_ledgerOf wsX6_limit := goodIn_r _ [22, 23, 24, 25, 11, 26, 27, 28, 29, 30, 31, 32, 33, 34, 35, 36, 37, 38, 39, 40, 41, 42, 43, 44, 45, 46, 47, 48, 49, 50, 51, 52, 53, 54, 55, 56, 57, 58, 59, 60, 61, 62, 63, 64, 65, 66, 67, 68, 69, 70, 71, 72, 73, 74, 75, 76, 77, 78, 79, 80, 81, 82, 83, 84] (by decide +kernel) (by decide +kernel)
set_option maxRecDepth 20000 in
theorem gX6_ledgerOf_X6_limit : GoodIn wsX6_ledgerOf (wsV RX6 196 RX6 yX6_limit wsX6_limit) := goodIn_app (goodIn_of _ (by decide +kernel)) ggX6_ledgerOf_X6_limit
theorem dX6_ledgerOf_0 : decode cX6_ledgerOf 0 = .ok (.iload_n 1, 1) := by decide +kernel
theorem dX6_ledgerOf_1 : decode cX6_ledgerOf 1 = .ok (.tableswitch 89 0 5 #[39, 45, 57, 64, 73, 82], 39) := by decide +kernel
theorem dX6_ledgerOf_40 : decode cX6_ledgerOf 40 = .ok (.aload_n 0, 1) := by decide +kernel
theorem dX6_ledgerOf_41 : decode cX6_ledgerOf 41 = .ok (.iconst 0, 1) := by decide +kernel
theorem dX6_ledgerOf_42 : decode cX6_ledgerOf 42 = .ok (.invokevirtual 258, 3) := by decide +kernel
theorem dX6_ledgerOf_45 : decode cX6_ledgerOf 45 = .ok (.ireturn, 1) := by decide +kernel
theorem dX6_ledgerOf_46 : decode cX6_ledgerOf 46 = .ok (.aload_n 0, 1) := by decide +kernel
theorem dX6_ledgerOf_47 : decode cX6_ledgerOf 47 = .ok (.iconst 0, 1) := by decide +kernel
theorem dX6_ledgerOf_48 : decode cX6_ledgerOf 48 = .ok (.aload_n 0, 1) := by decide +kernel
theorem dX6_ledgerOf_49 : decode cX6_ledgerOf 49 = .ok (.getfield 28, 3) := by decide +kernel
theorem dX6_ledgerOf_52 : decode cX6_ledgerOf 52 = .ok (.iconst 0, 1) := by decide +kernel
theorem dX6_ledgerOf_53 : decode cX6_ledgerOf 53 = .ok (.iaload, 1) := by decide +kernel
theorem dX6_ledgerOf_54 : decode cX6_ledgerOf 54 = .ok (.invokevirtual 196, 3) := by decide +kernel
theorem dX6_ledgerOf_57 : decode cX6_ledgerOf 57 = .ok (.ireturn, 1) := by decide +kernel
theorem dX6_ledgerOf_58 : decode cX6_ledgerOf 58 = .ok (.aload_n 0, 1) := by decide +kernel
theorem dX6_ledgerOf_59 : decode cX6_ledgerOf 59 = .ok (.getfield 31, 3) := by decide +kernel
theorem dX6_ledgerOf_62 : decode cX6_ledgerOf 62 = .ok (.iconst 0, 1) := by decide +kernel
theorem dX6_ledgerOf_63 : decode cX6_ledgerOf 63 = .ok (.iaload, 1) := by decide +kernel
theorem dX6_ledgerOf_64 : decode cX6_ledgerOf 64 = .ok (.ireturn, 1) := by decide +kernel
theorem dX6_ledgerOf_65 : decode cX6_ledgerOf 65 = .ok (.ldc_w 261, 3) := by decide +kernel
theorem dX6_ledgerOf_68 : decode cX6_ledgerOf 68 = .ok (.aload_n 0, 1) := by decide +kernel
theorem dX6_ledgerOf_69 : decode cX6_ledgerOf 69 = .ok (.getfield 184, 3) := by decide +kernel
theorem dX6_ledgerOf_72 : decode cX6_ledgerOf 72 = .ok (.iadd, 1) := by decide +kernel
theorem dX6_ledgerOf_73 : decode cX6_ledgerOf 73 = .ok (.ireturn, 1) := by decide +kernel
theorem dX6_ledgerOf_74 : decode cX6_ledgerOf 74 = .ok (.ldc_w 261, 3) := by decide +kernel
theorem dX6_ledgerOf_77 : decode cX6_ledgerOf 77 = .ok (.aload_n 0, 1) := by decide +kernel
theorem dX6_ledgerOf_78 : decode cX6_ledgerOf 78 = .ok (.getfield 187, 3) := by decide +kernel
theorem dX6_ledgerOf_81 : decode cX6_ledgerOf 81 = .ok (.iadd, 1) := by decide +kernel
theorem dX6_ledgerOf_82 : decode cX6_ledgerOf 82 = .ok (.ireturn, 1) := by decide +kernel
theorem dX6_ledgerOf_83 : decode cX6_ledgerOf 83 = .ok (.aload_n 0, 1) := by decide +kernel
theorem dX6_ledgerOf_84 : decode cX6_ledgerOf 84 = .ok (.getfield 34, 3) := by decide +kernel
theorem dX6_ledgerOf_87 : decode cX6_ledgerOf 87 = .ok (.iconst 0, 1) := by decide +kernel
theorem dX6_ledgerOf_88 : decode cX6_ledgerOf 88 = .ok (.iaload, 1) := by decide +kernel
theorem dX6_ledgerOf_89 : decode cX6_ledgerOf 89 = .ok (.ireturn, 1) := by decide +kernel
theorem dX6_ledgerOf_90 : decode cX6_ledgerOf 90 = .ok (.aload_n 0, 1) := by decide +kernel
theorem dX6_ledgerOf_91 : decode cX6_ledgerOf 91 = .ok (.getfield 37, 3) := by decide +kernel
theorem dX6_ledgerOf_94 : decode cX6_ledgerOf 94 = .ok (.iconst 0, 1) := by decide +kernel
theorem dX6_ledgerOf_95 : decode cX6_ledgerOf 95 = .ok (.iaload, 1) := by decide +kernel
theorem dX6_ledgerOf_96 : decode cX6_ledgerOf 96 = .ok (.ireturn, 1) := by decide +kernel
set_option maxRecDepth 20000 in
theorem ggX6_ledger_X6_in : GoodIn wsX6_ledger wsX6_in := goodIn_r _ [5] (by decide +kernel) (by decide +kernel)
set_option maxRecDepth 20000 in
theorem gX6_ledger_X6_in : GoodIn wsX6_ledger (va_wsS RX6 94 yX6_in wsX6_in) := goodIn_app (goodIn_of _ (by decide +kernel)) ggX6_ledger_X6_in
set_option maxRecDepth 20000 in
theorem ggX6_ledger_X6_lacks : GoodIn wsX6_ledger wsX6_lacks := goodIn_r _ [9, 10, 47, 48, 49, 50, 51, 52, 53, 54, 55, 56, 57, 58, 59, 60, 61, 62, 63, 64, 65, 66, 67, 68, 69, 70, 71, 72, 73, 74, 75, 76, 77, 78, 79, 80, 81, 82, 83, 84, 85, 86, 87, 88, 89, 90, 91, 92, 93, 94, 95, 96] (by decide +kernel) (by decide +kernel)
set_option maxRecDepth 20000 in
theorem gX6_ledger_X6_lacks : GoodIn wsX6_ledger (wsV RX6 236 RX6 yX6_lacks wsX6_lacks) := goodIn_app (goodIn_of _ (by decide +kernel)) ggX6_ledger_X6_lacks
set_option maxRecDepth 20000 in
theorem ggX6_ledger_X6_ledgerOf : GoodIn wsX6_ledger wsX6_ledgerOf := goodIn_r _ [14, 15, 16, 17, 18, 19, 20, 21, 22, 23, 24, 4, 25, 26, 27, 28, 29, 30, 31, 32, 33, 34, 35, 36, 37, 38, 39, 10, 40, 41, 42, 43, 44, 45, 46, 47, 48, 49, 50, 51, 52, 53, 54, 55, 56, 57, 58, 59, 60, 61, 62, 63, 64, 65, 66, 67, 68, 69, 70, 71, 72, 73, 74, 75, 76, 77, 78, 79, 80, 81, 82, 83, 84, 85, 86, 87, 88, 89, 90, 91, 92, 93, 94, 95, 96] (by decide +kernel) (by decide +kernel)
set_option maxRecDepth 20000 in
theorem gX6_ledger_X6_ledgerOf : GoodIn wsX6_ledger (wsV RX6 264 RX6 yX6_ledgerOf wsX6_ledgerOf) := goodIn_app (goodIn_of _ (by decide +kernel)) ggX6_ledger_X6_ledgerOf
