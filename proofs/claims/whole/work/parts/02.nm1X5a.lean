set_option maxRecDepth 20000 in
theorem ggX5_init_X1_init : GoodIn wsX5_init wsX1_init := goodIn_r _ [18, 19, 2, 3, 20, 21, 55, 56] (by decide +kernel) (by decide +kernel)
set_option maxRecDepth 20000 in
theorem gX5_init_X1_init_n11 : GoodIn wsX5_init (wsX1_init) := ggX5_init_X1_init
set_option maxRecDepth 20000 in
theorem ggX5_init_X3_init : GoodIn wsX5_init wsX3_init := goodIn_r _ [23, 24, 2, 3, 25, 14, 15, 26, 20, 27, 28, 29, 30, 31, 32, 33, 34, 35, 36, 37, 38, 39, 40, 41, 42, 43, 44, 45, 46, 47, 48, 49, 50, 51, 52, 53, 54, 72, 73, 74, 75, 76, 77, 78, 79, 80, 81, 82, 83, 64, 65, 66, 67, 68, 69, 70, 71, 84, 85, 86, 87, 88] (by decide +kernel) (by decide +kernel)
set_option maxRecDepth 20000 in
theorem gX5_init_X3_init_n18 : GoodIn wsX5_init (wsX3_init) := ggX5_init_X3_init
set_option maxRecDepth 20000 in
theorem ggX5_init_X4_init : GoodIn wsX5_init wsX4_init := goodIn_r _ [38, 39, 2, 3, 20, 40, 41, 42, 43, 44, 45, 72, 73, 74, 75, 76, 77, 78, 79, 80, 81, 82, 83] (by decide +kernel) (by decide +kernel)
set_option maxRecDepth 20000 in
theorem gX5_init_X4_init_n28 : GoodIn wsX5_init (wsX4_init) := ggX5_init_X4_init
theorem dX5_init_0 : decode cX5_init 0 = .ok (.aload_n 0, 1) := by decide +kernel
theorem dX5_init_1 : decode cX5_init 1 = .ok (.invokespecial 3, 3) := by decide +kernel
theorem dX5_init_4 : decode cX5_init 4 = .ok (.aload_n 0, 1) := by decide +kernel
theorem dX5_init_5 : decode cX5_init 5 = .ok (.new 9, 3) := by decide +kernel
theorem dX5_init_8 : decode cX5_init 8 = .ok (.dup, 1) := by decide +kernel
theorem dX5_init_9 : decode cX5_init 9 = .ok (.invokespecial 11, 3) := by decide +kernel
theorem dX5_init_12 : decode cX5_init 12 = .ok (.putfield 12, 3) := by decide +kernel
theorem dX5_init_15 : decode cX5_init 15 = .ok (.aload_n 0, 1) := by decide +kernel
theorem dX5_init_16 : decode cX5_init 16 = .ok (.new 16, 3) := by decide +kernel
theorem dX5_init_19 : decode cX5_init 19 = .ok (.dup, 1) := by decide +kernel
theorem dX5_init_20 : decode cX5_init 20 = .ok (.invokespecial 18, 3) := by decide +kernel
theorem dX5_init_23 : decode cX5_init 23 = .ok (.putfield 19, 3) := by decide +kernel
theorem dX5_init_26 : decode cX5_init 26 = .ok (.aload_n 0, 1) := by decide +kernel
theorem dX5_init_27 : decode cX5_init 27 = .ok (.new 16, 3) := by decide +kernel
theorem dX5_init_30 : decode cX5_init 30 = .ok (.dup, 1) := by decide +kernel
theorem dX5_init_31 : decode cX5_init 31 = .ok (.invokespecial 18, 3) := by decide +kernel
theorem dX5_init_34 : decode cX5_init 34 = .ok (.putfield 23, 3) := by decide +kernel
theorem dX5_init_37 : decode cX5_init 37 = .ok (.aload_n 0, 1) := by decide +kernel
theorem dX5_init_38 : decode cX5_init 38 = .ok (.new 26, 3) := by decide +kernel
theorem dX5_init_41 : decode cX5_init 41 = .ok (.dup, 1) := by decide +kernel
theorem dX5_init_42 : decode cX5_init 42 = .ok (.invokespecial 28, 3) := by decide +kernel
theorem dX5_init_45 : decode cX5_init 45 = .ok (.putfield 29, 3) := by decide +kernel
theorem dX5_init_48 : decode cX5_init 48 = .ok (.return_, 1) := by decide +kernel
set_option maxRecDepth 20000 in
theorem ggX5_letter_X1_append : GoodIn wsX5_letter wsX1_append := goodIn_r _ [7, 8, 9, 17, 18] (by decide +kernel) (by decide +kernel)
set_option maxRecDepth 20000 in
theorem gX5_letter_X1_append : GoodIn wsX5_letter (wsV RX5 33 RX1 yX1_append wsX1_append) := goodIn_app (goodIn_of _ (by decide +kernel)) ggX5_letter_X1_append
theorem dX5_letter_0 : decode cX5_letter 0 = .ok (.iload_n 1, 1) := by decide +kernel
theorem dX5_letter_1 : decode cX5_letter 1 = .ok (.iconst 1, 1) := by decide +kernel
theorem dX5_letter_2 : decode cX5_letter 2 = .ok (.if_icmp .lt 9, 3) := by decide +kernel
theorem dX5_letter_5 : decode cX5_letter 5 = .ok (.iload_n 1, 1) := by decide +kernel
theorem dX5_letter_6 : decode cX5_letter 6 = .ok (.bipush 126, 2) := by decide +kernel
theorem dX5_letter_8 : decode cX5_letter 8 = .ok (.if_icmp .le 6, 3) := by decide +kernel
theorem dX5_letter_11 : decode cX5_letter 11 = .ok (.bipush (-102), 2) := by decide +kernel
theorem dX5_letter_13 : decode cX5_letter 13 = .ok (.ireturn, 1) := by decide +kernel
theorem dX5_letter_14 : decode cX5_letter 14 = .ok (.aload_n 0, 1) := by decide +kernel
theorem dX5_letter_15 : decode cX5_letter 15 = .ok (.getfield 12, 3) := by decide +kernel
theorem dX5_letter_18 : decode cX5_letter 18 = .ok (.iload_n 1, 1) := by decide +kernel
theorem dX5_letter_19 : decode cX5_letter 19 = .ok (.invokevirtual 33, 3) := by decide +kernel
theorem dX5_letter_22 : decode cX5_letter 22 = .ok (.ifCond .eq 13, 3) := by decide +kernel
theorem dX5_letter_25 : decode cX5_letter 25 = .ok (.aload_n 0, 1) := by decide +kernel
theorem dX5_letter_26 : decode cX5_letter 26 = .ok (.getfield 12, 3) := by decide +kernel
theorem dX5_letter_29 : decode cX5_letter 29 = .ok (.getfield 37, 3) := by decide +kernel
theorem dX5_letter_32 : decode cX5_letter 32 = .ok (.goto 5, 3) := by decide +kernel
theorem dX5_letter_35 : decode cX5_letter 35 = .ok (.bipush (-104), 2) := by decide +kernel
theorem dX5_letter_37 : decode cX5_letter 37 = .ok (.ireturn, 1) := by decide +kernel
theorem dX5_blank_0 : decode cX5_blank 0 = .ok (.aload_n 0, 1) := by decide +kernel
theorem dX5_blank_1 : decode cX5_blank 1 = .ok (.getfield 12, 3) := by decide +kernel
theorem dX5_blank_4 : decode cX5_blank 4 = .ok (.getfield 37, 3) := by decide +kernel
theorem dX5_blank_7 : decode cX5_blank 7 = .ok (.istore_n 1, 1) := by decide +kernel
theorem dX5_blank_8 : decode cX5_blank 8 = .ok (.aload_n 0, 1) := by decide +kernel
theorem dX5_blank_9 : decode cX5_blank 9 = .ok (.getfield 12, 3) := by decide +kernel
theorem dX5_blank_12 : decode cX5_blank 12 = .ok (.iconst 0, 1) := by decide +kernel
theorem dX5_blank_13 : decode cX5_blank 13 = .ok (.putfield 37, 3) := by decide +kernel
theorem dX5_blank_16 : decode cX5_blank 16 = .ok (.iload_n 1, 1) := by decide +kernel
theorem dX5_blank_17 : decode cX5_blank 17 = .ok (.ireturn, 1) := by decide +kernel
set_option maxRecDepth 20000 in
theorem ggX5_fault_X1_firstWrong : GoodIn wsX5_fault wsX1_firstWrong := goodIn_r _ [6, 7, 8, 9, 10, 5, 11, 12, 13, 14, 15, 16, 17, 18, 19, 20, 21, 22, 23, 24, 25, 26, 27, 28, 29, 30, 31, 32, 33, 34, 35, 36, 37, 38, 39, 40, 41, 42, 43, 44, 45, 46, 47, 48, 49, 50, 51, 52, 53, 54, 55, 56, 57, 58, 59, 60, 61, 62, 63, 64, 65, 66, 67, 68, 69, 70, 71, 72, 73, 74, 75, 76, 77, 78, 79, 80, 81, 82, 83, 84, 85, 86, 87, 88, 89, 90, 91, 92, 93, 94, 95, 96, 97, 98, 99, 100, 101, 102, 103, 104, 105, 106, 107, 108, 109, 110, 111, 112, 113, 114, 115, 116, 117, 118, 119, 120, 121, 122, 123, 124, 125, 126, 127, 128, 136, 137] (by decide +kernel) (by decide +kernel)
set_option maxRecDepth 20000 in
theorem gX5_fault_X1_firstWrong : GoodIn wsX5_fault (wsV RX5 41 RX1 yX1_firstWrong wsX1_firstWrong) := goodIn_app (goodIn_of _ (by decide +kernel)) ggX5_fault_X1_firstWrong
theorem dX5_fault_0 : decode cX5_fault 0 = .ok (.aload_n 0, 1) := by decide +kernel
theorem dX5_fault_1 : decode cX5_fault 1 = .ok (.getfield 12, 3) := by decide +kernel
theorem dX5_fault_4 : decode cX5_fault 4 = .ok (.invokevirtual 41, 3) := by decide +kernel
theorem dX5_fault_7 : decode cX5_fault 7 = .ok (.ireturn, 1) := by decide +kernel
set_option maxRecDepth 20000 in
theorem ggX5_shelf_X1_isShelf : GoodIn wsX5_shelf wsX1_isShelf := goodIn_r _ [13, 14, 15, 16, 17, 12, 18, 19, 20, 21, 22, 23, 24, 25, 26, 27, 28, 29, 30, 31, 32, 33, 34, 35, 36, 37, 38, 39, 40, 41, 42, 43, 44, 45, 46, 47, 48, 49, 50, 51, 52, 53, 54, 55, 56, 57, 58, 59, 60, 61, 62, 63, 64, 65, 66, 67, 68, 69, 70, 71, 72, 73, 74, 75, 76, 77, 78, 79, 80, 81, 82, 83, 84, 85, 86, 87, 88, 89, 90, 91, 92, 93, 94, 95, 96, 97, 98, 99, 100, 101, 102, 103, 104, 105, 106, 107, 108, 109, 110, 111, 112, 113, 114, 115, 116, 117, 118, 119, 120, 121, 122, 123, 124, 125, 126, 127, 128, 129, 130, 131, 132, 133, 134, 135, 136, 137, 138, 139, 260, 261] (by decide +kernel) (by decide +kernel)
set_option maxRecDepth 20000 in
theorem gX5_shelf_X1_isShelf : GoodIn wsX5_shelf (wsV RX5 45 RX1 yX1_isShelf wsX1_isShelf) := goodIn_app (goodIn_of _ (by decide +kernel)) ggX5_shelf_X1_isShelf
set_option maxRecDepth 20000 in
theorem ggX5_shelf_X1_digit : GoodIn wsX5_shelf wsX1_digit := goodIn_r _ [26, 27, 28, 29, 12, 30, 14, 31, 260, 261] (by decide +kernel) (by decide +kernel)
set_option maxRecDepth 20000 in
theorem gX5_shelf_X1_digit : GoodIn wsX5_shelf (wsV RX5 49 RX1 yX1_digit wsX1_digit) := goodIn_app (goodIn_of _ (by decide +kernel)) ggX5_shelf_X1_digit
set_option maxRecDepth 20000 in
theorem ggX5_shelf_X3_begin : GoodIn wsX5_shelf wsX3_begin := goodIn_r _ [145, 146, 147, 148, 149, 150, 151, 152, 153, 154, 155, 156, 157, 158, 159, 160, 161, 162, 163, 164, 165, 166, 167, 168, 169, 170, 262, 263, 264, 265, 266, 267, 268, 269, 282, 283, 284, 285, 286, 270, 271, 272, 273, 274, 275, 276, 277, 278, 279, 280, 281] (by decide +kernel) (by decide +kernel)
set_option maxRecDepth 20000 in
theorem gX5_shelf_X3_begin : GoodIn wsX5_shelf (wsV RX5 53 RX3 yX3_begin wsX3_begin) := goodIn_app (goodIn_of _ (by decide +kernel)) ggX5_shelf_X3_begin
set_option maxRecDepth 20000 in
theorem ggX5_shelf_X1_entries : GoodIn wsX5_shelf wsX1_entries := goodIn_r _ [174, 14, 260, 261] (by decide +kernel) (by decide +kernel)
set_option maxRecDepth 20000 in
theorem gX5_shelf_X1_entries : GoodIn wsX5_shelf (wsV RX5 57 RX1 yX1_entries wsX1_entries) := goodIn_app (goodIn_of _ (by decide +kernel)) ggX5_shelf_X1_entries
set_option maxRecDepth 20000 in
theorem ggX5_shelf_X1_kindOf : GoodIn wsX5_shelf wsX1_kindOf := goodIn_r _ [46, 27, 28, 29, 12, 30, 14, 31, 47, 48, 49, 50, 51, 52, 53, 54, 55, 56, 57, 58, 59, 60, 61, 62, 63, 64, 65, 66, 67, 68, 69, 70, 71, 72, 73, 74, 75, 76, 77, 78, 79, 80, 81, 82, 83, 84, 85, 86, 87, 88, 89, 90, 91, 92, 93, 94, 95, 96, 97, 98, 99, 100, 101, 102, 103, 104, 105, 106, 107, 108, 109, 110, 111, 112, 113, 114, 115, 116, 117, 118, 119, 120, 121, 122, 123, 124, 125, 126, 127, 128, 129, 130, 131, 132, 133, 134, 135, 260, 261] (by decide +kernel) (by decide +kernel)
set_option maxRecDepth 20000 in
theorem gX5_shelf_X1_kindOf : GoodIn wsX5_shelf (wsV RX5 60 RX1 yX1_kindOf wsX1_kindOf) := goodIn_app (goodIn_of _ (by decide +kernel)) ggX5_shelf_X1_kindOf
set_option maxRecDepth 20000 in
theorem ggX5_shelf_X1_keyOf : GoodIn wsX5_shelf wsX1_keyOf := goodIn_r _ [179, 23, 24, 25, 12, 26, 27, 28, 29, 30, 14, 31, 260, 261] (by decide +kernel) (by decide +kernel)
set_option maxRecDepth 20000 in
theorem gX5_shelf_X1_keyOf : GoodIn wsX5_shelf (wsV RX5 63 RX1 yX1_keyOf wsX1_keyOf) := goodIn_app (goodIn_of _ (by decide +kernel)) ggX5_shelf_X1_keyOf
set_option maxRecDepth 20000 in
theorem ggX5_shelf_X1_valueOf : GoodIn wsX5_shelf wsX1_valueOf := goodIn_r _ [183, 23, 24, 25, 12, 26, 27, 28, 29, 30, 14, 31, 260, 261] (by decide +kernel) (by decide +kernel)
set_option maxRecDepth 20000 in
theorem gX5_shelf_X1_valueOf : GoodIn wsX5_shelf (wsV RX5 66 RX1 yX1_valueOf wsX1_valueOf) := goodIn_app (goodIn_of _ (by decide +kernel)) ggX5_shelf_X1_valueOf
set_option maxRecDepth 20000 in
theorem ggX5_shelf_X3_place : GoodIn wsX5_shelf wsX3_place := goodIn_r _ [187, 188, 189, 146, 147, 152, 151, 190, 191, 192, 157, 193, 159, 194, 195, 196, 197, 198, 199, 200, 201, 202, 203, 204, 160, 205, 206, 207, 208, 209, 210, 211, 212, 163, 164, 213, 76, 77, 78, 214, 215, 216, 217, 218, 219, 80, 81, 162, 161, 220, 221, 222, 223, 224, 225, 226, 227, 228, 229, 230, 231, 232, 233, 234, 235, 236, 237, 238, 239, 165, 166, 240, 241, 242, 243, 244, 245, 246, 247, 248, 249, 250, 144, 251, 153, 252, 262, 263, 264, 265, 266, 267, 268, 269, 270, 271, 272, 273, 274, 275, 276, 277, 278, 279, 280, 281, 282, 283] (by decide +kernel) (by decide +kernel)
set_option maxRecDepth 20000 in
theorem gX5_shelf_X3_place : GoodIn wsX5_shelf (wsV RX5 69 RX3 yX3_place wsX3_place) := goodIn_app (goodIn_of _ (by decide +kernel)) ggX5_shelf_X3_place
theorem dX5_shelf_0 : decode cX5_shelf 0 = .ok (.aload_n 0, 1) := by decide +kernel
theorem dX5_shelf_1 : decode cX5_shelf 1 = .ok (.getfield 12, 3) := by decide +kernel
theorem dX5_shelf_4 : decode cX5_shelf 4 = .ok (.invokevirtual 45, 3) := by decide +kernel
theorem dX5_shelf_7 : decode cX5_shelf 7 = .ok (.ifCond .ne 6, 3) := by decide +kernel
theorem dX5_shelf_10 : decode cX5_shelf 10 = .ok (.bipush (-103), 2) := by decide +kernel
theorem dX5_shelf_12 : decode cX5_shelf 12 = .ok (.ireturn, 1) := by decide +kernel
theorem dX5_shelf_13 : decode cX5_shelf 13 = .ok (.aload_n 0, 1) := by decide +kernel
theorem dX5_shelf_14 : decode cX5_shelf 14 = .ok (.getfield 19, 3) := by decide +kernel
theorem dX5_shelf_17 : decode cX5_shelf 17 = .ok (.aload_n 0, 1) := by decide +kernel
theorem dX5_shelf_18 : decode cX5_shelf 18 = .ok (.getfield 12, 3) := by decide +kernel
theorem dX5_shelf_21 : decode cX5_shelf 21 = .ok (.iconst 0, 1) := by decide +kernel
theorem dX5_shelf_22 : decode cX5_shelf 22 = .ok (.invokevirtual 49, 3) := by decide +kernel
theorem dX5_shelf_25 : decode cX5_shelf 25 = .ok (.aload_n 0, 1) := by decide +kernel
theorem dX5_shelf_26 : decode cX5_shelf 26 = .ok (.getfield 12, 3) := by decide +kernel
theorem dX5_shelf_29 : decode cX5_shelf 29 = .ok (.iconst 1, 1) := by decide +kernel
theorem dX5_shelf_30 : decode cX5_shelf 30 = .ok (.invokevirtual 49, 3) := by decide +kernel
theorem dX5_shelf_33 : decode cX5_shelf 33 = .ok (.aload_n 0, 1) := by decide +kernel
theorem dX5_shelf_34 : decode cX5_shelf 34 = .ok (.getfield 12, 3) := by decide +kernel
theorem dX5_shelf_37 : decode cX5_shelf 37 = .ok (.iconst 3, 1) := by decide +kernel
theorem dX5_shelf_38 : decode cX5_shelf 38 = .ok (.invokevirtual 49, 3) := by decide +kernel
theorem dX5_shelf_41 : decode cX5_shelf 41 = .ok (.invokevirtual 53, 3) := by decide +kernel
theorem dX5_shelf_44 : decode cX5_shelf 44 = .ok (.aload_n 0, 1) := by decide +kernel
theorem dX5_shelf_45 : decode cX5_shelf 45 = .ok (.getfield 12, 3) := by decide +kernel
theorem dX5_shelf_48 : decode cX5_shelf 48 = .ok (.invokevirtual 57, 3) := by decide +kernel
theorem dX5_shelf_51 : decode cX5_shelf 51 = .ok (.istore_n 1, 1) := by decide +kernel
theorem dX5_shelf_52 : decode cX5_shelf 52 = .ok (.iconst 0, 1) := by decide +kernel
theorem dX5_shelf_53 : decode cX5_shelf 53 = .ok (.istore_n 2, 1) := by decide +kernel
theorem dX5_shelf_54 : decode cX5_shelf 54 = .ok (.iload_n 2, 1) := by decide +kernel
theorem dX5_shelf_55 : decode cX5_shelf 55 = .ok (.iload_n 1, 1) := by decide +kernel
theorem dX5_shelf_56 : decode cX5_shelf 56 = .ok (.if_icmp .ge 41, 3) := by decide +kernel
theorem dX5_shelf_59 : decode cX5_shelf 59 = .ok (.aload_n 0, 1) := by decide +kernel
theorem dX5_shelf_60 : decode cX5_shelf 60 = .ok (.getfield 19, 3) := by decide +kernel
theorem dX5_shelf_63 : decode cX5_shelf 63 = .ok (.aload_n 0, 1) := by decide +kernel
theorem dX5_shelf_64 : decode cX5_shelf 64 = .ok (.getfield 12, 3) := by decide +kernel
theorem dX5_shelf_67 : decode cX5_shelf 67 = .ok (.iload_n 2, 1) := by decide +kernel
theorem dX5_shelf_68 : decode cX5_shelf 68 = .ok (.invokevirtual 60, 3) := by decide +kernel
theorem dX5_shelf_71 : decode cX5_shelf 71 = .ok (.aload_n 0, 1) := by decide +kernel
theorem dX5_shelf_72 : decode cX5_shelf 72 = .ok (.getfield 12, 3) := by decide +kernel
theorem dX5_shelf_75 : decode cX5_shelf 75 = .ok (.iload_n 2, 1) := by decide +kernel
theorem dX5_shelf_76 : decode cX5_shelf 76 = .ok (.invokevirtual 63, 3) := by decide +kernel
theorem dX5_shelf_79 : decode cX5_shelf 79 = .ok (.aload_n 0, 1) := by decide +kernel
theorem dX5_shelf_80 : decode cX5_shelf 80 = .ok (.getfield 12, 3) := by decide +kernel
theorem dX5_shelf_83 : decode cX5_shelf 83 = .ok (.iload_n 2, 1) := by decide +kernel
theorem dX5_shelf_84 : decode cX5_shelf 84 = .ok (.invokevirtual 66, 3) := by decide +kernel
theorem dX5_shelf_87 : decode cX5_shelf 87 = .ok (.invokevirtual 69, 3) := by decide +kernel
theorem dX5_shelf_90 : decode cX5_shelf 90 = .ok (.pop, 1) := by decide +kernel
theorem dX5_shelf_91 : decode cX5_shelf 91 = .ok (.iinc 2 1, 3) := by decide +kernel
theorem dX5_shelf_94 : decode cX5_shelf 94 = .ok (.goto (-40), 3) := by decide +kernel
theorem dX5_shelf_97 : decode cX5_shelf 97 = .ok (.aload_n 0, 1) := by decide +kernel
theorem dX5_shelf_98 : decode cX5_shelf 98 = .ok (.getfield 12, 3) := by decide +kernel
theorem dX5_shelf_101 : decode cX5_shelf 101 = .ok (.iconst 0, 1) := by decide +kernel
theorem dX5_shelf_102 : decode cX5_shelf 102 = .ok (.putfield 37, 3) := by decide +kernel
theorem dX5_shelf_105 : decode cX5_shelf 105 = .ok (.aload_n 0, 1) := by decide +kernel
theorem dX5_shelf_106 : decode cX5_shelf 106 = .ok (.iconst 1, 1) := by decide +kernel
theorem dX5_shelf_107 : decode cX5_shelf 107 = .ok (.putfield 73, 3) := by decide +kernel
theorem dX5_shelf_110 : decode cX5_shelf 110 = .ok (.aload_n 0, 1) := by decide +kernel
theorem dX5_shelf_111 : decode cX5_shelf 111 = .ok (.iconst 0, 1) := by decide +kernel
theorem dX5_shelf_112 : decode cX5_shelf 112 = .ok (.putfield 77, 3) := by decide +kernel
theorem dX5_shelf_115 : decode cX5_shelf 115 = .ok (.aload_n 0, 1) := by decide +kernel
theorem dX5_shelf_116 : decode cX5_shelf 116 = .ok (.dup, 1) := by decide +kernel
theorem dX5_shelf_117 : decode cX5_shelf 117 = .ok (.getfield 80, 3) := by decide +kernel
theorem dX5_shelf_120 : decode cX5_shelf 120 = .ok (.iconst 1, 1) := by decide +kernel
theorem dX5_shelf_121 : decode cX5_shelf 121 = .ok (.iadd, 1) := by decide +kernel
theorem dX5_shelf_122 : decode cX5_shelf 122 = .ok (.putfield 80, 3) := by decide +kernel
theorem dX5_shelf_125 : decode cX5_shelf 125 = .ok (.aload_n 0, 1) := by decide +kernel
theorem dX5_shelf_126 : decode cX5_shelf 126 = .ok (.getfield 19, 3) := by decide +kernel
theorem dX5_shelf_129 : decode cX5_shelf 129 = .ok (.getfield 83, 3) := by decide +kernel
theorem dX5_shelf_132 : decode cX5_shelf 132 = .ok (.getfield 86, 3) := by decide +kernel
theorem dX5_shelf_135 : decode cX5_shelf 135 = .ok (.ireturn, 1) := by decide +kernel
set_option maxRecDepth 20000 in
theorem ggX5_entry_X4_has : GoodIn wsX5_entry wsX4_has := goodIn_r _ [12, 13, 51, 52, 53, 54, 55, 56, 57, 58, 59, 60, 61, 62] (by decide +kernel) (by decide +kernel)
set_option maxRecDepth 20000 in
theorem gX5_entry_X4_has : GoodIn wsX5_entry (wsV RX5 89 RX4 yX4_has wsX4_has) := goodIn_app (goodIn_of _ (by decide +kernel)) ggX5_entry_X4_has
set_option maxRecDepth 20000 in
theorem ggX5_entry_X4_walk : GoodIn wsX5_entry wsX4_walk := goodIn_r _ [17, 18, 19, 20, 21, 22, 9, 10, 11, 12, 13, 51, 52, 53, 54, 55, 56, 57, 58, 59, 60, 61, 62] (by decide +kernel) (by decide +kernel)
set_option maxRecDepth 20000 in
theorem gX5_entry_X4_walk : GoodIn wsX5_entry (wsV RX5 99 RX4 yX4_walk wsX4_walk) := goodIn_app (goodIn_of _ (by decide +kernel)) ggX5_entry_X4_walk
set_option maxRecDepth 20000 in
theorem ggX5_entry_X4_above : GoodIn wsX5_entry wsX4_above := goodIn_r _ [26, 27, 15, 16, 11, 17, 18, 19, 20, 21, 22, 9, 10, 12, 13, 28, 29, 30, 31, 51, 52, 53, 54, 55, 56, 57, 58, 59, 60, 61, 62] (by decide +kernel) (by decide +kernel)
set_option maxRecDepth 20000 in
theorem gX5_entry_X4_above : GoodIn wsX5_entry (wsV RX5 111 RX4 yX4_above wsX4_above) := goodIn_app (goodIn_of _ (by decide +kernel)) ggX5_entry_X4_above
set_option maxRecDepth 20000 in
theorem ggX5_entry_X4_lesser : GoodIn wsX5_entry wsX4_lesser := goodIn_r _ [35, 22, 9, 10, 11, 12, 13, 51, 52, 53, 54, 55, 56, 57, 58, 59, 60, 61, 62] (by decide +kernel) (by decide +kernel)
set_option maxRecDepth 20000 in
theorem gX5_entry_X4_lesser : GoodIn wsX5_entry (wsV RX5 114 RX4 yX4_lesser wsX4_lesser) := goodIn_app (goodIn_of _ (by decide +kernel)) ggX5_entry_X4_lesser
theorem dX5_entry_0 : decode cX5_entry 0 = .ok (.aload_n 0, 1) := by decide +kernel
theorem dX5_entry_1 : decode cX5_entry 1 = .ok (.getfield 19, 3) := by decide +kernel
theorem dX5_entry_4 : decode cX5_entry 4 = .ok (.getfield 83, 3) := by decide +kernel
theorem dX5_entry_7 : decode cX5_entry 7 = .ok (.astore_n 3, 1) := by decide +kernel
theorem dX5_entry_8 : decode cX5_entry 8 = .ok (.aload_n 3, 1) := by decide +kernel
theorem dX5_entry_9 : decode cX5_entry 9 = .ok (.iload_n 1, 1) := by decide +kernel
theorem dX5_entry_10 : decode cX5_entry 10 = .ok (.invokevirtual 89, 3) := by decide +kernel
theorem dX5_entry_13 : decode cX5_entry 13 = .ok (.ifCond .ne 6, 3) := by decide +kernel
theorem dX5_entry_16 : decode cX5_entry 16 = .ok (.bipush (-101), 2) := by decide +kernel
theorem dX5_entry_18 : decode cX5_entry 18 = .ok (.ireturn, 1) := by decide +kernel
theorem dX5_entry_19 : decode cX5_entry 19 = .ok (.iload_n 2, 1) := by decide +kernel
theorem dX5_entry_20 : decode cX5_entry 20 = .ok (.tableswitch 109 0 7 #[48, 58, 68, 76, 83, 90, 97, 103], 48) := by decide +kernel
theorem dX5_entry_68 : decode cX5_entry 68 = .ok (.aload_n 0, 1) := by decide +kernel
theorem dX5_entry_69 : decode cX5_entry 69 = .ok (.getfield 19, 3) := by decide +kernel
theorem dX5_entry_72 : decode cX5_entry 72 = .ok (.getfield 92, 3) := by decide +kernel
theorem dX5_entry_75 : decode cX5_entry 75 = .ok (.iload_n 1, 1) := by decide +kernel
theorem dX5_entry_76 : decode cX5_entry 76 = .ok (.iaload, 1) := by decide +kernel
theorem dX5_entry_77 : decode cX5_entry 77 = .ok (.ireturn, 1) := by decide +kernel
theorem dX5_entry_78 : decode cX5_entry 78 = .ok (.aload_n 0, 1) := by decide +kernel
theorem dX5_entry_79 : decode cX5_entry 79 = .ok (.getfield 19, 3) := by decide +kernel
theorem dX5_entry_82 : decode cX5_entry 82 = .ok (.getfield 96, 3) := by decide +kernel
theorem dX5_entry_85 : decode cX5_entry 85 = .ok (.iload_n 1, 1) := by decide +kernel
theorem dX5_entry_86 : decode cX5_entry 86 = .ok (.iaload, 1) := by decide +kernel
theorem dX5_entry_87 : decode cX5_entry 87 = .ok (.ireturn, 1) := by decide +kernel
theorem dX5_entry_88 : decode cX5_entry 88 = .ok (.aload_n 3, 1) := by decide +kernel
theorem dX5_entry_89 : decode cX5_entry 89 = .ok (.iload_n 1, 1) := by decide +kernel
theorem dX5_entry_90 : decode cX5_entry 90 = .ok (.invokevirtual 99, 3) := by decide +kernel
theorem dX5_entry_93 : decode cX5_entry 93 = .ok (.iconst 1, 1) := by decide +kernel
theorem dX5_entry_94 : decode cX5_entry 94 = .ok (.isub, 1) := by decide +kernel
theorem dX5_entry_95 : decode cX5_entry 95 = .ok (.ireturn, 1) := by decide +kernel
theorem dX5_entry_96 : decode cX5_entry 96 = .ok (.aload_n 3, 1) := by decide +kernel
theorem dX5_entry_97 : decode cX5_entry 97 = .ok (.getfield 102, 3) := by decide +kernel
theorem dX5_entry_100 : decode cX5_entry 100 = .ok (.iload_n 1, 1) := by decide +kernel
theorem dX5_entry_101 : decode cX5_entry 101 = .ok (.iaload, 1) := by decide +kernel
theorem dX5_entry_102 : decode cX5_entry 102 = .ok (.ireturn, 1) := by decide +kernel
theorem dX5_entry_103 : decode cX5_entry 103 = .ok (.aload_n 3, 1) := by decide +kernel
theorem dX5_entry_104 : decode cX5_entry 104 = .ok (.getfield 105, 3) := by decide +kernel
theorem dX5_entry_107 : decode cX5_entry 107 = .ok (.iload_n 1, 1) := by decide +kernel
theorem dX5_entry_108 : decode cX5_entry 108 = .ok (.iaload, 1) := by decide +kernel
theorem dX5_entry_109 : decode cX5_entry 109 = .ok (.ireturn, 1) := by decide +kernel
theorem dX5_entry_110 : decode cX5_entry 110 = .ok (.aload_n 3, 1) := by decide +kernel
theorem dX5_entry_111 : decode cX5_entry 111 = .ok (.getfield 108, 3) := by decide +kernel
theorem dX5_entry_114 : decode cX5_entry 114 = .ok (.iload_n 1, 1) := by decide +kernel
theorem dX5_entry_115 : decode cX5_entry 115 = .ok (.iaload, 1) := by decide +kernel
theorem dX5_entry_116 : decode cX5_entry 116 = .ok (.ireturn, 1) := by decide +kernel
theorem dX5_entry_117 : decode cX5_entry 117 = .ok (.aload_n 3, 1) := by decide +kernel
theorem dX5_entry_118 : decode cX5_entry 118 = .ok (.iload_n 1, 1) := by decide +kernel
theorem dX5_entry_119 : decode cX5_entry 119 = .ok (.invokevirtual 111, 3) := by decide +kernel
theorem dX5_entry_122 : decode cX5_entry 122 = .ok (.ireturn, 1) := by decide +kernel
theorem dX5_entry_123 : decode cX5_entry 123 = .ok (.aload_n 3, 1) := by decide +kernel
theorem dX5_entry_124 : decode cX5_entry 124 = .ok (.iload_n 1, 1) := by decide +kernel
theorem dX5_entry_125 : decode cX5_entry 125 = .ok (.invokevirtual 114, 3) := by decide +kernel
theorem dX5_entry_128 : decode cX5_entry 128 = .ok (.ireturn, 1) := by decide +kernel
theorem dX5_entry_129 : decode cX5_entry 129 = .ok (.bipush (-102), 2) := by decide +kernel
theorem dX5_entry_131 : decode cX5_entry 131 = .ok (.ireturn, 1) := by decide +kernel
set_option maxRecDepth 20000 in
theorem ggX5_as_X4_has : GoodIn wsX5_as wsX4_has := goodIn_r _ [8, 9, 29, 30, 31, 32, 33, 34, 35, 36, 37, 38, 39, 40] (by decide +kernel) (by decide +kernel)
set_option maxRecDepth 20000 in
theorem gX5_as_X4_has : GoodIn wsX5_as (wsV RX5 89 RX4 yX4_has wsX4_has) := goodIn_app (goodIn_of _ (by decide +kernel)) ggX5_as_X4_has
set_option maxRecDepth 20000 in
theorem ggX5_as_X5_isOf : GoodIn wsX5_as wsX5_isOf := goodIn_r _ [13] (by decide +kernel) (by decide +kernel)
set_option maxRecDepth 20000 in
theorem gX5_as_X5_isOf : GoodIn wsX5_as (va_wsS RX5 117 yX5_isOf wsX5_isOf) := goodIn_app (goodIn_of _ (by decide +kernel)) ggX5_as_X5_isOf
theorem dX5_as_0 : decode cX5_as 0 = .ok (.aload_n 0, 1) := by decide +kernel
theorem dX5_as_1 : decode cX5_as 1 = .ok (.getfield 19, 3) := by decide +kernel
theorem dX5_as_4 : decode cX5_as 4 = .ok (.getfield 83, 3) := by decide +kernel
theorem dX5_as_7 : decode cX5_as 7 = .ok (.iload_n 1, 1) := by decide +kernel
theorem dX5_as_8 : decode cX5_as 8 = .ok (.invokevirtual 89, 3) := by decide +kernel
theorem dX5_as_11 : decode cX5_as 11 = .ok (.ifCond .ne 6, 3) := by decide +kernel
theorem dX5_as_14 : decode cX5_as 14 = .ok (.bipush (-101), 2) := by decide +kernel
theorem dX5_as_16 : decode cX5_as 16 = .ok (.ireturn, 1) := by decide +kernel
theorem dX5_as_17 : decode cX5_as 17 = .ok (.iload_n 2, 1) := by decide +kernel
theorem dX5_as_18 : decode cX5_as 18 = .ok (.ifCond .lt 8, 3) := by decide +kernel
theorem dX5_as_21 : decode cX5_as 21 = .ok (.iload_n 2, 1) := by decide +kernel
theorem dX5_as_22 : decode cX5_as 22 = .ok (.iconst 5, 1) := by decide +kernel
theorem dX5_as_23 : decode cX5_as 23 = .ok (.if_icmp .lt 6, 3) := by decide +kernel
theorem dX5_as_26 : decode cX5_as 26 = .ok (.bipush (-102), 2) := by decide +kernel
theorem dX5_as_28 : decode cX5_as 28 = .ok (.ireturn, 1) := by decide +kernel
theorem dX5_as_29 : decode cX5_as 29 = .ok (.aload_n 0, 1) := by decide +kernel
theorem dX5_as_30 : decode cX5_as 30 = .ok (.getfield 19, 3) := by decide +kernel
theorem dX5_as_33 : decode cX5_as 33 = .ok (.getfield 92, 3) := by decide +kernel
theorem dX5_as_36 : decode cX5_as 36 = .ok (.iload_n 1, 1) := by decide +kernel
theorem dX5_as_37 : decode cX5_as 37 = .ok (.iaload, 1) := by decide +kernel
theorem dX5_as_38 : decode cX5_as 38 = .ok (.iload_n 2, 1) := by decide +kernel
theorem dX5_as_39 : decode cX5_as 39 = .ok (.invokestatic 117, 3) := by decide +kernel
theorem dX5_as_42 : decode cX5_as 42 = .ok (.ifCond .eq 7, 3) := by decide +kernel
theorem dX5_as_45 : decode cX5_as 45 = .ok (.iload_n 1, 1) := by decide +kernel
theorem dX5_as_46 : decode cX5_as 46 = .ok (.goto 4, 3) := by decide +kernel
theorem dX5_as_49 : decode cX5_as 49 = .ok (.iconst (-1), 1) := by decide +kernel
theorem dX5_as_50 : decode cX5_as 50 = .ok (.ireturn, 1) := by decide +kernel
set_option maxRecDepth 20000 in
theorem ggX5_at_X4_has : GoodIn wsX5_at wsX4_has := goodIn_r _ [7, 8, 24, 25, 26, 27, 28, 29, 30, 31, 32, 33, 34, 35] (by decide +kernel) (by decide +kernel)
set_option maxRecDepth 20000 in
theorem gX5_at_X4_has : GoodIn wsX5_at (wsV RX5 89 RX4 yX4_has wsX4_has) := goodIn_app (goodIn_of _ (by decide +kernel)) ggX5_at_X4_has
theorem dX5_at_0 : decode cX5_at 0 = .ok (.iload_n 1, 1) := by decide +kernel
theorem dX5_at_1 : decode cX5_at 1 = .ok (.istore_n 2, 1) := by decide +kernel
theorem dX5_at_2 : decode cX5_at 2 = .ok (.iconst 0, 1) := by decide +kernel
theorem dX5_at_3 : decode cX5_at 3 = .ok (.istore_n 3, 1) := by decide +kernel
theorem dX5_at_4 : decode cX5_at 4 = .ok (.iload_n 3, 1) := by decide +kernel
theorem dX5_at_5 : decode cX5_at 5 = .ok (.bipush 100, 2) := by decide +kernel
theorem dX5_at_7 : decode cX5_at 7 = .ok (.if_icmp .ge 36, 3) := by decide +kernel
theorem dX5_at_10 : decode cX5_at 10 = .ok (.iload_n 2, 1) := by decide +kernel
theorem dX5_at_11 : decode cX5_at 11 = .ok (.ifCond .lt 32, 3) := by decide +kernel
theorem dX5_at_14 : decode cX5_at 14 = .ok (.aload_n 0, 1) := by decide +kernel
theorem dX5_at_15 : decode cX5_at 15 = .ok (.getfield 19, 3) := by decide +kernel
theorem dX5_at_18 : decode cX5_at 18 = .ok (.getfield 83, 3) := by decide +kernel
theorem dX5_at_21 : decode cX5_at 21 = .ok (.iload_n 3, 1) := by decide +kernel
theorem dX5_at_22 : decode cX5_at 22 = .ok (.invokevirtual 89, 3) := by decide +kernel
theorem dX5_at_25 : decode cX5_at 25 = .ok (.ifCond .eq 12, 3) := by decide +kernel
theorem dX5_at_28 : decode cX5_at 28 = .ok (.iload_n 2, 1) := by decide +kernel
theorem dX5_at_29 : decode cX5_at 29 = .ok (.ifCond .ne 5, 3) := by decide +kernel
theorem dX5_at_32 : decode cX5_at 32 = .ok (.iload_n 3, 1) := by decide +kernel
theorem dX5_at_33 : decode cX5_at 33 = .ok (.ireturn, 1) := by decide +kernel
theorem dX5_at_34 : decode cX5_at 34 = .ok (.iinc 2 (-1), 3) := by decide +kernel
theorem dX5_at_37 : decode cX5_at 37 = .ok (.iinc 3 1, 3) := by decide +kernel
theorem dX5_at_40 : decode cX5_at 40 = .ok (.goto (-36), 3) := by decide +kernel
theorem dX5_at_43 : decode cX5_at 43 = .ok (.bipush (-101), 2) := by decide +kernel
theorem dX5_at_45 : decode cX5_at 45 = .ok (.ireturn, 1) := by decide +kernel
set_option maxRecDepth 20000 in
theorem ggX5_next_X4_has : GoodIn wsX5_next wsX4_has := goodIn_r _ [8, 9, 25, 26, 27, 28, 29, 30, 31, 32, 33, 34, 35, 36] (by decide +kernel) (by decide +kernel)
set_option maxRecDepth 20000 in
theorem gX5_next_X4_has : GoodIn wsX5_next (wsV RX5 89 RX4 yX4_has wsX4_has) := goodIn_app (goodIn_of _ (by decide +kernel)) ggX5_next_X4_has
theorem dX5_next_0 : decode cX5_next 0 = .ok (.aload_n 0, 1) := by decide +kernel
theorem dX5_next_1 : decode cX5_next 1 = .ok (.getfield 73, 3) := by decide +kernel
theorem dX5_next_4 : decode cX5_next 4 = .ok (.ifCond .ne 6, 3) := by decide +kernel
theorem dX5_next_7 : decode cX5_next 7 = .ok (.bipush (-103), 2) := by decide +kernel
theorem dX5_next_9 : decode cX5_next 9 = .ok (.ireturn, 1) := by decide +kernel
theorem dX5_next_10 : decode cX5_next 10 = .ok (.iconst 0, 1) := by decide +kernel
theorem dX5_next_11 : decode cX5_next 11 = .ok (.istore_n 2, 1) := by decide +kernel
theorem dX5_next_12 : decode cX5_next 12 = .ok (.iload_n 2, 1) := by decide +kernel
theorem dX5_next_13 : decode cX5_next 13 = .ok (.bipush 100, 2) := by decide +kernel
theorem dX5_next_15 : decode cX5_next 15 = .ok (.if_icmp .ge 30, 3) := by decide +kernel
theorem dX5_next_18 : decode cX5_next 18 = .ok (.iload_n 2, 1) := by decide +kernel
theorem dX5_next_19 : decode cX5_next 19 = .ok (.iload_n 1, 1) := by decide +kernel
theorem dX5_next_20 : decode cX5_next 20 = .ok (.if_icmp .le 19, 3) := by decide +kernel
theorem dX5_next_23 : decode cX5_next 23 = .ok (.aload_n 0, 1) := by decide +kernel
theorem dX5_next_24 : decode cX5_next 24 = .ok (.getfield 19, 3) := by decide +kernel
theorem dX5_next_27 : decode cX5_next 27 = .ok (.getfield 83, 3) := by decide +kernel
theorem dX5_next_30 : decode cX5_next 30 = .ok (.iload_n 2, 1) := by decide +kernel
theorem dX5_next_31 : decode cX5_next 31 = .ok (.invokevirtual 89, 3) := by decide +kernel
theorem dX5_next_34 : decode cX5_next 34 = .ok (.ifCond .eq 5, 3) := by decide +kernel
theorem dX5_next_37 : decode cX5_next 37 = .ok (.iload_n 2, 1) := by decide +kernel
theorem dX5_next_38 : decode cX5_next 38 = .ok (.ireturn, 1) := by decide +kernel
theorem dX5_next_39 : decode cX5_next 39 = .ok (.iinc 2 1, 3) := by decide +kernel
theorem dX5_next_42 : decode cX5_next 42 = .ok (.goto (-30), 3) := by decide +kernel
theorem dX5_next_45 : decode cX5_next 45 = .ok (.iconst (-1), 1) := by decide +kernel
theorem dX5_next_46 : decode cX5_next 46 = .ok (.ireturn, 1) := by decide +kernel
set_option maxRecDepth 20000 in
theorem ggX5_put_X5_isNoKey : GoodIn wsX5_put wsX5_isNoKey := goodIn_r _ [8] (by decide +kernel) (by decide +kernel)
set_option maxRecDepth 20000 in
theorem gX5_put_X5_isNoKey : GoodIn wsX5_put (va_wsS RX5 121 yX5_isNoKey wsX5_isNoKey) := goodIn_app (goodIn_of _ (by decide +kernel)) ggX5_put_X5_isNoKey
set_option maxRecDepth 20000 in
theorem ggX5_put_X4_has : GoodIn wsX5_put wsX4_has := goodIn_r _ [13, 14, 122, 123, 124, 125, 126, 127, 128, 129, 130, 131, 132, 133] (by decide +kernel) (by decide +kernel)
set_option maxRecDepth 20000 in
theorem gX5_put_X4_has : GoodIn wsX5_put (wsV RX5 89 RX4 yX4_has wsX4_has) := goodIn_app (goodIn_of _ (by decide +kernel)) ggX5_put_X4_has
set_option maxRecDepth 20000 in
theorem ggX5_put_X5_isAble : GoodIn wsX5_put wsX5_isAble := goodIn_r _ [17, 18] (by decide +kernel) (by decide +kernel)
set_option maxRecDepth 20000 in
theorem gX5_put_X5_isAble : GoodIn wsX5_put (va_wsS RX5 124 yX5_isAble wsX5_isAble) := goodIn_app (goodIn_of _ (by decide +kernel)) ggX5_put_X5_isAble
set_option maxRecDepth 20000 in
theorem ggX5_put_X4_isFull : GoodIn wsX5_put wsX4_isFull := goodIn_r _ [22, 23, 122, 123, 124, 125, 126, 127, 128, 129, 130, 131, 132, 133] (by decide +kernel) (by decide +kernel)
set_option maxRecDepth 20000 in
theorem gX5_put_X4_isFull : GoodIn wsX5_put (wsV RX5 127 RX4 yX4_isFull wsX4_isFull) := goodIn_app (goodIn_of _ (by decide +kernel)) ggX5_put_X4_isFull
set_option maxRecDepth 20000 in
theorem ggX5_put_X3_place : GoodIn wsX5_put wsX3_place := goodIn_r _ [28, 29, 30, 31, 32, 33, 34, 35, 10, 11, 12, 13, 14, 36, 37, 38, 39, 40, 41, 42, 43, 44, 45, 46, 47, 48, 49, 50, 51, 52, 53, 54, 55, 23, 56, 57, 58, 59, 60, 61, 62, 63, 64, 65, 66, 67, 68, 69, 70, 71, 72, 73, 74, 75, 76, 77, 78, 79, 80, 81, 82, 83, 84, 85, 86, 87, 88, 89, 90, 91, 92, 93, 94, 95, 96, 97, 98, 99, 100, 101, 102, 103, 27, 104, 105, 106, 114, 115, 116, 117, 118, 119, 120, 121, 122, 123, 124, 125, 126, 127, 128, 129, 130, 131, 132, 133, 134, 135] (by decide +kernel) (by decide +kernel)
set_option maxRecDepth 20000 in
theorem gX5_put_X3_place : GoodIn wsX5_put (wsV RX5 69 RX3 yX3_place wsX3_place) := goodIn_app (goodIn_of _ (by decide +kernel)) ggX5_put_X3_place
theorem dX5_put_0 : decode cX5_put 0 = .ok (.iload_n 1, 1) := by decide +kernel
theorem dX5_put_1 : decode cX5_put 1 = .ok (.ifCond .lt 26, 3) := by decide +kernel
theorem dX5_put_4 : decode cX5_put 4 = .ok (.iload_n 1, 1) := by decide +kernel
theorem dX5_put_5 : decode cX5_put 5 = .ok (.iconst 5, 1) := by decide +kernel
theorem dX5_put_6 : decode cX5_put 6 = .ok (.if_icmp .ge 21, 3) := by decide +kernel
theorem dX5_put_9 : decode cX5_put 9 = .ok (.iload_n 2, 1) := by decide +kernel
theorem dX5_put_10 : decode cX5_put 10 = .ok (.invokestatic 121, 3) := by decide +kernel
theorem dX5_put_13 : decode cX5_put 13 = .ok (.ifCond .ne 14, 3) := by decide +kernel
theorem dX5_put_16 : decode cX5_put 16 = .ok (.iload_n 3, 1) := by decide +kernel
theorem dX5_put_17 : decode cX5_put 17 = .ok (.ifCond .lt 10, 3) := by decide +kernel
theorem dX5_put_20 : decode cX5_put 20 = .ok (.iload_n 3, 1) := by decide +kernel
theorem dX5_put_21 : decode cX5_put 21 = .ok (.sipush 999, 3) := by decide +kernel
theorem dX5_put_24 : decode cX5_put 24 = .ok (.if_icmp .le 6, 3) := by decide +kernel
theorem dX5_put_27 : decode cX5_put 27 = .ok (.bipush (-102), 2) := by decide +kernel
theorem dX5_put_29 : decode cX5_put 29 = .ok (.ireturn, 1) := by decide +kernel
theorem dX5_put_30 : decode cX5_put 30 = .ok (.aload_n 0, 1) := by decide +kernel
theorem dX5_put_31 : decode cX5_put 31 = .ok (.getfield 73, 3) := by decide +kernel
theorem dX5_put_34 : decode cX5_put 34 = .ok (.ifCond .ne 6, 3) := by decide +kernel
theorem dX5_put_37 : decode cX5_put 37 = .ok (.bipush (-103), 2) := by decide +kernel
theorem dX5_put_39 : decode cX5_put 39 = .ok (.ireturn, 1) := by decide +kernel
theorem dX5_put_40 : decode cX5_put 40 = .ok (.aload_n 0, 1) := by decide +kernel
theorem dX5_put_41 : decode cX5_put 41 = .ok (.getfield 19, 3) := by decide +kernel
theorem dX5_put_44 : decode cX5_put 44 = .ok (.getfield 83, 3) := by decide +kernel
theorem dX5_put_47 : decode cX5_put 47 = .ok (.iload_n 2, 1) := by decide +kernel
theorem dX5_put_48 : decode cX5_put 48 = .ok (.invokevirtual 89, 3) := by decide +kernel
theorem dX5_put_51 : decode cX5_put 51 = .ok (.ifCond .eq 22, 3) := by decide +kernel
theorem dX5_put_54 : decode cX5_put 54 = .ok (.aload_n 0, 1) := by decide +kernel
theorem dX5_put_55 : decode cX5_put 55 = .ok (.getfield 19, 3) := by decide +kernel
theorem dX5_put_58 : decode cX5_put 58 = .ok (.getfield 92, 3) := by decide +kernel
theorem dX5_put_61 : decode cX5_put 61 = .ok (.iload_n 2, 1) := by decide +kernel
theorem dX5_put_62 : decode cX5_put 62 = .ok (.iaload, 1) := by decide +kernel
theorem dX5_put_63 : decode cX5_put 63 = .ok (.iconst 1, 1) := by decide +kernel
theorem dX5_put_64 : decode cX5_put 64 = .ok (.invokestatic 124, 3) := by decide +kernel
theorem dX5_put_67 : decode cX5_put 67 = .ok (.ifCond .ne 22, 3) := by decide +kernel
theorem dX5_put_70 : decode cX5_put 70 = .ok (.bipush (-103), 2) := by decide +kernel
theorem dX5_put_72 : decode cX5_put 72 = .ok (.ireturn, 1) := by decide +kernel
theorem dX5_put_73 : decode cX5_put 73 = .ok (.aload_n 0, 1) := by decide +kernel
theorem dX5_put_74 : decode cX5_put 74 = .ok (.getfield 19, 3) := by decide +kernel
theorem dX5_put_77 : decode cX5_put 77 = .ok (.getfield 83, 3) := by decide +kernel
theorem dX5_put_80 : decode cX5_put 80 = .ok (.invokevirtual 127, 3) := by decide +kernel
theorem dX5_put_83 : decode cX5_put 83 = .ok (.ifCond .eq 6, 3) := by decide +kernel
theorem dX5_put_86 : decode cX5_put 86 = .ok (.bipush (-104), 2) := by decide +kernel
theorem dX5_put_88 : decode cX5_put 88 = .ok (.ireturn, 1) := by decide +kernel
theorem dX5_put_89 : decode cX5_put 89 = .ok (.aload_n 0, 1) := by decide +kernel
theorem dX5_put_90 : decode cX5_put 90 = .ok (.getfield 19, 3) := by decide +kernel
theorem dX5_put_93 : decode cX5_put 93 = .ok (.iload_n 1, 1) := by decide +kernel
theorem dX5_put_94 : decode cX5_put 94 = .ok (.iload_n 2, 1) := by decide +kernel
theorem dX5_put_95 : decode cX5_put 95 = .ok (.iload_n 3, 1) := by decide +kernel
theorem dX5_put_96 : decode cX5_put 96 = .ok (.invokevirtual 69, 3) := by decide +kernel
theorem dX5_put_99 : decode cX5_put 99 = .ok (.ireturn, 1) := by decide +kernel
set_option maxRecDepth 20000 in
theorem ggX5_take_X4_has : GoodIn wsX5_take wsX4_has := goodIn_r _ [9, 10, 116, 117, 118, 119, 120, 121, 122, 123, 124, 125, 126, 127] (by decide +kernel) (by decide +kernel)
set_option maxRecDepth 20000 in
theorem gX5_take_X4_has : GoodIn wsX5_take (wsV RX5 89 RX4 yX4_has wsX4_has) := goodIn_app (goodIn_of _ (by decide +kernel)) ggX5_take_X4_has
set_option maxRecDepth 20000 in
theorem ggX5_take_X5_isAble : GoodIn wsX5_take wsX5_isAble := goodIn_r _ [14, 15] (by decide +kernel) (by decide +kernel)
set_option maxRecDepth 20000 in
theorem gX5_take_X5_isAble : GoodIn wsX5_take (va_wsS RX5 124 yX5_isAble wsX5_isAble) := goodIn_app (goodIn_of _ (by decide +kernel)) ggX5_take_X5_isAble
set_option maxRecDepth 20000 in
theorem ggX5_take_X3_remove : GoodIn wsX5_take wsX3_remove := goodIn_r _ [20, 21, 22, 23, 24, 25, 26, 27, 28, 29, 30, 31, 32, 33, 34, 8, 35, 36, 37, 38, 39, 40, 6, 7, 9, 10, 41, 42, 43, 44, 45, 46, 47, 48, 49, 50, 51, 52, 53, 54, 55, 56, 57, 58, 59, 60, 61, 62, 63, 64, 65, 66, 67, 68, 69, 70, 71, 72, 73, 74, 75, 76, 77, 78, 79, 80, 81, 82, 83, 84, 85, 86, 87, 88, 89, 90, 91, 92, 93, 94, 19, 95, 96, 97, 98, 99, 100, 108, 109, 110, 111, 112, 113, 114, 115, 128, 129, 116, 117, 118, 119, 120, 121, 122, 123, 124, 125, 126, 127] (by decide +kernel) (by decide +kernel)
set_option maxRecDepth 20000 in
theorem gX5_take_X3_remove : GoodIn wsX5_take (wsV RX5 130 RX3 yX3_remove wsX3_remove) := goodIn_app (goodIn_of _ (by decide +kernel)) ggX5_take_X3_remove
theorem dX5_take_0 : decode cX5_take 0 = .ok (.aload_n 0, 1) := by decide +kernel
theorem dX5_take_1 : decode cX5_take 1 = .ok (.getfield 19, 3) := by decide +kernel
theorem dX5_take_4 : decode cX5_take 4 = .ok (.getfield 83, 3) := by decide +kernel
theorem dX5_take_7 : decode cX5_take 7 = .ok (.iload_n 1, 1) := by decide +kernel
theorem dX5_take_8 : decode cX5_take 8 = .ok (.invokevirtual 89, 3) := by decide +kernel
theorem dX5_take_11 : decode cX5_take 11 = .ok (.ifCond .ne 6, 3) := by decide +kernel
theorem dX5_take_14 : decode cX5_take 14 = .ok (.bipush (-101), 2) := by decide +kernel
theorem dX5_take_16 : decode cX5_take 16 = .ok (.ireturn, 1) := by decide +kernel
theorem dX5_take_17 : decode cX5_take 17 = .ok (.aload_n 0, 1) := by decide +kernel
theorem dX5_take_18 : decode cX5_take 18 = .ok (.getfield 19, 3) := by decide +kernel
theorem dX5_take_21 : decode cX5_take 21 = .ok (.getfield 92, 3) := by decide +kernel
theorem dX5_take_24 : decode cX5_take 24 = .ok (.iload_n 1, 1) := by decide +kernel
theorem dX5_take_25 : decode cX5_take 25 = .ok (.iaload, 1) := by decide +kernel
theorem dX5_take_26 : decode cX5_take 26 = .ok (.iconst 0, 1) := by decide +kernel
theorem dX5_take_27 : decode cX5_take 27 = .ok (.invokestatic 124, 3) := by decide +kernel
theorem dX5_take_30 : decode cX5_take 30 = .ok (.ifCond .ne 6, 3) := by decide +kernel
theorem dX5_take_33 : decode cX5_take 33 = .ok (.bipush (-103), 2) := by decide +kernel
theorem dX5_take_35 : decode cX5_take 35 = .ok (.ireturn, 1) := by decide +kernel
theorem dX5_take_36 : decode cX5_take 36 = .ok (.aload_n 0, 1) := by decide +kernel
theorem dX5_take_37 : decode cX5_take 37 = .ok (.getfield 19, 3) := by decide +kernel
theorem dX5_take_40 : decode cX5_take 40 = .ok (.getfield 96, 3) := by decide +kernel
theorem dX5_take_43 : decode cX5_take 43 = .ok (.iload_n 1, 1) := by decide +kernel
theorem dX5_take_44 : decode cX5_take 44 = .ok (.iaload, 1) := by decide +kernel
theorem dX5_take_45 : decode cX5_take 45 = .ok (.istore_n 2, 1) := by decide +kernel
theorem dX5_take_46 : decode cX5_take 46 = .ok (.aload_n 0, 1) := by decide +kernel
theorem dX5_take_47 : decode cX5_take 47 = .ok (.getfield 19, 3) := by decide +kernel
theorem dX5_take_50 : decode cX5_take 50 = .ok (.iload_n 1, 1) := by decide +kernel
theorem dX5_take_51 : decode cX5_take 51 = .ok (.invokevirtual 130, 3) := by decide +kernel
theorem dX5_take_54 : decode cX5_take 54 = .ok (.iload_n 2, 1) := by decide +kernel
theorem dX5_take_55 : decode cX5_take 55 = .ok (.ireturn, 1) := by decide +kernel
set_option maxRecDepth 20000 in
theorem ggX5_tell_X4_has : GoodIn wsX5_tell wsX4_has := goodIn_r _ [13, 14, 112, 113, 114, 115, 116, 117, 118, 119, 120, 121, 122, 123] (by decide +kernel) (by decide +kernel)
set_option maxRecDepth 20000 in
theorem gX5_tell_X4_has : GoodIn wsX5_tell (wsV RX5 89 RX4 yX4_has wsX4_has) := goodIn_app (goodIn_of _ (by decide +kernel)) ggX5_tell_X4_has
set_option maxRecDepth 20000 in
theorem ggX5_tell_X3_remove : GoodIn wsX5_tell wsX3_remove := goodIn_r _ [19, 20, 21, 22, 23, 24, 25, 26, 27, 28, 29, 30, 31, 32, 33, 12, 34, 35, 36, 37, 38, 39, 10, 11, 13, 14, 40, 41, 42, 43, 44, 45, 46, 47, 48, 49, 50, 51, 52, 53, 54, 55, 56, 57, 58, 59, 60, 61, 62, 63, 64, 65, 66, 67, 68, 69, 70, 71, 72, 73, 74, 75, 76, 77, 78, 79, 80, 81, 82, 83, 84, 85, 86, 87, 88, 89, 90, 91, 92, 93, 18, 94, 95, 96, 6, 7, 8, 104, 105, 106, 107, 108, 109, 110, 111, 124, 125, 112, 113, 114, 115, 116, 117, 118, 119, 120, 121, 122, 123] (by decide +kernel) (by decide +kernel)
set_option maxRecDepth 20000 in
theorem gX5_tell_X3_remove : GoodIn wsX5_tell (wsV RX5 130 RX3 yX3_remove wsX3_remove) := goodIn_app (goodIn_of _ (by decide +kernel)) ggX5_tell_X3_remove
theorem dX5_tell_0 : decode cX5_tell 0 = .ok (.aload_n 0, 1) := by decide +kernel
theorem dX5_tell_1 : decode cX5_tell 1 = .ok (.getfield 19, 3) := by decide +kernel
theorem dX5_tell_4 : decode cX5_tell 4 = .ok (.getfield 83, 3) := by decide +kernel
theorem dX5_tell_7 : decode cX5_tell 7 = .ok (.iload_n 1, 1) := by decide +kernel
theorem dX5_tell_8 : decode cX5_tell 8 = .ok (.invokevirtual 89, 3) := by decide +kernel
theorem dX5_tell_11 : decode cX5_tell 11 = .ok (.ifCond .ne 6, 3) := by decide +kernel
theorem dX5_tell_14 : decode cX5_tell 14 = .ok (.bipush (-101), 2) := by decide +kernel
theorem dX5_tell_16 : decode cX5_tell 16 = .ok (.ireturn, 1) := by decide +kernel
theorem dX5_tell_17 : decode cX5_tell 17 = .ok (.aload_n 0, 1) := by decide +kernel
theorem dX5_tell_18 : decode cX5_tell 18 = .ok (.getfield 19, 3) := by decide +kernel
theorem dX5_tell_21 : decode cX5_tell 21 = .ok (.getfield 96, 3) := by decide +kernel
theorem dX5_tell_24 : decode cX5_tell 24 = .ok (.iload_n 1, 1) := by decide +kernel
theorem dX5_tell_25 : decode cX5_tell 25 = .ok (.iaload, 1) := by decide +kernel
theorem dX5_tell_26 : decode cX5_tell 26 = .ok (.istore_n 2, 1) := by decide +kernel
theorem dX5_tell_27 : decode cX5_tell 27 = .ok (.aload_n 0, 1) := by decide +kernel
theorem dX5_tell_28 : decode cX5_tell 28 = .ok (.getfield 19, 3) := by decide +kernel
theorem dX5_tell_31 : decode cX5_tell 31 = .ok (.getfield 92, 3) := by decide +kernel
theorem dX5_tell_34 : decode cX5_tell 34 = .ok (.iload_n 1, 1) := by decide +kernel
theorem dX5_tell_35 : decode cX5_tell 35 = .ok (.iaload, 1) := by decide +kernel
theorem dX5_tell_36 : decode cX5_tell 36 = .ok (.iconst 2, 1) := by decide +kernel
theorem dX5_tell_37 : decode cX5_tell 37 = .ok (.if_icmp .ne 24, 3) := by decide +kernel
theorem dX5_tell_40 : decode cX5_tell 40 = .ok (.aload_n 0, 1) := by decide +kernel
theorem dX5_tell_41 : decode cX5_tell 41 = .ok (.getfield 19, 3) := by decide +kernel
theorem dX5_tell_44 : decode cX5_tell 44 = .ok (.getfield 96, 3) := by decide +kernel
theorem dX5_tell_47 : decode cX5_tell 47 = .ok (.iload_n 1, 1) := by decide +kernel
theorem dX5_tell_48 : decode cX5_tell 48 = .ok (.iload_n 2, 1) := by decide +kernel
theorem dX5_tell_49 : decode cX5_tell 49 = .ok (.iconst 1, 1) := by decide +kernel
theorem dX5_tell_50 : decode cX5_tell 50 = .ok (.iadd, 1) := by decide +kernel
theorem dX5_tell_51 : decode cX5_tell 51 = .ok (.sipush 999, 3) := by decide +kernel
theorem dX5_tell_54 : decode cX5_tell 54 = .ok (.invokestatic 134, 3) := by decide +kernel
theorem dX5_tell_57 : decode cX5_tell 57 = .ok (.iastore, 1) := by decide +kernel
theorem dX5_tell_58 : decode cX5_tell 58 = .ok (.goto 24, 3) := by decide +kernel
theorem dX5_tell_61 : decode cX5_tell 61 = .ok (.aload_n 0, 1) := by decide +kernel
theorem dX5_tell_62 : decode cX5_tell 62 = .ok (.getfield 19, 3) := by decide +kernel
theorem dX5_tell_65 : decode cX5_tell 65 = .ok (.getfield 92, 3) := by decide +kernel
theorem dX5_tell_68 : decode cX5_tell 68 = .ok (.iload_n 1, 1) := by decide +kernel
theorem dX5_tell_69 : decode cX5_tell 69 = .ok (.iaload, 1) := by decide +kernel
theorem dX5_tell_70 : decode cX5_tell 70 = .ok (.iconst 3, 1) := by decide +kernel
theorem dX5_tell_71 : decode cX5_tell 71 = .ok (.if_icmp .ne 11, 3) := by decide +kernel
theorem dX5_tell_74 : decode cX5_tell 74 = .ok (.aload_n 0, 1) := by decide +kernel
theorem dX5_tell_75 : decode cX5_tell 75 = .ok (.getfield 19, 3) := by decide +kernel
theorem dX5_tell_78 : decode cX5_tell 78 = .ok (.iload_n 1, 1) := by decide +kernel
theorem dX5_tell_79 : decode cX5_tell 79 = .ok (.invokevirtual 130, 3) := by decide +kernel
theorem dX5_tell_82 : decode cX5_tell 82 = .ok (.iload_n 2, 1) := by decide +kernel
theorem dX5_tell_83 : decode cX5_tell 83 = .ok (.ireturn, 1) := by decide +kernel
set_option maxRecDepth 20000 in
theorem ggX5_flatten_X4_buildAll : GoodIn wsX5_flatten wsX4_buildAll := goodIn_r _ [9, 10, 11, 12, 13, 14, 8, 15, 16, 17, 18, 19, 20, 21, 22, 23, 24, 25, 26, 27, 28, 29, 30, 31, 32, 33, 34, 35, 36, 63, 64, 65, 66, 67, 68, 69, 70, 71, 72, 73, 74] (by decide +kernel) (by decide +kernel)
set_option maxRecDepth 20000 in
theorem gX5_flatten_X4_buildAll : GoodIn wsX5_flatten (wsV RX5 140 RX4 yX4_buildAll wsX4_buildAll) := goodIn_app (goodIn_of _ (by decide +kernel)) ggX5_flatten_X4_buildAll
set_option maxRecDepth 20000 in
theorem ggX5_flatten_X3_settle : GoodIn wsX5_flatten wsX3_settle := goodIn_r _ [41, 42, 43, 44, 45, 46, 47, 55, 56, 57, 58, 59, 60, 61, 62] (by decide +kernel) (by decide +kernel)
set_option maxRecDepth 20000 in
theorem gX5_flatten_X3_settle : GoodIn wsX5_flatten (wsV RX5 143 RX3 yX3_settle wsX3_settle) := goodIn_app (goodIn_of _ (by decide +kernel)) ggX5_flatten_X3_settle
theorem dX5_flatten_0 : decode cX5_flatten 0 = .ok (.aload_n 0, 1) := by decide +kernel
theorem dX5_flatten_1 : decode cX5_flatten 1 = .ok (.getfield 73, 3) := by decide +kernel
theorem dX5_flatten_4 : decode cX5_flatten 4 = .ok (.ifCond .ne 6, 3) := by decide +kernel
theorem dX5_flatten_7 : decode cX5_flatten 7 = .ok (.bipush (-103), 2) := by decide +kernel
theorem dX5_flatten_9 : decode cX5_flatten 9 = .ok (.ireturn, 1) := by decide +kernel
theorem dX5_flatten_10 : decode cX5_flatten 10 = .ok (.aload_n 0, 1) := by decide +kernel
theorem dX5_flatten_11 : decode cX5_flatten 11 = .ok (.getfield 19, 3) := by decide +kernel
theorem dX5_flatten_14 : decode cX5_flatten 14 = .ok (.aload_n 0, 1) := by decide +kernel
theorem dX5_flatten_15 : decode cX5_flatten 15 = .ok (.getfield 19, 3) := by decide +kernel
theorem dX5_flatten_18 : decode cX5_flatten 18 = .ok (.getfield 83, 3) := by decide +kernel
theorem dX5_flatten_21 : decode cX5_flatten 21 = .ok (.invokevirtual 140, 3) := by decide +kernel
theorem dX5_flatten_24 : decode cX5_flatten 24 = .ok (.invokevirtual 143, 3) := by decide +kernel
theorem dX5_flatten_27 : decode cX5_flatten 27 = .ok (.aload_n 0, 1) := by decide +kernel
theorem dX5_flatten_28 : decode cX5_flatten 28 = .ok (.getfield 19, 3) := by decide +kernel
theorem dX5_flatten_31 : decode cX5_flatten 31 = .ok (.getfield 83, 3) := by decide +kernel
theorem dX5_flatten_34 : decode cX5_flatten 34 = .ok (.getfield 86, 3) := by decide +kernel
theorem dX5_flatten_37 : decode cX5_flatten 37 = .ok (.ireturn, 1) := by decide +kernel
set_option maxRecDepth 20000 in
theorem ggX5_ledger_X4_tall : GoodIn wsX5_ledger wsX4_tall := goodIn_r _ [15, 16, 17, 18, 19, 20, 21, 22, 14, 23, 24, 25, 26, 27, 28, 29, 30, 31, 32, 54, 55, 56, 57, 58, 59, 60, 61, 62, 63, 64, 65] (by decide +kernel) (by decide +kernel)
set_option maxRecDepth 20000 in
theorem gX5_ledger_X4_tall : GoodIn wsX5_ledger (wsV RX5 146 RX4 yX4_tall wsX4_tall) := goodIn_app (goodIn_of _ (by decide +kernel)) ggX5_ledger_X4_tall
set_option maxRecDepth 20000 in
theorem ggX5_ledger_X4_limit : GoodIn wsX5_ledger wsX4_limit := goodIn_r _ [36, 37, 38, 54, 55, 56, 57, 58, 59, 60, 61, 62, 63, 64, 65] (by decide +kernel) (by decide +kernel)
set_option maxRecDepth 20000 in
theorem gX5_ledger_X4_limit : GoodIn wsX5_ledger (wsV RX5 149 RX4 yX4_limit wsX4_limit) := goodIn_app (goodIn_of _ (by decide +kernel)) ggX5_ledger_X4_limit
theorem dX5_ledger_0 : decode cX5_ledger 0 = .ok (.iload_n 1, 1) := by decide +kernel
theorem dX5_ledger_1 : decode cX5_ledger 1 = .ok (.ifCond .lt 9, 3) := by decide +kernel
theorem dX5_ledger_4 : decode cX5_ledger 4 = .ok (.iload_n 1, 1) := by decide +kernel
theorem dX5_ledger_5 : decode cX5_ledger 5 = .ok (.bipush 6, 2) := by decide +kernel
theorem dX5_ledger_7 : decode cX5_ledger 7 = .ok (.if_icmp .le 6, 3) := by decide +kernel
theorem dX5_ledger_10 : decode cX5_ledger 10 = .ok (.bipush (-102), 2) := by decide +kernel
theorem dX5_ledger_12 : decode cX5_ledger 12 = .ok (.ireturn, 1) := by decide +kernel
theorem dX5_ledger_13 : decode cX5_ledger 13 = .ok (.aload_n 0, 1) := by decide +kernel
theorem dX5_ledger_14 : decode cX5_ledger 14 = .ok (.getfield 73, 3) := by decide +kernel
theorem dX5_ledger_17 : decode cX5_ledger 17 = .ok (.ifCond .ne 6, 3) := by decide +kernel
theorem dX5_ledger_20 : decode cX5_ledger 20 = .ok (.bipush (-103), 2) := by decide +kernel
theorem dX5_ledger_22 : decode cX5_ledger 22 = .ok (.ireturn, 1) := by decide +kernel
theorem dX5_ledger_23 : decode cX5_ledger 23 = .ok (.iload_n 1, 1) := by decide +kernel
theorem dX5_ledger_24 : decode cX5_ledger 24 = .ok (.tableswitch 116 0 5 #[40, 51, 72, 83, 94, 105], 40) := by decide +kernel
theorem dX5_ledger_64 : decode cX5_ledger 64 = .ok (.aload_n 0, 1) := by decide +kernel
theorem dX5_ledger_65 : decode cX5_ledger 65 = .ok (.getfield 19, 3) := by decide +kernel
theorem dX5_ledger_68 : decode cX5_ledger 68 = .ok (.getfield 83, 3) := by decide +kernel
theorem dX5_ledger_71 : decode cX5_ledger 71 = .ok (.invokevirtual 146, 3) := by decide +kernel
theorem dX5_ledger_74 : decode cX5_ledger 74 = .ok (.ireturn, 1) := by decide +kernel
theorem dX5_ledger_75 : decode cX5_ledger 75 = .ok (.aload_n 0, 1) := by decide +kernel
theorem dX5_ledger_76 : decode cX5_ledger 76 = .ok (.getfield 19, 3) := by decide +kernel
theorem dX5_ledger_79 : decode cX5_ledger 79 = .ok (.getfield 83, 3) := by decide +kernel
theorem dX5_ledger_82 : decode cX5_ledger 82 = .ok (.aload_n 0, 1) := by decide +kernel
theorem dX5_ledger_83 : decode cX5_ledger 83 = .ok (.getfield 19, 3) := by decide +kernel
theorem dX5_ledger_86 : decode cX5_ledger 86 = .ok (.getfield 83, 3) := by decide +kernel
theorem dX5_ledger_89 : decode cX5_ledger 89 = .ok (.getfield 86, 3) := by decide +kernel
theorem dX5_ledger_92 : decode cX5_ledger 92 = .ok (.invokevirtual 149, 3) := by decide +kernel
theorem dX5_ledger_95 : decode cX5_ledger 95 = .ok (.ireturn, 1) := by decide +kernel
theorem dX5_ledger_96 : decode cX5_ledger 96 = .ok (.aload_n 0, 1) := by decide +kernel
theorem dX5_ledger_97 : decode cX5_ledger 97 = .ok (.getfield 19, 3) := by decide +kernel
theorem dX5_ledger_100 : decode cX5_ledger 100 = .ok (.getfield 83, 3) := by decide +kernel
theorem dX5_ledger_103 : decode cX5_ledger 103 = .ok (.getfield 152, 3) := by decide +kernel
theorem dX5_ledger_106 : decode cX5_ledger 106 = .ok (.ireturn, 1) := by decide +kernel
theorem dX5_ledger_107 : decode cX5_ledger 107 = .ok (.aload_n 0, 1) := by decide +kernel
theorem dX5_ledger_108 : decode cX5_ledger 108 = .ok (.getfield 19, 3) := by decide +kernel
theorem dX5_ledger_111 : decode cX5_ledger 111 = .ok (.getfield 155, 3) := by decide +kernel
theorem dX5_ledger_114 : decode cX5_ledger 114 = .ok (.ldc 158, 2) := by decide +kernel
theorem dX5_ledger_116 : decode cX5_ledger 116 = .ok (.iadd, 1) := by decide +kernel
theorem dX5_ledger_117 : decode cX5_ledger 117 = .ok (.ireturn, 1) := by decide +kernel
theorem dX5_ledger_118 : decode cX5_ledger 118 = .ok (.aload_n 0, 1) := by decide +kernel
theorem dX5_ledger_119 : decode cX5_ledger 119 = .ok (.getfield 19, 3) := by decide +kernel
theorem dX5_ledger_122 : decode cX5_ledger 122 = .ok (.getfield 159, 3) := by decide +kernel
theorem dX5_ledger_125 : decode cX5_ledger 125 = .ok (.ldc 158, 2) := by decide +kernel
theorem dX5_ledger_127 : decode cX5_ledger 127 = .ok (.iadd, 1) := by decide +kernel
theorem dX5_ledger_128 : decode cX5_ledger 128 = .ok (.ireturn, 1) := by decide +kernel
theorem dX5_ledger_129 : decode cX5_ledger 129 = .ok (.aload_n 0, 1) := by decide +kernel
theorem dX5_ledger_130 : decode cX5_ledger 130 = .ok (.getfield 19, 3) := by decide +kernel
theorem dX5_ledger_133 : decode cX5_ledger 133 = .ok (.getfield 83, 3) := by decide +kernel
theorem dX5_ledger_136 : decode cX5_ledger 136 = .ok (.getfield 162, 3) := by decide +kernel
theorem dX5_ledger_139 : decode cX5_ledger 139 = .ok (.ireturn, 1) := by decide +kernel
theorem dX5_ledger_140 : decode cX5_ledger 140 = .ok (.aload_n 0, 1) := by decide +kernel
theorem dX5_ledger_141 : decode cX5_ledger 141 = .ok (.getfield 19, 3) := by decide +kernel
theorem dX5_ledger_144 : decode cX5_ledger 144 = .ok (.getfield 83, 3) := by decide +kernel
theorem dX5_ledger_147 : decode cX5_ledger 147 = .ok (.getfield 165, 3) := by decide +kernel
theorem dX5_ledger_150 : decode cX5_ledger 150 = .ok (.ireturn, 1) := by decide +kernel
set_option maxRecDepth 20000 in
theorem ggX5_would_X5_isNoKey : GoodIn wsX5_would wsX5_isNoKey := goodIn_r _ [7] (by decide +kernel) (by decide +kernel)
set_option maxRecDepth 20000 in
theorem gX5_would_X5_isNoKey : GoodIn wsX5_would (va_wsS RX5 121 yX5_isNoKey wsX5_isNoKey) := goodIn_app (goodIn_of _ (by decide +kernel)) ggX5_would_X5_isNoKey
set_option maxRecDepth 20000 in
theorem ggX5_would_X4_isFull : GoodIn wsX5_would wsX4_isFull := goodIn_r _ [12, 13, 64, 65, 66, 67, 68, 69, 70, 71, 72, 73, 74, 75] (by decide +kernel) (by decide +kernel)
set_option maxRecDepth 20000 in
theorem gX5_would_X4_isFull : GoodIn wsX5_would (wsV RX5 127 RX4 yX4_isFull wsX4_isFull) := goodIn_app (goodIn_of _ (by decide +kernel)) ggX5_would_X4_isFull
set_option maxRecDepth 20000 in
theorem ggX5_would_X4_has : GoodIn wsX5_would wsX4_has := goodIn_r _ [17, 18, 64, 65, 66, 67, 68, 69, 70, 71, 72, 73, 74, 75] (by decide +kernel) (by decide +kernel)
set_option maxRecDepth 20000 in
theorem gX5_would_X4_has : GoodIn wsX5_would (wsV RX5 89 RX4 yX4_has wsX4_has) := goodIn_app (goodIn_of _ (by decide +kernel)) ggX5_would_X4_has
set_option maxRecDepth 20000 in
theorem ggX5_would_X4_wouldBuild : GoodIn wsX5_would wsX4_wouldBuild := goodIn_r _ [22, 18, 23, 24, 25, 26, 11, 27, 28, 29, 30, 31, 15, 16, 17, 32, 33, 34, 35, 13, 36, 37, 38, 39, 40, 41, 42, 43, 44, 45, 46, 47, 48, 64, 65, 66, 67, 68, 69, 70, 71, 72, 73, 74, 75] (by decide +kernel) (by decide +kernel)
set_option maxRecDepth 20000 in
theorem gX5_would_X4_wouldBuild : GoodIn wsX5_would (wsV RX5 168 RX4 yX4_wouldBuild wsX4_wouldBuild) := goodIn_app (goodIn_of _ (by decide +kernel)) ggX5_would_X4_wouldBuild
theorem dX5_would_0 : decode cX5_would 0 = .ok (.iload_n 1, 1) := by decide +kernel
theorem dX5_would_1 : decode cX5_would 1 = .ok (.invokestatic 121, 3) := by decide +kernel
theorem dX5_would_4 : decode cX5_would 4 = .ok (.ifCond .eq 6, 3) := by decide +kernel
theorem dX5_would_7 : decode cX5_would 7 = .ok (.bipush (-102), 2) := by decide +kernel
theorem dX5_would_9 : decode cX5_would 9 = .ok (.ireturn, 1) := by decide +kernel
theorem dX5_would_10 : decode cX5_would 10 = .ok (.aload_n 0, 1) := by decide +kernel
theorem dX5_would_11 : decode cX5_would 11 = .ok (.getfield 73, 3) := by decide +kernel
theorem dX5_would_14 : decode cX5_would 14 = .ok (.ifCond .eq 16, 3) := by decide +kernel
theorem dX5_would_17 : decode cX5_would 17 = .ok (.aload_n 0, 1) := by decide +kernel
theorem dX5_would_18 : decode cX5_would 18 = .ok (.getfield 19, 3) := by decide +kernel
theorem dX5_would_21 : decode cX5_would 21 = .ok (.getfield 83, 3) := by decide +kernel
theorem dX5_would_24 : decode cX5_would 24 = .ok (.invokevirtual 127, 3) := by decide +kernel
theorem dX5_would_27 : decode cX5_would 27 = .ok (.ifCond .eq 6, 3) := by decide +kernel
theorem dX5_would_30 : decode cX5_would 30 = .ok (.bipush (-103), 2) := by decide +kernel
theorem dX5_would_32 : decode cX5_would 32 = .ok (.ireturn, 1) := by decide +kernel
theorem dX5_would_33 : decode cX5_would 33 = .ok (.aload_n 0, 1) := by decide +kernel
theorem dX5_would_34 : decode cX5_would 34 = .ok (.getfield 19, 3) := by decide +kernel
theorem dX5_would_37 : decode cX5_would 37 = .ok (.getfield 83, 3) := by decide +kernel
theorem dX5_would_40 : decode cX5_would 40 = .ok (.iload_n 1, 1) := by decide +kernel
theorem dX5_would_41 : decode cX5_would 41 = .ok (.invokevirtual 89, 3) := by decide +kernel
theorem dX5_would_44 : decode cX5_would 44 = .ok (.ifCond .eq 7, 3) := by decide +kernel
theorem dX5_would_47 : decode cX5_would 47 = .ok (.iconst (-1), 1) := by decide +kernel
theorem dX5_would_48 : decode cX5_would 48 = .ok (.goto 14, 3) := by decide +kernel
theorem dX5_would_51 : decode cX5_would 51 = .ok (.aload_n 0, 1) := by decide +kernel
theorem dX5_would_52 : decode cX5_would 52 = .ok (.getfield 19, 3) := by decide +kernel
theorem dX5_would_55 : decode cX5_would 55 = .ok (.getfield 83, 3) := by decide +kernel
theorem dX5_would_58 : decode cX5_would 58 = .ok (.iload_n 1, 1) := by decide +kernel
theorem dX5_would_59 : decode cX5_would 59 = .ok (.invokevirtual 168, 3) := by decide +kernel
theorem dX5_would_62 : decode cX5_would 62 = .ok (.ireturn, 1) := by decide +kernel
set_option maxRecDepth 20000 in
theorem ggX5_dear_X4_isFull : GoodIn wsX5_dear wsX4_isFull := goodIn_r _ [8, 9, 60, 61, 62, 63, 64, 65, 66, 67, 68, 69, 70, 71] (by decide +kernel) (by decide +kernel)
set_option maxRecDepth 20000 in
theorem gX5_dear_X4_isFull : GoodIn wsX5_dear (wsV RX5 127 RX4 yX4_isFull wsX4_isFull) := goodIn_app (goodIn_of _ (by decide +kernel)) ggX5_dear_X4_isFull
set_option maxRecDepth 20000 in
theorem ggX5_dear_X4_has : GoodIn wsX5_dear wsX4_has := goodIn_r _ [13, 14, 60, 61, 62, 63, 64, 65, 66, 67, 68, 69, 70, 71] (by decide +kernel) (by decide +kernel)
set_option maxRecDepth 20000 in
theorem gX5_dear_X4_has : GoodIn wsX5_dear (wsV RX5 89 RX4 yX4_has wsX4_has) := goodIn_app (goodIn_of _ (by decide +kernel)) ggX5_dear_X4_has
set_option maxRecDepth 20000 in
theorem ggX5_dear_X4_wouldBuild : GoodIn wsX5_dear wsX4_wouldBuild := goodIn_r _ [18, 14, 19, 20, 21, 22, 7, 23, 24, 25, 26, 27, 11, 12, 13, 28, 29, 30, 31, 9, 32, 33, 34, 35, 36, 37, 38, 39, 40, 41, 42, 43, 44, 60, 61, 62, 63, 64, 65, 66, 67, 68, 69, 70, 71] (by decide +kernel) (by decide +kernel)
set_option maxRecDepth 20000 in
theorem gX5_dear_X4_wouldBuild : GoodIn wsX5_dear (wsV RX5 168 RX4 yX4_wouldBuild wsX4_wouldBuild) := goodIn_app (goodIn_of _ (by decide +kernel)) ggX5_dear_X4_wouldBuild
theorem dX5_dear_0 : decode cX5_dear 0 = .ok (.iload_n 1, 1) := by decide +kernel
theorem dX5_dear_1 : decode cX5_dear 1 = .ok (.ifCond .lt 8, 3) := by decide +kernel
theorem dX5_dear_4 : decode cX5_dear 4 = .ok (.iload_n 1, 1) := by decide +kernel
theorem dX5_dear_5 : decode cX5_dear 5 = .ok (.iconst 1, 1) := by decide +kernel
theorem dX5_dear_6 : decode cX5_dear 6 = .ok (.if_icmp .le 6, 3) := by decide +kernel
theorem dX5_dear_9 : decode cX5_dear 9 = .ok (.bipush (-102), 2) := by decide +kernel
theorem dX5_dear_11 : decode cX5_dear 11 = .ok (.ireturn, 1) := by decide +kernel
theorem dX5_dear_12 : decode cX5_dear 12 = .ok (.aload_n 0, 1) := by decide +kernel
theorem dX5_dear_13 : decode cX5_dear 13 = .ok (.getfield 73, 3) := by decide +kernel
theorem dX5_dear_16 : decode cX5_dear 16 = .ok (.ifCond .ne 6, 3) := by decide +kernel
theorem dX5_dear_19 : decode cX5_dear 19 = .ok (.bipush (-103), 2) := by decide +kernel
theorem dX5_dear_21 : decode cX5_dear 21 = .ok (.ireturn, 1) := by decide +kernel
theorem dX5_dear_22 : decode cX5_dear 22 = .ok (.aload_n 0, 1) := by decide +kernel
theorem dX5_dear_23 : decode cX5_dear 23 = .ok (.getfield 19, 3) := by decide +kernel
theorem dX5_dear_26 : decode cX5_dear 26 = .ok (.getfield 83, 3) := by decide +kernel
theorem dX5_dear_29 : decode cX5_dear 29 = .ok (.invokevirtual 127, 3) := by decide +kernel
theorem dX5_dear_32 : decode cX5_dear 32 = .ok (.ifCond .eq 5, 3) := by decide +kernel
theorem dX5_dear_35 : decode cX5_dear 35 = .ok (.iconst (-1), 1) := by decide +kernel
theorem dX5_dear_36 : decode cX5_dear 36 = .ok (.ireturn, 1) := by decide +kernel
theorem dX5_dear_37 : decode cX5_dear 37 = .ok (.iconst (-1), 1) := by decide +kernel
theorem dX5_dear_38 : decode cX5_dear 38 = .ok (.istore_n 2, 1) := by decide +kernel
theorem dX5_dear_39 : decode cX5_dear 39 = .ok (.iconst (-1), 1) := by decide +kernel
theorem dX5_dear_40 : decode cX5_dear 40 = .ok (.istore_n 3, 1) := by decide +kernel
theorem dX5_dear_41 : decode cX5_dear 41 = .ok (.iconst 0, 1) := by decide +kernel
theorem dX5_dear_42 : decode cX5_dear 42 = .ok (.istore 4, 2) := by decide +kernel
theorem dX5_dear_44 : decode cX5_dear 44 = .ok (.iload 4, 2) := by decide +kernel
theorem dX5_dear_46 : decode cX5_dear 46 = .ok (.bipush 100, 2) := by decide +kernel
theorem dX5_dear_48 : decode cX5_dear 48 = .ok (.if_icmp .ge 54, 3) := by decide +kernel
theorem dX5_dear_51 : decode cX5_dear 51 = .ok (.aload_n 0, 1) := by decide +kernel
theorem dX5_dear_52 : decode cX5_dear 52 = .ok (.getfield 19, 3) := by decide +kernel
theorem dX5_dear_55 : decode cX5_dear 55 = .ok (.getfield 83, 3) := by decide +kernel
theorem dX5_dear_58 : decode cX5_dear 58 = .ok (.iload 4, 2) := by decide +kernel
theorem dX5_dear_60 : decode cX5_dear 60 = .ok (.invokevirtual 89, 3) := by decide +kernel
theorem dX5_dear_63 : decode cX5_dear 63 = .ok (.ifCond .eq 7, 3) := by decide +kernel
theorem dX5_dear_66 : decode cX5_dear 66 = .ok (.iconst (-1), 1) := by decide +kernel
theorem dX5_dear_67 : decode cX5_dear 67 = .ok (.goto 15, 3) := by decide +kernel
theorem dX5_dear_70 : decode cX5_dear 70 = .ok (.aload_n 0, 1) := by decide +kernel
theorem dX5_dear_71 : decode cX5_dear 71 = .ok (.getfield 19, 3) := by decide +kernel
theorem dX5_dear_74 : decode cX5_dear 74 = .ok (.getfield 83, 3) := by decide +kernel
theorem dX5_dear_77 : decode cX5_dear 77 = .ok (.iload 4, 2) := by decide +kernel
theorem dX5_dear_79 : decode cX5_dear 79 = .ok (.invokevirtual 168, 3) := by decide +kernel
theorem dX5_dear_82 : decode cX5_dear 82 = .ok (.istore 5, 2) := by decide +kernel
theorem dX5_dear_84 : decode cX5_dear 84 = .ok (.iload 5, 2) := by decide +kernel
theorem dX5_dear_86 : decode cX5_dear 86 = .ok (.iload_n 3, 1) := by decide +kernel
theorem dX5_dear_87 : decode cX5_dear 87 = .ok (.if_icmp .le 9, 3) := by decide +kernel
theorem dX5_dear_90 : decode cX5_dear 90 = .ok (.iload 4, 2) := by decide +kernel
theorem dX5_dear_92 : decode cX5_dear 92 = .ok (.istore_n 2, 1) := by decide +kernel
theorem dX5_dear_93 : decode cX5_dear 93 = .ok (.iload 5, 2) := by decide +kernel
theorem dX5_dear_95 : decode cX5_dear 95 = .ok (.istore_n 3, 1) := by decide +kernel
theorem dX5_dear_96 : decode cX5_dear 96 = .ok (.iinc 4 1, 3) := by decide +kernel
theorem dX5_dear_99 : decode cX5_dear 99 = .ok (.goto (-55), 3) := by decide +kernel
theorem dX5_dear_102 : decode cX5_dear 102 = .ok (.iload_n 1, 1) := by decide +kernel
theorem dX5_dear_103 : decode cX5_dear 103 = .ok (.ifCond .ne 7, 3) := by decide +kernel
theorem dX5_dear_106 : decode cX5_dear 106 = .ok (.iload_n 2, 1) := by decide +kernel
theorem dX5_dear_107 : decode cX5_dear 107 = .ok (.goto 4, 3) := by decide +kernel
theorem dX5_dear_110 : decode cX5_dear 110 = .ok (.iload_n 3, 1) := by decide +kernel
theorem dX5_dear_111 : decode cX5_dear 111 = .ok (.ireturn, 1) := by decide +kernel
set_option maxRecDepth 20000 in
theorem ggX5_replay_X5_isRatio : GoodIn wsX5_replay wsX5_isRatio := goodIn_r _ [11] (by decide +kernel) (by decide +kernel)
set_option maxRecDepth 20000 in
theorem gX5_replay_X5_isRatio : GoodIn wsX5_replay (va_wsS RX5 171 yX5_isRatio wsX5_isRatio) := goodIn_app (goodIn_of _ (by decide +kernel)) ggX5_replay_X5_isRatio
set_option maxRecDepth 20000 in
theorem ggX5_replay_X4_begin : GoodIn wsX5_replay wsX4_begin := goodIn_r _ [16, 17, 18, 19, 20, 21, 22, 23, 24, 25, 26, 27, 28, 132, 133, 134, 135, 136, 137, 138, 139, 140, 141, 142, 143] (by decide +kernel) (by decide +kernel)
set_option maxRecDepth 20000 in
theorem gX5_replay_X4_begin : GoodIn wsX5_replay (wsV RX5 174 RX4 yX4_begin wsX4_begin) := goodIn_app (goodIn_of _ (by decide +kernel)) ggX5_replay_X4_begin
set_option maxRecDepth 20000 in
theorem ggX5_replay_X4_turn : GoodIn wsX5_replay wsX4_turn := goodIn_r _ [32, 33, 34, 35, 15, 36, 17, 37, 38, 39, 40, 21, 22, 41, 42, 43, 44, 18, 45, 46, 47, 48, 49, 50, 51, 52, 53, 54, 55, 56, 57, 58, 59, 60, 61, 62, 63, 64, 65, 66, 67, 68, 69, 70, 71, 20, 19, 72, 73, 74, 75, 76, 77, 78, 79, 23, 24, 80, 81, 82, 83, 84, 85, 86, 87, 88, 89, 90, 91, 92, 93, 94, 95, 96, 97, 98, 99, 100, 101, 102, 103, 104, 105, 106, 107, 108, 109, 110, 132, 133, 134, 135, 136, 137, 138, 139, 140, 141, 142, 143] (by decide +kernel) (by decide +kernel)
set_option maxRecDepth 20000 in
theorem gX5_replay_X4_turn : GoodIn wsX5_replay (wsV RX5 187 RX4 yX4_turn wsX4_turn) := goodIn_app (goodIn_of _ (by decide +kernel)) ggX5_replay_X4_turn
set_option maxRecDepth 20000 in
theorem ggX5_replay_X4_tall : GoodIn wsX5_replay wsX4_tall := goodIn_r _ [114, 96, 97, 98, 99, 33, 34, 35, 15, 36, 17, 41, 42, 43, 44, 18, 45, 46, 47, 132, 133, 134, 135, 136, 137, 138, 139, 140, 141, 142, 143] (by decide +kernel) (by decide +kernel)
set_option maxRecDepth 20000 in
theorem gX5_replay_X4_tall : GoodIn wsX5_replay (wsV RX5 146 RX4 yX4_tall wsX4_tall) := goodIn_app (goodIn_of _ (by decide +kernel)) ggX5_replay_X4_tall
theorem dX5_replay_0 : decode cX5_replay 0 = .ok (.iload_n 1, 1) := by decide +kernel
theorem dX5_replay_1 : decode cX5_replay 1 = .ok (.iload_n 2, 1) := by decide +kernel
theorem dX5_replay_2 : decode cX5_replay 2 = .ok (.invokestatic 171, 3) := by decide +kernel
theorem dX5_replay_5 : decode cX5_replay 5 = .ok (.ifCond .eq 12, 3) := by decide +kernel
theorem dX5_replay_8 : decode cX5_replay 8 = .ok (.iload_n 3, 1) := by decide +kernel
theorem dX5_replay_9 : decode cX5_replay 9 = .ok (.ifCond .lt 8, 3) := by decide +kernel
theorem dX5_replay_12 : decode cX5_replay 12 = .ok (.iload_n 3, 1) := by decide +kernel
theorem dX5_replay_13 : decode cX5_replay 13 = .ok (.iconst 1, 1) := by decide +kernel
theorem dX5_replay_14 : decode cX5_replay 14 = .ok (.if_icmp .le 6, 3) := by decide +kernel
theorem dX5_replay_17 : decode cX5_replay 17 = .ok (.bipush (-102), 2) := by decide +kernel
theorem dX5_replay_19 : decode cX5_replay 19 = .ok (.ireturn, 1) := by decide +kernel
theorem dX5_replay_20 : decode cX5_replay 20 = .ok (.aload_n 0, 1) := by decide +kernel
theorem dX5_replay_21 : decode cX5_replay 21 = .ok (.getfield 73, 3) := by decide +kernel
theorem dX5_replay_24 : decode cX5_replay 24 = .ok (.ifCond .ne 6, 3) := by decide +kernel
theorem dX5_replay_27 : decode cX5_replay 27 = .ok (.bipush (-103), 2) := by decide +kernel
theorem dX5_replay_29 : decode cX5_replay 29 = .ok (.ireturn, 1) := by decide +kernel
theorem dX5_replay_30 : decode cX5_replay 30 = .ok (.aload_n 0, 1) := by decide +kernel
theorem dX5_replay_31 : decode cX5_replay 31 = .ok (.getfield 29, 3) := by decide +kernel
theorem dX5_replay_34 : decode cX5_replay 34 = .ok (.iload_n 1, 1) := by decide +kernel
theorem dX5_replay_35 : decode cX5_replay 35 = .ok (.iload_n 2, 1) := by decide +kernel
theorem dX5_replay_36 : decode cX5_replay 36 = .ok (.invokevirtual 174, 3) := by decide +kernel
theorem dX5_replay_39 : decode cX5_replay 39 = .ok (.iconst 0, 1) := by decide +kernel
theorem dX5_replay_40 : decode cX5_replay 40 = .ok (.istore 4, 2) := by decide +kernel
theorem dX5_replay_42 : decode cX5_replay 42 = .ok (.iload 4, 2) := by decide +kernel
theorem dX5_replay_44 : decode cX5_replay 44 = .ok (.aload_n 0, 1) := by decide +kernel
theorem dX5_replay_45 : decode cX5_replay 45 = .ok (.getfield 19, 3) := by decide +kernel
theorem dX5_replay_48 : decode cX5_replay 48 = .ok (.getfield 177, 3) := by decide +kernel
theorem dX5_replay_51 : decode cX5_replay 51 = .ok (.getfield 181, 3) := by decide +kernel
theorem dX5_replay_54 : decode cX5_replay 54 = .ok (.if_icmp .ge 29, 3) := by decide +kernel
theorem dX5_replay_57 : decode cX5_replay 57 = .ok (.aload_n 0, 1) := by decide +kernel
theorem dX5_replay_58 : decode cX5_replay 58 = .ok (.getfield 29, 3) := by decide +kernel
theorem dX5_replay_61 : decode cX5_replay 61 = .ok (.aload_n 0, 1) := by decide +kernel
theorem dX5_replay_62 : decode cX5_replay 62 = .ok (.getfield 19, 3) := by decide +kernel
theorem dX5_replay_65 : decode cX5_replay 65 = .ok (.getfield 177, 3) := by decide +kernel
theorem dX5_replay_68 : decode cX5_replay 68 = .ok (.getfield 184, 3) := by decide +kernel
theorem dX5_replay_71 : decode cX5_replay 71 = .ok (.iload 4, 2) := by decide +kernel
theorem dX5_replay_73 : decode cX5_replay 73 = .ok (.iaload, 1) := by decide +kernel
theorem dX5_replay_74 : decode cX5_replay 74 = .ok (.invokevirtual 187, 3) := by decide +kernel
theorem dX5_replay_77 : decode cX5_replay 77 = .ok (.iinc 4 1, 3) := by decide +kernel
theorem dX5_replay_80 : decode cX5_replay 80 = .ok (.goto (-38), 3) := by decide +kernel
theorem dX5_replay_83 : decode cX5_replay 83 = .ok (.iload_n 3, 1) := by decide +kernel
theorem dX5_replay_84 : decode cX5_replay 84 = .ok (.ifCond .ne 13, 3) := by decide +kernel
theorem dX5_replay_87 : decode cX5_replay 87 = .ok (.aload_n 0, 1) := by decide +kernel
theorem dX5_replay_88 : decode cX5_replay 88 = .ok (.getfield 29, 3) := by decide +kernel
theorem dX5_replay_91 : decode cX5_replay 91 = .ok (.getfield 165, 3) := by decide +kernel
theorem dX5_replay_94 : decode cX5_replay 94 = .ok (.goto 10, 3) := by decide +kernel
theorem dX5_replay_97 : decode cX5_replay 97 = .ok (.aload_n 0, 1) := by decide +kernel
theorem dX5_replay_98 : decode cX5_replay 98 = .ok (.getfield 29, 3) := by decide +kernel
theorem dX5_replay_101 : decode cX5_replay 101 = .ok (.invokevirtual 146, 3) := by decide +kernel
theorem dX5_replay_104 : decode cX5_replay 104 = .ok (.ireturn, 1) := by decide +kernel
set_option maxRecDepth 20000 in
theorem ggX5_ahead_X4_isFew : GoodIn wsX5_ahead wsX4_isFew := goodIn_r _ [9, 10, 11, 12, 28, 29, 30, 31, 32, 33, 34, 35, 36, 37, 38, 39] (by decide +kernel) (by decide +kernel)
set_option maxRecDepth 20000 in
theorem gX5_ahead_X4_isFew : GoodIn wsX5_ahead (wsV RX5 190 RX4 yX4_isFew wsX4_isFew) := goodIn_app (goodIn_of _ (by decide +kernel)) ggX5_ahead_X4_isFew
theorem dX5_ahead_0 : decode cX5_ahead 0 = .ok (.aload_n 0, 1) := by decide +kernel
theorem dX5_ahead_1 : decode cX5_ahead 1 = .ok (.getfield 73, 3) := by decide +kernel
theorem dX5_ahead_4 : decode cX5_ahead 4 = .ok (.ifCond .ne 6, 3) := by decide +kernel
theorem dX5_ahead_7 : decode cX5_ahead 7 = .ok (.bipush (-103), 2) := by decide +kernel
theorem dX5_ahead_9 : decode cX5_ahead 9 = .ok (.ireturn, 1) := by decide +kernel
theorem dX5_ahead_10 : decode cX5_ahead 10 = .ok (.aload_n 0, 1) := by decide +kernel
theorem dX5_ahead_11 : decode cX5_ahead 11 = .ok (.getfield 19, 3) := by decide +kernel
theorem dX5_ahead_14 : decode cX5_ahead 14 = .ok (.getfield 83, 3) := by decide +kernel
theorem dX5_ahead_17 : decode cX5_ahead 17 = .ok (.getfield 86, 3) := by decide +kernel
theorem dX5_ahead_20 : decode cX5_ahead 20 = .ok (.istore_n 1, 1) := by decide +kernel
theorem dX5_ahead_21 : decode cX5_ahead 21 = .ok (.iload_n 1, 1) := by decide +kernel
theorem dX5_ahead_22 : decode cX5_ahead 22 = .ok (.iconst 1, 1) := by decide +kernel
theorem dX5_ahead_23 : decode cX5_ahead 23 = .ok (.isub, 1) := by decide +kernel
theorem dX5_ahead_24 : decode cX5_ahead 24 = .ok (.istore_n 2, 1) := by decide +kernel
theorem dX5_ahead_25 : decode cX5_ahead 25 = .ok (.iload_n 2, 1) := by decide +kernel
theorem dX5_ahead_26 : decode cX5_ahead 26 = .ok (.ifCond .le 27, 3) := by decide +kernel
theorem dX5_ahead_29 : decode cX5_ahead 29 = .ok (.aload_n 0, 1) := by decide +kernel
theorem dX5_ahead_30 : decode cX5_ahead 30 = .ok (.getfield 19, 3) := by decide +kernel
theorem dX5_ahead_33 : decode cX5_ahead 33 = .ok (.getfield 83, 3) := by decide +kernel
theorem dX5_ahead_36 : decode cX5_ahead 36 = .ok (.iload_n 2, 1) := by decide +kernel
theorem dX5_ahead_37 : decode cX5_ahead 37 = .ok (.invokevirtual 190, 3) := by decide +kernel
theorem dX5_ahead_40 : decode cX5_ahead 40 = .ok (.ifCond .eq 7, 3) := by decide +kernel
theorem dX5_ahead_43 : decode cX5_ahead 43 = .ok (.iload_n 1, 1) := by decide +kernel
theorem dX5_ahead_44 : decode cX5_ahead 44 = .ok (.iload_n 2, 1) := by decide +kernel
theorem dX5_ahead_45 : decode cX5_ahead 45 = .ok (.isub, 1) := by decide +kernel
theorem dX5_ahead_46 : decode cX5_ahead 46 = .ok (.ireturn, 1) := by decide +kernel
theorem dX5_ahead_47 : decode cX5_ahead 47 = .ok (.iinc 2 (-1), 3) := by decide +kernel
theorem dX5_ahead_50 : decode cX5_ahead 50 = .ok (.goto (-25), 3) := by decide +kernel
theorem dX5_ahead_53 : decode cX5_ahead 53 = .ok (.iconst (-1), 1) := by decide +kernel
theorem dX5_ahead_54 : decode cX5_ahead 54 = .ok (.ireturn, 1) := by decide +kernel
set_option maxRecDepth 20000 in
theorem ggX5_see_X5_isNoKey : GoodIn wsX5_see wsX5_isNoKey := goodIn_r _ [9] (by decide +kernel) (by decide +kernel)
set_option maxRecDepth 20000 in
theorem gX5_see_X5_isNoKey : GoodIn wsX5_see (va_wsS RX5 121 yX5_isNoKey wsX5_isNoKey) := goodIn_app (goodIn_of _ (by decide +kernel)) ggX5_see_X5_isNoKey
set_option maxRecDepth 20000 in
theorem ggX5_see_X2_add : GoodIn wsX5_see wsX2_add := goodIn_r _ [14, 15, 16, 17, 33, 34, 35] (by decide +kernel) (by decide +kernel)
set_option maxRecDepth 20000 in
theorem gX5_see_X2_add : GoodIn wsX5_see (wsV RX5 200 RX2 yX2_add wsX2_add) := goodIn_app (goodIn_of _ (by decide +kernel)) ggX5_see_X2_add
theorem dX5_see_0 : decode cX5_see 0 = .ok (.iload_n 1, 1) := by decide +kernel
theorem dX5_see_1 : decode cX5_see 1 = .ok (.invokestatic 121, 3) := by decide +kernel
theorem dX5_see_4 : decode cX5_see 4 = .ok (.ifCond .ne 15, 3) := by decide +kernel
theorem dX5_see_7 : decode cX5_see 7 = .ok (.iload_n 2, 1) := by decide +kernel
theorem dX5_see_8 : decode cX5_see 8 = .ok (.ifCond .lt 11, 3) := by decide +kernel
theorem dX5_see_11 : decode cX5_see 11 = .ok (.iload_n 2, 1) := by decide +kernel
theorem dX5_see_12 : decode cX5_see 12 = .ok (.getstatic 193, 3) := by decide +kernel
theorem dX5_see_15 : decode cX5_see 15 = .ok (.arraylength, 1) := by decide +kernel
theorem dX5_see_16 : decode cX5_see 16 = .ok (.if_icmp .lt 6, 3) := by decide +kernel
theorem dX5_see_19 : decode cX5_see 19 = .ok (.bipush (-102), 2) := by decide +kernel
theorem dX5_see_21 : decode cX5_see 21 = .ok (.ireturn, 1) := by decide +kernel
theorem dX5_see_22 : decode cX5_see 22 = .ok (.aload_n 0, 1) := by decide +kernel
theorem dX5_see_23 : decode cX5_see 23 = .ok (.getfield 73, 3) := by decide +kernel
theorem dX5_see_26 : decode cX5_see 26 = .ok (.ifCond .ne 6, 3) := by decide +kernel
theorem dX5_see_29 : decode cX5_see 29 = .ok (.bipush (-103), 2) := by decide +kernel
theorem dX5_see_31 : decode cX5_see 31 = .ok (.ireturn, 1) := by decide +kernel
theorem dX5_see_32 : decode cX5_see 32 = .ok (.iload_n 3, 1) := by decide +kernel
theorem dX5_see_33 : decode cX5_see 33 = .ok (.ifCond .eq 11, 3) := by decide +kernel
theorem dX5_see_36 : decode cX5_see 36 = .ok (.getstatic 193, 3) := by decide +kernel
theorem dX5_see_39 : decode cX5_see 39 = .ok (.iload_n 2, 1) := by decide +kernel
theorem dX5_see_40 : decode cX5_see 40 = .ok (.iaload, 1) := by decide +kernel
theorem dX5_see_41 : decode cX5_see 41 = .ok (.goto 13, 3) := by decide +kernel
theorem dX5_see_44 : decode cX5_see 44 = .ok (.bipush 31, 2) := by decide +kernel
theorem dX5_see_46 : decode cX5_see 46 = .ok (.getstatic 193, 3) := by decide +kernel
theorem dX5_see_49 : decode cX5_see 49 = .ok (.iload_n 2, 1) := by decide +kernel
theorem dX5_see_50 : decode cX5_see 50 = .ok (.iaload, 1) := by decide +kernel
theorem dX5_see_51 : decode cX5_see 51 = .ok (.iconst (-1), 1) := by decide +kernel
theorem dX5_see_52 : decode cX5_see 52 = .ok (.ixor, 1) := by decide +kernel
theorem dX5_see_53 : decode cX5_see 53 = .ok (.iand, 1) := by decide +kernel
theorem dX5_see_54 : decode cX5_see 54 = .ok (.istore 4, 2) := by decide +kernel
theorem dX5_see_56 : decode cX5_see 56 = .ok (.aload_n 0, 1) := by decide +kernel
theorem dX5_see_57 : decode cX5_see 57 = .ok (.getfield 19, 3) := by decide +kernel
theorem dX5_see_60 : decode cX5_see 60 = .ok (.getfield 196, 3) := by decide +kernel
theorem dX5_see_63 : decode cX5_see 63 = .ok (.iload_n 1, 1) := by decide +kernel
theorem dX5_see_64 : decode cX5_see 64 = .ok (.iload 4, 2) := by decide +kernel
theorem dX5_see_66 : decode cX5_see 66 = .ok (.invokevirtual 200, 3) := by decide +kernel
theorem dX5_see_69 : decode cX5_see 69 = .ok (.ifCond .eq 16, 3) := by decide +kernel
theorem dX5_see_72 : decode cX5_see 72 = .ok (.aload_n 0, 1) := by decide +kernel
theorem dX5_see_73 : decode cX5_see 73 = .ok (.getfield 19, 3) := by decide +kernel
theorem dX5_see_76 : decode cX5_see 76 = .ok (.getfield 196, 3) := by decide +kernel
theorem dX5_see_79 : decode cX5_see 79 = .ok (.getfield 205, 3) := by decide +kernel
theorem dX5_see_82 : decode cX5_see 82 = .ok (.goto 5, 3) := by decide +kernel
theorem dX5_see_85 : decode cX5_see 85 = .ok (.bipush (-104), 2) := by decide +kernel
theorem dX5_see_87 : decode cX5_see 87 = .ok (.ireturn, 1) := by decide +kernel
theorem dX5_forget_0 : decode cX5_forget 0 = .ok (.aload_n 0, 1) := by decide +kernel
theorem dX5_forget_1 : decode cX5_forget 1 = .ok (.getfield 19, 3) := by decide +kernel
theorem dX5_forget_4 : decode cX5_forget 4 = .ok (.getfield 196, 3) := by decide +kernel
theorem dX5_forget_7 : decode cX5_forget 7 = .ok (.getfield 205, 3) := by decide +kernel
theorem dX5_forget_10 : decode cX5_forget 10 = .ok (.istore_n 1, 1) := by decide +kernel
theorem dX5_forget_11 : decode cX5_forget 11 = .ok (.aload_n 0, 1) := by decide +kernel
theorem dX5_forget_12 : decode cX5_forget 12 = .ok (.getfield 19, 3) := by decide +kernel
theorem dX5_forget_15 : decode cX5_forget 15 = .ok (.getfield 196, 3) := by decide +kernel
theorem dX5_forget_18 : decode cX5_forget 18 = .ok (.iconst 0, 1) := by decide +kernel
theorem dX5_forget_19 : decode cX5_forget 19 = .ok (.putfield 205, 3) := by decide +kernel
theorem dX5_forget_22 : decode cX5_forget 22 = .ok (.iload_n 1, 1) := by decide +kernel
theorem dX5_forget_23 : decode cX5_forget 23 = .ok (.ireturn, 1) := by decide +kernel
set_option maxRecDepth 20000 in
theorem ggX5_sorts_X5_isNoKey : GoodIn wsX5_sorts wsX5_isNoKey := goodIn_r _ [6] (by decide +kernel) (by decide +kernel)
set_option maxRecDepth 20000 in
theorem gX5_sorts_X5_isNoKey : GoodIn wsX5_sorts (va_wsS RX5 121 yX5_isNoKey wsX5_isNoKey) := goodIn_app (goodIn_of _ (by decide +kernel)) ggX5_sorts_X5_isNoKey
set_option maxRecDepth 20000 in
theorem ggX5_sorts_X2_sortsOf : GoodIn wsX5_sorts wsX2_sortsOf := goodIn_r _ [11, 12, 13, 14, 45, 46, 47] (by decide +kernel) (by decide +kernel)
set_option maxRecDepth 20000 in
theorem gX5_sorts_X2_sortsOf : GoodIn wsX5_sorts (wsV RX5 206 RX2 yX2_sortsOf wsX2_sortsOf) := goodIn_app (goodIn_of _ (by decide +kernel)) ggX5_sorts_X2_sortsOf
set_option maxRecDepth 20000 in
theorem ggX5_sorts_X5_bestAsk : GoodIn wsX5_sorts wsX5_bestAsk := goodIn_r _ [17, 18, 19, 20, 21, 22, 23, 24, 25, 26, 27, 28, 29] (by decide +kernel) (by decide +kernel)
set_option maxRecDepth 20000 in
theorem gX5_sorts_X5_bestAsk : GoodIn wsX5_sorts (va_wsS RX5 209 yX5_bestAsk wsX5_bestAsk) := goodIn_app (goodIn_of _ (by decide +kernel)) ggX5_sorts_X5_bestAsk
theorem dX5_sorts_0 : decode cX5_sorts 0 = .ok (.iload_n 1, 1) := by decide +kernel
theorem dX5_sorts_1 : decode cX5_sorts 1 = .ok (.invokestatic 121, 3) := by decide +kernel
theorem dX5_sorts_4 : decode cX5_sorts 4 = .ok (.ifCond .ne 12, 3) := by decide +kernel
theorem dX5_sorts_7 : decode cX5_sorts 7 = .ok (.iload_n 2, 1) := by decide +kernel
theorem dX5_sorts_8 : decode cX5_sorts 8 = .ok (.ifCond .lt 8, 3) := by decide +kernel
theorem dX5_sorts_11 : decode cX5_sorts 11 = .ok (.iload_n 2, 1) := by decide +kernel
theorem dX5_sorts_12 : decode cX5_sorts 12 = .ok (.iconst 1, 1) := by decide +kernel
theorem dX5_sorts_13 : decode cX5_sorts 13 = .ok (.if_icmp .le 6, 3) := by decide +kernel
theorem dX5_sorts_16 : decode cX5_sorts 16 = .ok (.bipush (-102), 2) := by decide +kernel
theorem dX5_sorts_18 : decode cX5_sorts 18 = .ok (.ireturn, 1) := by decide +kernel
theorem dX5_sorts_19 : decode cX5_sorts 19 = .ok (.aload_n 0, 1) := by decide +kernel
theorem dX5_sorts_20 : decode cX5_sorts 20 = .ok (.getfield 19, 3) := by decide +kernel
theorem dX5_sorts_23 : decode cX5_sorts 23 = .ok (.getfield 196, 3) := by decide +kernel
theorem dX5_sorts_26 : decode cX5_sorts 26 = .ok (.iload_n 1, 1) := by decide +kernel
theorem dX5_sorts_27 : decode cX5_sorts 27 = .ok (.invokevirtual 206, 3) := by decide +kernel
theorem dX5_sorts_30 : decode cX5_sorts 30 = .ok (.istore_n 3, 1) := by decide +kernel
theorem dX5_sorts_31 : decode cX5_sorts 31 = .ok (.iload_n 2, 1) := by decide +kernel
theorem dX5_sorts_32 : decode cX5_sorts 32 = .ok (.ifCond .ne 7, 3) := by decide +kernel
theorem dX5_sorts_35 : decode cX5_sorts 35 = .ok (.iload_n 3, 1) := by decide +kernel
theorem dX5_sorts_36 : decode cX5_sorts 36 = .ok (.goto 7, 3) := by decide +kernel
theorem dX5_sorts_39 : decode cX5_sorts 39 = .ok (.iload_n 3, 1) := by decide +kernel
theorem dX5_sorts_40 : decode cX5_sorts 40 = .ok (.invokestatic 209, 3) := by decide +kernel
theorem dX5_sorts_43 : decode cX5_sorts 43 = .ok (.ireturn, 1) := by decide +kernel
set_option maxRecDepth 20000 in
theorem ggX5_drawn_X4_copy : GoodIn wsX5_drawn wsX4_copy := goodIn_r _ [15, 16, 17, 18, 19, 20, 21, 22, 23, 24, 25, 26, 27, 28, 29, 129, 130, 131, 132, 133, 134, 135, 136, 137, 138, 139, 140] (by decide +kernel) (by decide +kernel)
set_option maxRecDepth 20000 in
theorem gX5_drawn_X4_copy : GoodIn wsX5_drawn (wsV RX5 212 RX4 yX4_copy wsX4_copy) := goodIn_app (goodIn_of _ (by decide +kernel)) ggX5_drawn_X4_copy
set_option maxRecDepth 20000 in
theorem ggX5_drawn_X4_turn : GoodIn wsX5_drawn wsX4_turn := goodIn_r _ [33, 34, 35, 36, 14, 37, 22, 38, 39, 40, 41, 26, 27, 42, 43, 44, 45, 23, 46, 16, 21, 47, 48, 49, 50, 51, 52, 53, 54, 55, 56, 57, 58, 59, 60, 61, 62, 63, 64, 65, 66, 67, 68, 69, 70, 25, 24, 71, 72, 73, 74, 75, 76, 77, 78, 28, 29, 79, 80, 81, 82, 83, 84, 85, 86, 87, 88, 89, 90, 91, 92, 93, 94, 95, 96, 97, 98, 99, 100, 101, 102, 103, 104, 105, 106, 107, 108, 109, 129, 130, 131, 132, 133, 134, 135, 136, 137, 138, 139, 140] (by decide +kernel) (by decide +kernel)
set_option maxRecDepth 20000 in
theorem gX5_drawn_X4_turn : GoodIn wsX5_drawn (wsV RX5 187 RX4 yX4_turn wsX4_turn) := goodIn_app (goodIn_of _ (by decide +kernel)) ggX5_drawn_X4_turn
set_option maxRecDepth 20000 in
theorem ggX5_drawn_X4_tall : GoodIn wsX5_drawn wsX4_tall := goodIn_r _ [113, 95, 96, 97, 98, 34, 35, 36, 14, 37, 22, 42, 43, 44, 45, 23, 46, 16, 21, 129, 130, 131, 132, 133, 134, 135, 136, 137, 138, 139, 140] (by decide +kernel) (by decide +kernel)
set_option maxRecDepth 20000 in
theorem gX5_drawn_X4_tall : GoodIn wsX5_drawn (wsV RX5 146 RX4 yX4_tall wsX4_tall) := goodIn_app (goodIn_of _ (by decide +kernel)) ggX5_drawn_X4_tall
theorem dX5_drawn_0 : decode cX5_drawn 0 = .ok (.iload_n 1, 1) := by decide +kernel
theorem dX5_drawn_1 : decode cX5_drawn 1 = .ok (.iconst 1, 1) := by decide +kernel
theorem dX5_drawn_2 : decode cX5_drawn 2 = .ok (.if_icmp .lt 22, 3) := by decide +kernel
theorem dX5_drawn_5 : decode cX5_drawn 5 = .ok (.iload_n 1, 1) := by decide +kernel
theorem dX5_drawn_6 : decode cX5_drawn 6 = .ok (.bipush 60, 2) := by decide +kernel
theorem dX5_drawn_8 : decode cX5_drawn 8 = .ok (.if_icmp .gt 16, 3) := by decide +kernel
theorem dX5_drawn_11 : decode cX5_drawn 11 = .ok (.iload_n 2, 1) := by decide +kernel
theorem dX5_drawn_12 : decode cX5_drawn 12 = .ok (.ifCond .lt 12, 3) := by decide +kernel
theorem dX5_drawn_15 : decode cX5_drawn 15 = .ok (.iload_n 3, 1) := by decide +kernel
theorem dX5_drawn_16 : decode cX5_drawn 16 = .ok (.ifCond .lt 8, 3) := by decide +kernel
theorem dX5_drawn_19 : decode cX5_drawn 19 = .ok (.iload_n 3, 1) := by decide +kernel
theorem dX5_drawn_20 : decode cX5_drawn 20 = .ok (.iconst 2, 1) := by decide +kernel
theorem dX5_drawn_21 : decode cX5_drawn 21 = .ok (.if_icmp .le 6, 3) := by decide +kernel
theorem dX5_drawn_24 : decode cX5_drawn 24 = .ok (.bipush (-102), 2) := by decide +kernel
theorem dX5_drawn_26 : decode cX5_drawn 26 = .ok (.ireturn, 1) := by decide +kernel
theorem dX5_drawn_27 : decode cX5_drawn 27 = .ok (.aload_n 0, 1) := by decide +kernel
theorem dX5_drawn_28 : decode cX5_drawn 28 = .ok (.getfield 73, 3) := by decide +kernel
theorem dX5_drawn_31 : decode cX5_drawn 31 = .ok (.ifCond .ne 6, 3) := by decide +kernel
theorem dX5_drawn_34 : decode cX5_drawn 34 = .ok (.bipush (-103), 2) := by decide +kernel
theorem dX5_drawn_36 : decode cX5_drawn 36 = .ok (.ireturn, 1) := by decide +kernel
theorem dX5_drawn_37 : decode cX5_drawn 37 = .ok (.aload_n 0, 1) := by decide +kernel
theorem dX5_drawn_38 : decode cX5_drawn 38 = .ok (.getfield 29, 3) := by decide +kernel
theorem dX5_drawn_41 : decode cX5_drawn 41 = .ok (.aload_n 0, 1) := by decide +kernel
theorem dX5_drawn_42 : decode cX5_drawn 42 = .ok (.getfield 19, 3) := by decide +kernel
theorem dX5_drawn_45 : decode cX5_drawn 45 = .ok (.getfield 83, 3) := by decide +kernel
theorem dX5_drawn_48 : decode cX5_drawn 48 = .ok (.invokevirtual 212, 3) := by decide +kernel
theorem dX5_drawn_51 : decode cX5_drawn 51 = .ok (.iload_n 2, 1) := by decide +kernel
theorem dX5_drawn_52 : decode cX5_drawn 52 = .ok (.i2l, 1) := by decide +kernel
theorem dX5_drawn_53 : decode cX5_drawn 53 = .ok (.lstore 4, 2) := by decide +kernel
theorem dX5_drawn_55 : decode cX5_drawn 55 = .ok (.iconst 0, 1) := by decide +kernel
theorem dX5_drawn_56 : decode cX5_drawn 56 = .ok (.istore 6, 2) := by decide +kernel
theorem dX5_drawn_58 : decode cX5_drawn 58 = .ok (.iload 6, 2) := by decide +kernel
theorem dX5_drawn_60 : decode cX5_drawn 60 = .ok (.iload_n 1, 1) := by decide +kernel
theorem dX5_drawn_61 : decode cX5_drawn 61 = .ok (.if_icmp .ge 43, 3) := by decide +kernel
theorem dX5_drawn_64 : decode cX5_drawn 64 = .ok (.ldc2_w 216, 3) := by decide +kernel
theorem dX5_drawn_67 : decode cX5_drawn 67 = .ok (.lload 4, 2) := by decide +kernel
theorem dX5_drawn_69 : decode cX5_drawn 69 = .ok (.lmul, 1) := by decide +kernel
theorem dX5_drawn_70 : decode cX5_drawn 70 = .ok (.ldc2_w 218, 3) := by decide +kernel
theorem dX5_drawn_73 : decode cX5_drawn 73 = .ok (.ladd, 1) := by decide +kernel
theorem dX5_drawn_74 : decode cX5_drawn 74 = .ok (.ldc2_w 220, 3) := by decide +kernel
theorem dX5_drawn_77 : decode cX5_drawn 77 = .ok (.lrem, 1) := by decide +kernel
theorem dX5_drawn_78 : decode cX5_drawn 78 = .ok (.lstore 4, 2) := by decide +kernel
theorem dX5_drawn_80 : decode cX5_drawn 80 = .ok (.aload_n 0, 1) := by decide +kernel
theorem dX5_drawn_81 : decode cX5_drawn 81 = .ok (.getfield 29, 3) := by decide +kernel
theorem dX5_drawn_84 : decode cX5_drawn 84 = .ok (.lload 4, 2) := by decide +kernel
theorem dX5_drawn_86 : decode cX5_drawn 86 = .ok (.ldc2_w 222, 3) := by decide +kernel
theorem dX5_drawn_89 : decode cX5_drawn 89 = .ok (.ldiv, 1) := by decide +kernel
theorem dX5_drawn_90 : decode cX5_drawn 90 = .ok (.ldc2_w 224, 3) := by decide +kernel
theorem dX5_drawn_93 : decode cX5_drawn 93 = .ok (.lrem, 1) := by decide +kernel
theorem dX5_drawn_94 : decode cX5_drawn 94 = .ok (.l2i, 1) := by decide +kernel
theorem dX5_drawn_95 : decode cX5_drawn 95 = .ok (.invokevirtual 187, 3) := by decide +kernel
theorem dX5_drawn_98 : decode cX5_drawn 98 = .ok (.iinc 6 1, 3) := by decide +kernel
theorem dX5_drawn_101 : decode cX5_drawn 101 = .ok (.goto (-43), 3) := by decide +kernel
theorem dX5_drawn_104 : decode cX5_drawn 104 = .ok (.iload_n 3, 1) := by decide +kernel
theorem dX5_drawn_105 : decode cX5_drawn 105 = .ok (.lookupswitch 54 #[(0, 27), (1, 46)], 27) := by decide +kernel
theorem dX5_drawn_132 : decode cX5_drawn 132 = .ok (.aload_n 0, 1) := by decide +kernel
theorem dX5_drawn_133 : decode cX5_drawn 133 = .ok (.getfield 29, 3) := by decide +kernel
theorem dX5_drawn_136 : decode cX5_drawn 136 = .ok (.getfield 165, 3) := by decide +kernel
theorem dX5_drawn_139 : decode cX5_drawn 139 = .ok (.aload_n 0, 1) := by decide +kernel
theorem dX5_drawn_140 : decode cX5_drawn 140 = .ok (.getfield 19, 3) := by decide +kernel
theorem dX5_drawn_143 : decode cX5_drawn 143 = .ok (.getfield 83, 3) := by decide +kernel
theorem dX5_drawn_146 : decode cX5_drawn 146 = .ok (.getfield 165, 3) := by decide +kernel
theorem dX5_drawn_149 : decode cX5_drawn 149 = .ok (.isub, 1) := by decide +kernel
theorem dX5_drawn_150 : decode cX5_drawn 150 = .ok (.ireturn, 1) := by decide +kernel
theorem dX5_drawn_151 : decode cX5_drawn 151 = .ok (.aload_n 0, 1) := by decide +kernel
theorem dX5_drawn_152 : decode cX5_drawn 152 = .ok (.getfield 29, 3) := by decide +kernel
theorem dX5_drawn_155 : decode cX5_drawn 155 = .ok (.invokevirtual 146, 3) := by decide +kernel
theorem dX5_drawn_158 : decode cX5_drawn 158 = .ok (.ireturn, 1) := by decide +kernel
theorem dX5_drawn_159 : decode cX5_drawn 159 = .ok (.lload 4, 2) := by decide +kernel
theorem dX5_drawn_161 : decode cX5_drawn 161 = .ok (.l2i, 1) := by decide +kernel
theorem dX5_drawn_162 : decode cX5_drawn 162 = .ok (.ireturn, 1) := by decide +kernel
set_option maxRecDepth 20000 in
theorem ggX5_image_X3_copy : GoodIn wsX5_image wsX3_copy := goodIn_r _ [11, 12, 13, 14, 15, 16, 17, 18, 19, 20, 21, 22, 23, 24, 25, 26, 27, 28, 29, 30, 31, 32, 33, 34, 35, 36, 37, 38, 39, 40, 41, 42, 43, 44, 45, 46, 47, 48, 49, 50, 51, 52, 53, 54, 55, 56, 64, 65, 66, 67, 68, 69, 70, 71, 72, 73, 74, 75, 76, 77, 78, 79, 80, 81, 82, 83, 84, 85, 86, 87, 88] (by decide +kernel) (by decide +kernel)
set_option maxRecDepth 20000 in
theorem gX5_image_X3_copy : GoodIn wsX5_image (wsV RX5 226 RX3 yX3_copy wsX3_copy) := goodIn_app (goodIn_of _ (by decide +kernel)) ggX5_image_X3_copy
theorem dX5_image_0 : decode cX5_image 0 = .ok (.aload_n 0, 1) := by decide +kernel
theorem dX5_image_1 : decode cX5_image 1 = .ok (.getfield 73, 3) := by decide +kernel
theorem dX5_image_4 : decode cX5_image 4 = .ok (.ifCond .ne 6, 3) := by decide +kernel
theorem dX5_image_7 : decode cX5_image 7 = .ok (.bipush (-103), 2) := by decide +kernel
theorem dX5_image_9 : decode cX5_image 9 = .ok (.ireturn, 1) := by decide +kernel
theorem dX5_image_10 : decode cX5_image 10 = .ok (.aload_n 0, 1) := by decide +kernel
theorem dX5_image_11 : decode cX5_image 11 = .ok (.getfield 23, 3) := by decide +kernel
theorem dX5_image_14 : decode cX5_image 14 = .ok (.aload_n 0, 1) := by decide +kernel
