theorem dX1_init_0 : decode cX1_init 0 = .ok (.aload_n 0, 1) := by decide +kernel
theorem dX1_init_1 : decode cX1_init 1 = .ok (.invokespecial 1, 3) := by decide +kernel
theorem dX1_init_4 : decode cX1_init 4 = .ok (.aload_n 0, 1) := by decide +kernel
theorem dX1_init_5 : decode cX1_init 5 = .ok (.bipush 54, 2) := by decide +kernel
theorem dX1_init_7 : decode cX1_init 7 = .ok (.newarray .int, 2) := by decide +kernel
theorem dX1_init_9 : decode cX1_init 9 = .ok (.putfield 9, 3) := by decide +kernel
theorem dX1_init_12 : decode cX1_init 12 = .ok (.return_, 1) := by decide +kernel
theorem dX1_append_0 : decode cX1_append 0 = .ok (.aload_n 0, 1) := by decide +kernel
theorem dX1_append_1 : decode cX1_append 1 = .ok (.getfield 13, 3) := by decide +kernel
theorem dX1_append_4 : decode cX1_append 4 = .ok (.aload_n 0, 1) := by decide +kernel
theorem dX1_append_5 : decode cX1_append 5 = .ok (.getfield 9, 3) := by decide +kernel
theorem dX1_append_8 : decode cX1_append 8 = .ok (.arraylength, 1) := by decide +kernel
theorem dX1_append_9 : decode cX1_append 9 = .ok (.if_icmp .lt 5, 3) := by decide +kernel
theorem dX1_append_12 : decode cX1_append 12 = .ok (.iconst 0, 1) := by decide +kernel
theorem dX1_append_13 : decode cX1_append 13 = .ok (.ireturn, 1) := by decide +kernel
theorem dX1_append_14 : decode cX1_append 14 = .ok (.aload_n 0, 1) := by decide +kernel
theorem dX1_append_15 : decode cX1_append 15 = .ok (.getfield 9, 3) := by decide +kernel
theorem dX1_append_18 : decode cX1_append 18 = .ok (.aload_n 0, 1) := by decide +kernel
theorem dX1_append_19 : decode cX1_append 19 = .ok (.getfield 13, 3) := by decide +kernel
theorem dX1_append_22 : decode cX1_append 22 = .ok (.iload_n 1, 1) := by decide +kernel
theorem dX1_append_23 : decode cX1_append 23 = .ok (.iastore, 1) := by decide +kernel
theorem dX1_append_24 : decode cX1_append 24 = .ok (.aload_n 0, 1) := by decide +kernel
theorem dX1_append_25 : decode cX1_append 25 = .ok (.dup, 1) := by decide +kernel
theorem dX1_append_26 : decode cX1_append 26 = .ok (.getfield 13, 3) := by decide +kernel
theorem dX1_append_29 : decode cX1_append 29 = .ok (.iconst 1, 1) := by decide +kernel
theorem dX1_append_30 : decode cX1_append 30 = .ok (.iadd, 1) := by decide +kernel
theorem dX1_append_31 : decode cX1_append 31 = .ok (.putfield 13, 3) := by decide +kernel
theorem dX1_append_34 : decode cX1_append 34 = .ok (.iconst 1, 1) := by decide +kernel
theorem dX1_append_35 : decode cX1_append 35 = .ok (.ireturn, 1) := by decide +kernel
set_option maxRecDepth 20000 in
theorem ggX1_firstWrong_X1_fits : GoodIn wsX1_firstWrong wsX1_fits := goodIn_r _ [6, 7, 8, 9, 5, 10, 11, 12, 13, 14, 1, 15, 16, 17, 18, 19, 20, 21, 22, 23, 24, 25, 26, 27, 28, 29, 30, 31, 32, 33, 34, 35, 36, 37, 38, 39, 40, 41, 42, 43, 44, 45, 46, 47, 48, 49, 50, 51, 52, 53, 54, 55, 56, 57, 58, 59, 60, 61, 62, 63, 64, 65, 66, 67, 68, 69, 70, 71, 72, 73, 74, 75, 76, 77, 78, 79, 80, 81, 82, 83, 84, 85, 86, 87, 88, 89, 90, 91, 92, 93, 94, 95, 96, 97, 98, 99, 100, 101, 102, 103, 104, 105, 106, 107, 108, 109, 110, 111, 112, 113, 114, 115, 116, 117, 118, 119, 120, 121, 122, 123, 124, 125] (by decide +kernel) (by decide +kernel)
set_option maxRecDepth 20000 in
theorem gX1_firstWrong_X1_fits : GoodIn wsX1_firstWrong (wsV RX1 17 RX1 yX1_fits wsX1_fits) := goodIn_app (goodIn_of _ (by decide +kernel)) ggX1_firstWrong_X1_fits
theorem dX1_firstWrong_0 : decode cX1_firstWrong 0 = .ok (.iconst 0, 1) := by decide +kernel
theorem dX1_firstWrong_1 : decode cX1_firstWrong 1 = .ok (.istore_n 1, 1) := by decide +kernel
theorem dX1_firstWrong_2 : decode cX1_firstWrong 2 = .ok (.iload_n 1, 1) := by decide +kernel
theorem dX1_firstWrong_3 : decode cX1_firstWrong 3 = .ok (.aload_n 0, 1) := by decide +kernel
theorem dX1_firstWrong_4 : decode cX1_firstWrong 4 = .ok (.getfield 13, 3) := by decide +kernel
theorem dX1_firstWrong_7 : decode cX1_firstWrong 7 = .ok (.if_icmp .ge 19, 3) := by decide +kernel
theorem dX1_firstWrong_10 : decode cX1_firstWrong 10 = .ok (.aload_n 0, 1) := by decide +kernel
theorem dX1_firstWrong_11 : decode cX1_firstWrong 11 = .ok (.iload_n 1, 1) := by decide +kernel
theorem dX1_firstWrong_12 : decode cX1_firstWrong 12 = .ok (.invokevirtual 17, 3) := by decide +kernel
theorem dX1_firstWrong_15 : decode cX1_firstWrong 15 = .ok (.ifCond .ne 5, 3) := by decide +kernel
theorem dX1_firstWrong_18 : decode cX1_firstWrong 18 = .ok (.iload_n 1, 1) := by decide +kernel
theorem dX1_firstWrong_19 : decode cX1_firstWrong 19 = .ok (.ireturn, 1) := by decide +kernel
theorem dX1_firstWrong_20 : decode cX1_firstWrong 20 = .ok (.iinc 1 1, 3) := by decide +kernel
theorem dX1_firstWrong_23 : decode cX1_firstWrong 23 = .ok (.goto (-21), 3) := by decide +kernel
theorem dX1_firstWrong_26 : decode cX1_firstWrong 26 = .ok (.aload_n 0, 1) := by decide +kernel
theorem dX1_firstWrong_27 : decode cX1_firstWrong 27 = .ok (.getfield 13, 3) := by decide +kernel
theorem dX1_firstWrong_30 : decode cX1_firstWrong 30 = .ok (.ireturn, 1) := by decide +kernel
set_option maxRecDepth 20000 in
theorem ggX1_isShelf_X1_firstWrong : GoodIn wsX1_isShelf wsX1_firstWrong := goodIn_r _ [6, 1, 7, 8, 9, 5, 10, 11, 12, 13, 14, 15, 16, 17, 18, 19, 20, 21, 22, 23, 24, 25, 26, 27, 28, 29, 30, 31, 32, 33, 34, 35, 36, 37, 38, 39, 40, 41, 42, 43, 44, 45, 46, 47, 48, 49, 50, 51, 52, 53, 54, 55, 56, 57, 58, 59, 60, 61, 62, 63, 64, 65, 66, 67, 68, 69, 70, 71, 72, 73, 74, 75, 76, 77, 78, 79, 80, 81, 82, 83, 84, 85, 86, 87, 88, 89, 90, 91, 92, 93, 94, 95, 96, 97, 98, 99, 100, 101, 102, 103, 104, 105, 106, 107, 108, 109, 110, 111, 112, 113, 114, 115, 116, 117, 118, 119, 120, 121, 122, 123, 124, 125, 126, 127, 128, 129] (by decide +kernel) (by decide +kernel)
set_option maxRecDepth 20000 in
theorem gX1_isShelf_X1_firstWrong : GoodIn wsX1_isShelf (wsV RX1 21 RX1 yX1_firstWrong wsX1_firstWrong) := goodIn_app (goodIn_of _ (by decide +kernel)) ggX1_isShelf_X1_firstWrong
theorem dX1_isShelf_0 : decode cX1_isShelf 0 = .ok (.aload_n 0, 1) := by decide +kernel
theorem dX1_isShelf_1 : decode cX1_isShelf 1 = .ok (.getfield 13, 3) := by decide +kernel
theorem dX1_isShelf_4 : decode cX1_isShelf 4 = .ok (.iconst 5, 1) := by decide +kernel
theorem dX1_isShelf_5 : decode cX1_isShelf 5 = .ok (.if_icmp .eq 24, 3) := by decide +kernel
theorem dX1_isShelf_8 : decode cX1_isShelf 8 = .ok (.aload_n 0, 1) := by decide +kernel
theorem dX1_isShelf_9 : decode cX1_isShelf 9 = .ok (.getfield 13, 3) := by decide +kernel
theorem dX1_isShelf_12 : decode cX1_isShelf 12 = .ok (.iconst 5, 1) := by decide +kernel
theorem dX1_isShelf_13 : decode cX1_isShelf 13 = .ok (.if_icmp .le 20, 3) := by decide +kernel
theorem dX1_isShelf_16 : decode cX1_isShelf 16 = .ok (.aload_n 0, 1) := by decide +kernel
theorem dX1_isShelf_17 : decode cX1_isShelf 17 = .ok (.getfield 13, 3) := by decide +kernel
theorem dX1_isShelf_20 : decode cX1_isShelf 20 = .ok (.iconst 5, 1) := by decide +kernel
theorem dX1_isShelf_21 : decode cX1_isShelf 21 = .ok (.isub, 1) := by decide +kernel
theorem dX1_isShelf_22 : decode cX1_isShelf 22 = .ok (.bipush 6, 2) := by decide +kernel
theorem dX1_isShelf_24 : decode cX1_isShelf 24 = .ok (.irem, 1) := by decide +kernel
theorem dX1_isShelf_25 : decode cX1_isShelf 25 = .ok (.iconst 5, 1) := by decide +kernel
theorem dX1_isShelf_26 : decode cX1_isShelf 26 = .ok (.if_icmp .ne 7, 3) := by decide +kernel
theorem dX1_isShelf_29 : decode cX1_isShelf 29 = .ok (.iconst 1, 1) := by decide +kernel
theorem dX1_isShelf_30 : decode cX1_isShelf 30 = .ok (.goto 4, 3) := by decide +kernel
theorem dX1_isShelf_33 : decode cX1_isShelf 33 = .ok (.iconst 0, 1) := by decide +kernel
theorem dX1_isShelf_34 : decode cX1_isShelf 34 = .ok (.istore_n 1, 1) := by decide +kernel
theorem dX1_isShelf_35 : decode cX1_isShelf 35 = .ok (.iload_n 1, 1) := by decide +kernel
theorem dX1_isShelf_36 : decode cX1_isShelf 36 = .ok (.ifCond .eq 18, 3) := by decide +kernel
theorem dX1_isShelf_39 : decode cX1_isShelf 39 = .ok (.aload_n 0, 1) := by decide +kernel
theorem dX1_isShelf_40 : decode cX1_isShelf 40 = .ok (.invokevirtual 21, 3) := by decide +kernel
theorem dX1_isShelf_43 : decode cX1_isShelf 43 = .ok (.aload_n 0, 1) := by decide +kernel
theorem dX1_isShelf_44 : decode cX1_isShelf 44 = .ok (.getfield 13, 3) := by decide +kernel
theorem dX1_isShelf_47 : decode cX1_isShelf 47 = .ok (.if_icmp .ne 7, 3) := by decide +kernel
theorem dX1_isShelf_50 : decode cX1_isShelf 50 = .ok (.iconst 1, 1) := by decide +kernel
theorem dX1_isShelf_51 : decode cX1_isShelf 51 = .ok (.goto 4, 3) := by decide +kernel
theorem dX1_isShelf_54 : decode cX1_isShelf 54 = .ok (.iconst 0, 1) := by decide +kernel
theorem dX1_isShelf_55 : decode cX1_isShelf 55 = .ok (.ireturn, 1) := by decide +kernel
theorem dX1_entries_0 : decode cX1_entries 0 = .ok (.aload_n 0, 1) := by decide +kernel
theorem dX1_entries_1 : decode cX1_entries 1 = .ok (.getfield 13, 3) := by decide +kernel
theorem dX1_entries_4 : decode cX1_entries 4 = .ok (.iconst 5, 1) := by decide +kernel
theorem dX1_entries_5 : decode cX1_entries 5 = .ok (.isub, 1) := by decide +kernel
theorem dX1_entries_6 : decode cX1_entries 6 = .ok (.iconst 1, 1) := by decide +kernel
theorem dX1_entries_7 : decode cX1_entries 7 = .ok (.iadd, 1) := by decide +kernel
theorem dX1_entries_8 : decode cX1_entries 8 = .ok (.bipush 6, 2) := by decide +kernel
theorem dX1_entries_10 : decode cX1_entries 10 = .ok (.idiv, 1) := by decide +kernel
theorem dX1_entries_11 : decode cX1_entries 11 = .ok (.ireturn, 1) := by decide +kernel
set_option maxRecDepth 20000 in
theorem ggX1_kindOf_X1_code : GoodIn wsX1_kindOf wsX1_code := goodIn_r _ [5, 6, 7, 97, 98] (by decide +kernel) (by decide +kernel)
set_option maxRecDepth 20000 in
theorem gX1_kindOf_X1_code : GoodIn wsX1_kindOf (wsV RX1 27 RX1 yX1_code wsX1_code) := goodIn_app (goodIn_of _ (by decide +kernel)) ggX1_kindOf_X1_code
set_option maxRecDepth 20000 in
theorem ggX1_kindOf_J0_indexOf_0f7a4 : GoodIn wsX1_kindOf wsJ0_indexOf_0f7a4 := goodIn_r _ [12, 13, 14, 15, 11, 16, 17, 18, 19, 20, 21, 22, 23, 24, 25, 26, 27, 28, 29, 30, 31, 32, 33, 34, 35, 36, 37, 38, 39, 40, 41, 42, 43, 44, 45, 46, 47, 48, 49, 50, 51, 52, 53, 54, 55, 56, 57, 58, 59, 60, 61, 62, 63, 64, 65, 66, 67, 68, 69, 70, 71, 72, 73, 74, 75, 76, 77, 78, 79, 80, 81, 82, 83, 84, 85, 86, 87, 88, 89, 90, 91, 92, 93, 94, 95, 96] (by decide +kernel) (by decide +kernel)
set_option maxRecDepth 20000 in
theorem gX1_kindOf_J0_indexOf_0f7a4 : GoodIn wsX1_kindOf (wsV RX1 31 RJ0 yJ0_indexOf_0f7a4 wsJ0_indexOf_0f7a4) := goodIn_app (goodIn_of _ (by decide +kernel)) ggX1_kindOf_J0_indexOf_0f7a4
theorem dX1_kindOf_0 : decode cX1_kindOf 0 = .ok (.ldc 25, 2) := by decide +kernel
theorem dX1_kindOf_2 : decode cX1_kindOf 2 = .ok (.aload_n 0, 1) := by decide +kernel
theorem dX1_kindOf_3 : decode cX1_kindOf 3 = .ok (.iconst 5, 1) := by decide +kernel
theorem dX1_kindOf_4 : decode cX1_kindOf 4 = .ok (.iload_n 1, 1) := by decide +kernel
theorem dX1_kindOf_5 : decode cX1_kindOf 5 = .ok (.bipush 6, 2) := by decide +kernel
theorem dX1_kindOf_7 : decode cX1_kindOf 7 = .ok (.imul, 1) := by decide +kernel
theorem dX1_kindOf_8 : decode cX1_kindOf 8 = .ok (.iadd, 1) := by decide +kernel
theorem dX1_kindOf_9 : decode cX1_kindOf 9 = .ok (.invokevirtual 27, 3) := by decide +kernel
theorem dX1_kindOf_12 : decode cX1_kindOf 12 = .ok (.i2c, 1) := by decide +kernel
theorem dX1_kindOf_13 : decode cX1_kindOf 13 = .ok (.invokevirtual 31, 3) := by decide +kernel
theorem dX1_kindOf_16 : decode cX1_kindOf 16 = .ok (.ireturn, 1) := by decide +kernel
set_option maxRecDepth 20000 in
theorem ggX1_keyOf_X1_digit : GoodIn wsX1_keyOf wsX1_digit := goodIn_r _ [5, 6, 7, 8, 4, 9, 10, 11, 12, 13] (by decide +kernel) (by decide +kernel)
set_option maxRecDepth 20000 in
theorem gX1_keyOf_X1_digit : GoodIn wsX1_keyOf (wsV RX1 36 RX1 yX1_digit wsX1_digit) := goodIn_app (goodIn_of _ (by decide +kernel)) ggX1_keyOf_X1_digit
theorem dX1_keyOf_0 : decode cX1_keyOf 0 = .ok (.iconst 5, 1) := by decide +kernel
theorem dX1_keyOf_1 : decode cX1_keyOf 1 = .ok (.iload_n 1, 1) := by decide +kernel
theorem dX1_keyOf_2 : decode cX1_keyOf 2 = .ok (.bipush 6, 2) := by decide +kernel
theorem dX1_keyOf_4 : decode cX1_keyOf 4 = .ok (.imul, 1) := by decide +kernel
theorem dX1_keyOf_5 : decode cX1_keyOf 5 = .ok (.iadd, 1) := by decide +kernel
theorem dX1_keyOf_6 : decode cX1_keyOf 6 = .ok (.istore_n 2, 1) := by decide +kernel
theorem dX1_keyOf_7 : decode cX1_keyOf 7 = .ok (.bipush 10, 2) := by decide +kernel
theorem dX1_keyOf_9 : decode cX1_keyOf 9 = .ok (.aload_n 0, 1) := by decide +kernel
theorem dX1_keyOf_10 : decode cX1_keyOf 10 = .ok (.iload_n 2, 1) := by decide +kernel
theorem dX1_keyOf_11 : decode cX1_keyOf 11 = .ok (.iconst 1, 1) := by decide +kernel
theorem dX1_keyOf_12 : decode cX1_keyOf 12 = .ok (.iadd, 1) := by decide +kernel
theorem dX1_keyOf_13 : decode cX1_keyOf 13 = .ok (.invokevirtual 36, 3) := by decide +kernel
theorem dX1_keyOf_16 : decode cX1_keyOf 16 = .ok (.imul, 1) := by decide +kernel
theorem dX1_keyOf_17 : decode cX1_keyOf 17 = .ok (.aload_n 0, 1) := by decide +kernel
theorem dX1_keyOf_18 : decode cX1_keyOf 18 = .ok (.iload_n 2, 1) := by decide +kernel
theorem dX1_keyOf_19 : decode cX1_keyOf 19 = .ok (.iconst 2, 1) := by decide +kernel
theorem dX1_keyOf_20 : decode cX1_keyOf 20 = .ok (.iadd, 1) := by decide +kernel
theorem dX1_keyOf_21 : decode cX1_keyOf 21 = .ok (.invokevirtual 36, 3) := by decide +kernel
theorem dX1_keyOf_24 : decode cX1_keyOf 24 = .ok (.iadd, 1) := by decide +kernel
theorem dX1_keyOf_25 : decode cX1_keyOf 25 = .ok (.ireturn, 1) := by decide +kernel
set_option maxRecDepth 20000 in
theorem ggX1_valueOf_X1_digit : GoodIn wsX1_valueOf wsX1_digit := goodIn_r _ [5, 6, 7, 8, 4, 9, 10, 11, 12, 13] (by decide +kernel) (by decide +kernel)
set_option maxRecDepth 20000 in
theorem gX1_valueOf_X1_digit : GoodIn wsX1_valueOf (wsV RX1 36 RX1 yX1_digit wsX1_digit) := goodIn_app (goodIn_of _ (by decide +kernel)) ggX1_valueOf_X1_digit
theorem dX1_valueOf_0 : decode cX1_valueOf 0 = .ok (.aload_n 0, 1) := by decide +kernel
theorem dX1_valueOf_1 : decode cX1_valueOf 1 = .ok (.iconst 5, 1) := by decide +kernel
theorem dX1_valueOf_2 : decode cX1_valueOf 2 = .ok (.iload_n 1, 1) := by decide +kernel
theorem dX1_valueOf_3 : decode cX1_valueOf 3 = .ok (.bipush 6, 2) := by decide +kernel
theorem dX1_valueOf_5 : decode cX1_valueOf 5 = .ok (.imul, 1) := by decide +kernel
theorem dX1_valueOf_6 : decode cX1_valueOf 6 = .ok (.iadd, 1) := by decide +kernel
theorem dX1_valueOf_7 : decode cX1_valueOf 7 = .ok (.iconst 4, 1) := by decide +kernel
theorem dX1_valueOf_8 : decode cX1_valueOf 8 = .ok (.iadd, 1) := by decide +kernel
theorem dX1_valueOf_9 : decode cX1_valueOf 9 = .ok (.invokevirtual 36, 3) := by decide +kernel
theorem dX1_valueOf_12 : decode cX1_valueOf 12 = .ok (.ireturn, 1) := by decide +kernel
set_option maxRecDepth 20000 in
theorem ggX1_digit_X1_code : GoodIn wsX1_digit wsX1_code := goodIn_r _ [5, 6, 7, 8, 9] (by decide +kernel) (by decide +kernel)
set_option maxRecDepth 20000 in
theorem gX1_digit_X1_code : GoodIn wsX1_digit (wsV RX1 27 RX1 yX1_code wsX1_code) := goodIn_app (goodIn_of _ (by decide +kernel)) ggX1_digit_X1_code
theorem dX1_digit_0 : decode cX1_digit 0 = .ok (.aload_n 0, 1) := by decide +kernel
theorem dX1_digit_1 : decode cX1_digit 1 = .ok (.iload_n 1, 1) := by decide +kernel
theorem dX1_digit_2 : decode cX1_digit 2 = .ok (.invokevirtual 27, 3) := by decide +kernel
theorem dX1_digit_5 : decode cX1_digit 5 = .ok (.bipush 48, 2) := by decide +kernel
theorem dX1_digit_7 : decode cX1_digit 7 = .ok (.isub, 1) := by decide +kernel
theorem dX1_digit_8 : decode cX1_digit 8 = .ok (.ireturn, 1) := by decide +kernel
theorem dX1_code_0 : decode cX1_code 0 = .ok (.iload_n 1, 1) := by decide +kernel
theorem dX1_code_1 : decode cX1_code 1 = .ok (.ifCond .lt 20, 3) := by decide +kernel
theorem dX1_code_4 : decode cX1_code 4 = .ok (.iload_n 1, 1) := by decide +kernel
theorem dX1_code_5 : decode cX1_code 5 = .ok (.aload_n 0, 1) := by decide +kernel
theorem dX1_code_6 : decode cX1_code 6 = .ok (.getfield 13, 3) := by decide +kernel
theorem dX1_code_9 : decode cX1_code 9 = .ok (.if_icmp .ge 12, 3) := by decide +kernel
theorem dX1_code_12 : decode cX1_code 12 = .ok (.aload_n 0, 1) := by decide +kernel
theorem dX1_code_13 : decode cX1_code 13 = .ok (.getfield 9, 3) := by decide +kernel
theorem dX1_code_16 : decode cX1_code 16 = .ok (.iload_n 1, 1) := by decide +kernel
theorem dX1_code_17 : decode cX1_code 17 = .ok (.iaload, 1) := by decide +kernel
theorem dX1_code_18 : decode cX1_code 18 = .ok (.goto 4, 3) := by decide +kernel
theorem dX1_code_21 : decode cX1_code 21 = .ok (.iconst 0, 1) := by decide +kernel
theorem dX1_code_22 : decode cX1_code 22 = .ok (.ireturn, 1) := by decide +kernel
set_option maxRecDepth 20000 in
theorem ggX1_fits_X1_digit : GoodIn wsX1_fits wsX1_digit := goodIn_r _ [5, 6, 7, 8, 4, 9, 10, 11, 120, 121] (by decide +kernel) (by decide +kernel)
set_option maxRecDepth 20000 in
theorem gX1_fits_X1_digit : GoodIn wsX1_fits (wsV RX1 36 RX1 yX1_digit wsX1_digit) := goodIn_app (goodIn_of _ (by decide +kernel)) ggX1_fits_X1_digit
set_option maxRecDepth 20000 in
theorem ggX1_fits_X5_isRatio : GoodIn wsX1_fits wsX5_isRatio := goodIn_r _ [14] (by decide +kernel) (by decide +kernel)
set_option maxRecDepth 20000 in
theorem gX1_fits_X5_isRatio_n39 : GoodIn wsX1_fits (wsX5_isRatio) := ggX1_fits_X5_isRatio
set_option maxRecDepth 20000 in
theorem ggX1_fits_X1_code : GoodIn wsX1_fits wsX1_code := goodIn_r _ [9, 10, 11, 120, 121] (by decide +kernel) (by decide +kernel)
set_option maxRecDepth 20000 in
theorem gX1_fits_X1_code : GoodIn wsX1_fits (wsV RX1 27 RX1 yX1_code wsX1_code) := goodIn_app (goodIn_of _ (by decide +kernel)) ggX1_fits_X1_code
set_option maxRecDepth 20000 in
theorem ggX1_fits_X1_isDigit : GoodIn wsX1_fits wsX1_isDigit := goodIn_r _ [18, 6, 7, 8, 4, 9, 10, 11, 120, 121] (by decide +kernel) (by decide +kernel)
set_option maxRecDepth 20000 in
theorem gX1_fits_X1_isDigit : GoodIn wsX1_fits (wsV RX1 45 RX1 yX1_isDigit wsX1_isDigit) := goodIn_app (goodIn_of _ (by decide +kernel)) ggX1_fits_X1_isDigit
set_option maxRecDepth 20000 in
theorem ggX1_fits_X1_fitsEntry : GoodIn wsX1_fits wsX1_fitsEntry := goodIn_r _ [22, 23, 24, 25, 4, 26, 6, 7, 8, 9, 10, 11, 27, 28, 29, 30, 31, 32, 33, 34, 35, 36, 37, 38, 39, 40, 41, 42, 43, 44, 45, 46, 47, 48, 49, 50, 51, 52, 53, 54, 55, 56, 57, 58, 59, 60, 61, 62, 63, 64, 65, 66, 67, 68, 69, 70, 71, 72, 73, 74, 75, 76, 77, 78, 79, 80, 81, 82, 83, 84, 85, 86, 87, 88, 89, 90, 91, 92, 93, 94, 95, 96, 97, 98, 99, 100, 101, 102, 103, 104, 105, 106, 107, 108, 109, 110, 111, 112, 113, 114, 115, 15, 16, 17, 18, 116, 117, 118, 119, 120, 121] (by decide +kernel) (by decide +kernel)
set_option maxRecDepth 20000 in
theorem gX1_fits_X1_fitsEntry : GoodIn wsX1_fits (wsV RX1 48 RX1 yX1_fitsEntry wsX1_fitsEntry) := goodIn_app (goodIn_of _ (by decide +kernel)) ggX1_fits_X1_fitsEntry
theorem dX1_fits_0 : decode cX1_fits 0 = .ok (.iload_n 1, 1) := by decide +kernel
theorem dX1_fits_1 : decode cX1_fits 1 = .ok (.tableswitch 127 0 4 #[35, 59, 73, 89, 111], 35) := by decide +kernel
theorem dX1_fits_36 : decode cX1_fits 36 = .ok (.aload_n 0, 1) := by decide +kernel
theorem dX1_fits_37 : decode cX1_fits 37 = .ok (.iconst 0, 1) := by decide +kernel
theorem dX1_fits_38 : decode cX1_fits 38 = .ok (.invokevirtual 36, 3) := by decide +kernel
theorem dX1_fits_41 : decode cX1_fits 41 = .ok (.iconst 2, 1) := by decide +kernel
theorem dX1_fits_42 : decode cX1_fits 42 = .ok (.if_icmp .lt 16, 3) := by decide +kernel
theorem dX1_fits_45 : decode cX1_fits 45 = .ok (.aload_n 0, 1) := by decide +kernel
theorem dX1_fits_46 : decode cX1_fits 46 = .ok (.iconst 0, 1) := by decide +kernel
theorem dX1_fits_47 : decode cX1_fits 47 = .ok (.invokevirtual 36, 3) := by decide +kernel
theorem dX1_fits_50 : decode cX1_fits 50 = .ok (.iconst 4, 1) := by decide +kernel
theorem dX1_fits_51 : decode cX1_fits 51 = .ok (.if_icmp .gt 7, 3) := by decide +kernel
theorem dX1_fits_54 : decode cX1_fits 54 = .ok (.iconst 1, 1) := by decide +kernel
theorem dX1_fits_55 : decode cX1_fits 55 = .ok (.goto 4, 3) := by decide +kernel
theorem dX1_fits_58 : decode cX1_fits 58 = .ok (.iconst 0, 1) := by decide +kernel
theorem dX1_fits_59 : decode cX1_fits 59 = .ok (.ireturn, 1) := by decide +kernel
theorem dX1_fits_60 : decode cX1_fits 60 = .ok (.aload_n 0, 1) := by decide +kernel
theorem dX1_fits_61 : decode cX1_fits 61 = .ok (.iconst 0, 1) := by decide +kernel
theorem dX1_fits_62 : decode cX1_fits 62 = .ok (.invokevirtual 36, 3) := by decide +kernel
theorem dX1_fits_65 : decode cX1_fits 65 = .ok (.aload_n 0, 1) := by decide +kernel
theorem dX1_fits_66 : decode cX1_fits 66 = .ok (.iconst 1, 1) := by decide +kernel
theorem dX1_fits_67 : decode cX1_fits 67 = .ok (.invokevirtual 36, 3) := by decide +kernel
theorem dX1_fits_70 : decode cX1_fits 70 = .ok (.invokestatic 39, 3) := by decide +kernel
theorem dX1_fits_73 : decode cX1_fits 73 = .ok (.ireturn, 1) := by decide +kernel
theorem dX1_fits_74 : decode cX1_fits 74 = .ok (.aload_n 0, 1) := by decide +kernel
theorem dX1_fits_75 : decode cX1_fits 75 = .ok (.iconst 2, 1) := by decide +kernel
theorem dX1_fits_76 : decode cX1_fits 76 = .ok (.invokevirtual 27, 3) := by decide +kernel
theorem dX1_fits_79 : decode cX1_fits 79 = .ok (.bipush 59, 2) := by decide +kernel
theorem dX1_fits_81 : decode cX1_fits 81 = .ok (.if_icmp .ne 7, 3) := by decide +kernel
theorem dX1_fits_84 : decode cX1_fits 84 = .ok (.iconst 1, 1) := by decide +kernel
theorem dX1_fits_85 : decode cX1_fits 85 = .ok (.goto 4, 3) := by decide +kernel
theorem dX1_fits_88 : decode cX1_fits 88 = .ok (.iconst 0, 1) := by decide +kernel
theorem dX1_fits_89 : decode cX1_fits 89 = .ok (.ireturn, 1) := by decide +kernel
theorem dX1_fits_90 : decode cX1_fits 90 = .ok (.aload_n 0, 1) := by decide +kernel
theorem dX1_fits_91 : decode cX1_fits 91 = .ok (.iconst 3, 1) := by decide +kernel
theorem dX1_fits_92 : decode cX1_fits 92 = .ok (.invokevirtual 45, 3) := by decide +kernel
theorem dX1_fits_95 : decode cX1_fits 95 = .ok (.ifCond .eq 15, 3) := by decide +kernel
theorem dX1_fits_98 : decode cX1_fits 98 = .ok (.aload_n 0, 1) := by decide +kernel
theorem dX1_fits_99 : decode cX1_fits 99 = .ok (.iconst 3, 1) := by decide +kernel
theorem dX1_fits_100 : decode cX1_fits 100 = .ok (.invokevirtual 36, 3) := by decide +kernel
theorem dX1_fits_103 : decode cX1_fits 103 = .ok (.ifCond .le 7, 3) := by decide +kernel
theorem dX1_fits_106 : decode cX1_fits 106 = .ok (.iconst 1, 1) := by decide +kernel
theorem dX1_fits_107 : decode cX1_fits 107 = .ok (.goto 4, 3) := by decide +kernel
theorem dX1_fits_110 : decode cX1_fits 110 = .ok (.iconst 0, 1) := by decide +kernel
theorem dX1_fits_111 : decode cX1_fits 111 = .ok (.ireturn, 1) := by decide +kernel
theorem dX1_fits_112 : decode cX1_fits 112 = .ok (.aload_n 0, 1) := by decide +kernel
theorem dX1_fits_113 : decode cX1_fits 113 = .ok (.iconst 4, 1) := by decide +kernel
theorem dX1_fits_114 : decode cX1_fits 114 = .ok (.invokevirtual 27, 3) := by decide +kernel
theorem dX1_fits_117 : decode cX1_fits 117 = .ok (.bipush 59, 2) := by decide +kernel
theorem dX1_fits_119 : decode cX1_fits 119 = .ok (.if_icmp .ne 7, 3) := by decide +kernel
theorem dX1_fits_122 : decode cX1_fits 122 = .ok (.iconst 1, 1) := by decide +kernel
theorem dX1_fits_123 : decode cX1_fits 123 = .ok (.goto 4, 3) := by decide +kernel
theorem dX1_fits_126 : decode cX1_fits 126 = .ok (.iconst 0, 1) := by decide +kernel
theorem dX1_fits_127 : decode cX1_fits 127 = .ok (.ireturn, 1) := by decide +kernel
theorem dX1_fits_128 : decode cX1_fits 128 = .ok (.aload_n 0, 1) := by decide +kernel
theorem dX1_fits_129 : decode cX1_fits 129 = .ok (.iload_n 1, 1) := by decide +kernel
theorem dX1_fits_130 : decode cX1_fits 130 = .ok (.iconst 5, 1) := by decide +kernel
theorem dX1_fits_131 : decode cX1_fits 131 = .ok (.isub, 1) := by decide +kernel
theorem dX1_fits_132 : decode cX1_fits 132 = .ok (.bipush 6, 2) := by decide +kernel
theorem dX1_fits_134 : decode cX1_fits 134 = .ok (.idiv, 1) := by decide +kernel
theorem dX1_fits_135 : decode cX1_fits 135 = .ok (.iload_n 1, 1) := by decide +kernel
theorem dX1_fits_136 : decode cX1_fits 136 = .ok (.iconst 5, 1) := by decide +kernel
theorem dX1_fits_137 : decode cX1_fits 137 = .ok (.isub, 1) := by decide +kernel
theorem dX1_fits_138 : decode cX1_fits 138 = .ok (.bipush 6, 2) := by decide +kernel
theorem dX1_fits_140 : decode cX1_fits 140 = .ok (.irem, 1) := by decide +kernel
theorem dX1_fits_141 : decode cX1_fits 141 = .ok (.iload_n 1, 1) := by decide +kernel
theorem dX1_fits_142 : decode cX1_fits 142 = .ok (.invokevirtual 48, 3) := by decide +kernel
theorem dX1_fits_145 : decode cX1_fits 145 = .ok (.ireturn, 1) := by decide +kernel
set_option maxRecDepth 20000 in
theorem ggX1_fitsEntry_X1_kindOf : GoodIn wsX1_fitsEntry wsX1_kindOf := goodIn_r _ [5, 6, 7, 8, 4, 9, 10, 11, 12, 13, 14, 15, 16, 17, 18, 19, 20, 21, 22, 23, 24, 25, 26, 27, 28, 29, 30, 31, 32, 33, 34, 35, 36, 37, 38, 39, 40, 41, 42, 43, 44, 45, 46, 47, 48, 49, 50, 51, 52, 53, 54, 55, 56, 57, 58, 59, 60, 61, 62, 63, 64, 65, 66, 67, 68, 69, 70, 71, 72, 73, 74, 75, 76, 77, 78, 79, 80, 81, 82, 83, 84, 85, 86, 87, 88, 89, 90, 91, 92, 93, 94, 95, 96, 97, 98, 99, 100, 109, 110] (by decide +kernel) (by decide +kernel)
set_option maxRecDepth 20000 in
theorem gX1_fitsEntry_X1_kindOf : GoodIn wsX1_fitsEntry (wsV RX1 52 RX1 yX1_kindOf wsX1_kindOf) := goodIn_app (goodIn_of _ (by decide +kernel)) ggX1_fitsEntry_X1_kindOf
set_option maxRecDepth 20000 in
theorem ggX1_fitsEntry_X1_isDigit : GoodIn wsX1_fitsEntry wsX1_isDigit := goodIn_r _ [104, 6, 7, 8, 4, 9, 10, 11, 109, 110] (by decide +kernel) (by decide +kernel)
set_option maxRecDepth 20000 in
theorem gX1_fitsEntry_X1_isDigit : GoodIn wsX1_fitsEntry (wsV RX1 45 RX1 yX1_isDigit wsX1_isDigit) := goodIn_app (goodIn_of _ (by decide +kernel)) ggX1_fitsEntry_X1_isDigit
set_option maxRecDepth 20000 in
theorem ggX1_fitsEntry_X1_isNewKey : GoodIn wsX1_fitsEntry wsX1_isNewKey := goodIn_r _ [108, 6, 7, 8, 4, 9, 10, 11, 109, 110] (by decide +kernel) (by decide +kernel)
set_option maxRecDepth 20000 in
theorem gX1_fitsEntry_X1_isNewKey : GoodIn wsX1_fitsEntry (wsV RX1 55 RX1 yX1_isNewKey wsX1_isNewKey) := goodIn_app (goodIn_of _ (by decide +kernel)) ggX1_fitsEntry_X1_isNewKey
set_option maxRecDepth 20000 in
theorem ggX1_fitsEntry_X1_code : GoodIn wsX1_fitsEntry wsX1_code := goodIn_r _ [9, 10, 11, 109, 110] (by decide +kernel) (by decide +kernel)
set_option maxRecDepth 20000 in
theorem gX1_fitsEntry_X1_code : GoodIn wsX1_fitsEntry (wsV RX1 27 RX1 yX1_code wsX1_code) := goodIn_app (goodIn_of _ (by decide +kernel)) ggX1_fitsEntry_X1_code
theorem dX1_fitsEntry_0 : decode cX1_fitsEntry 0 = .ok (.iload_n 2, 1) := by decide +kernel
theorem dX1_fitsEntry_1 : decode cX1_fitsEntry 1 = .ok (.tableswitch 113 0 5 #[39, 113, 53, 75, 113, 91], 39) := by decide +kernel
theorem dX1_fitsEntry_40 : decode cX1_fitsEntry 40 = .ok (.aload_n 0, 1) := by decide +kernel
theorem dX1_fitsEntry_41 : decode cX1_fitsEntry 41 = .ok (.iload_n 1, 1) := by decide +kernel
theorem dX1_fitsEntry_42 : decode cX1_fitsEntry 42 = .ok (.invokevirtual 52, 3) := by decide +kernel
theorem dX1_fitsEntry_45 : decode cX1_fitsEntry 45 = .ok (.ifCond .lt 7, 3) := by decide +kernel
theorem dX1_fitsEntry_48 : decode cX1_fitsEntry 48 = .ok (.iconst 1, 1) := by decide +kernel
theorem dX1_fitsEntry_49 : decode cX1_fitsEntry 49 = .ok (.goto 4, 3) := by decide +kernel
theorem dX1_fitsEntry_52 : decode cX1_fitsEntry 52 = .ok (.iconst 0, 1) := by decide +kernel
theorem dX1_fitsEntry_53 : decode cX1_fitsEntry 53 = .ok (.ireturn, 1) := by decide +kernel
theorem dX1_fitsEntry_54 : decode cX1_fitsEntry 54 = .ok (.aload_n 0, 1) := by decide +kernel
theorem dX1_fitsEntry_55 : decode cX1_fitsEntry 55 = .ok (.iload_n 3, 1) := by decide +kernel
theorem dX1_fitsEntry_56 : decode cX1_fitsEntry 56 = .ok (.invokevirtual 45, 3) := by decide +kernel
theorem dX1_fitsEntry_59 : decode cX1_fitsEntry 59 = .ok (.ifCond .eq 15, 3) := by decide +kernel
theorem dX1_fitsEntry_62 : decode cX1_fitsEntry 62 = .ok (.aload_n 0, 1) := by decide +kernel
theorem dX1_fitsEntry_63 : decode cX1_fitsEntry 63 = .ok (.iload_n 1, 1) := by decide +kernel
theorem dX1_fitsEntry_64 : decode cX1_fitsEntry 64 = .ok (.invokevirtual 55, 3) := by decide +kernel
theorem dX1_fitsEntry_67 : decode cX1_fitsEntry 67 = .ok (.ifCond .eq 7, 3) := by decide +kernel
theorem dX1_fitsEntry_70 : decode cX1_fitsEntry 70 = .ok (.iconst 1, 1) := by decide +kernel
theorem dX1_fitsEntry_71 : decode cX1_fitsEntry 71 = .ok (.goto 4, 3) := by decide +kernel
theorem dX1_fitsEntry_74 : decode cX1_fitsEntry 74 = .ok (.iconst 0, 1) := by decide +kernel
theorem dX1_fitsEntry_75 : decode cX1_fitsEntry 75 = .ok (.ireturn, 1) := by decide +kernel
theorem dX1_fitsEntry_76 : decode cX1_fitsEntry 76 = .ok (.aload_n 0, 1) := by decide +kernel
theorem dX1_fitsEntry_77 : decode cX1_fitsEntry 77 = .ok (.iload_n 3, 1) := by decide +kernel
theorem dX1_fitsEntry_78 : decode cX1_fitsEntry 78 = .ok (.invokevirtual 27, 3) := by decide +kernel
theorem dX1_fitsEntry_81 : decode cX1_fitsEntry 81 = .ok (.bipush 61, 2) := by decide +kernel
theorem dX1_fitsEntry_83 : decode cX1_fitsEntry 83 = .ok (.if_icmp .ne 7, 3) := by decide +kernel
theorem dX1_fitsEntry_86 : decode cX1_fitsEntry 86 = .ok (.iconst 1, 1) := by decide +kernel
theorem dX1_fitsEntry_87 : decode cX1_fitsEntry 87 = .ok (.goto 4, 3) := by decide +kernel
theorem dX1_fitsEntry_90 : decode cX1_fitsEntry 90 = .ok (.iconst 0, 1) := by decide +kernel
theorem dX1_fitsEntry_91 : decode cX1_fitsEntry 91 = .ok (.ireturn, 1) := by decide +kernel
theorem dX1_fitsEntry_92 : decode cX1_fitsEntry 92 = .ok (.aload_n 0, 1) := by decide +kernel
theorem dX1_fitsEntry_93 : decode cX1_fitsEntry 93 = .ok (.iload_n 3, 1) := by decide +kernel
theorem dX1_fitsEntry_94 : decode cX1_fitsEntry 94 = .ok (.invokevirtual 27, 3) := by decide +kernel
theorem dX1_fitsEntry_97 : decode cX1_fitsEntry 97 = .ok (.bipush 44, 2) := by decide +kernel
theorem dX1_fitsEntry_99 : decode cX1_fitsEntry 99 = .ok (.if_icmp .ne 13, 3) := by decide +kernel
theorem dX1_fitsEntry_102 : decode cX1_fitsEntry 102 = .ok (.iload_n 1, 1) := by decide +kernel
theorem dX1_fitsEntry_103 : decode cX1_fitsEntry 103 = .ok (.bipush 7, 2) := by decide +kernel
theorem dX1_fitsEntry_105 : decode cX1_fitsEntry 105 = .ok (.if_icmp .ge 7, 3) := by decide +kernel
theorem dX1_fitsEntry_108 : decode cX1_fitsEntry 108 = .ok (.iconst 1, 1) := by decide +kernel
theorem dX1_fitsEntry_109 : decode cX1_fitsEntry 109 = .ok (.goto 4, 3) := by decide +kernel
theorem dX1_fitsEntry_112 : decode cX1_fitsEntry 112 = .ok (.iconst 0, 1) := by decide +kernel
theorem dX1_fitsEntry_113 : decode cX1_fitsEntry 113 = .ok (.ireturn, 1) := by decide +kernel
theorem dX1_fitsEntry_114 : decode cX1_fitsEntry 114 = .ok (.aload_n 0, 1) := by decide +kernel
theorem dX1_fitsEntry_115 : decode cX1_fitsEntry 115 = .ok (.iload_n 3, 1) := by decide +kernel
theorem dX1_fitsEntry_116 : decode cX1_fitsEntry 116 = .ok (.invokevirtual 45, 3) := by decide +kernel
theorem dX1_fitsEntry_119 : decode cX1_fitsEntry 119 = .ok (.ireturn, 1) := by decide +kernel
set_option maxRecDepth 20000 in
theorem ggX1_isDigit_X1_code : GoodIn wsX1_isDigit wsX1_code := goodIn_r _ [5, 6, 7, 8, 9] (by decide +kernel) (by decide +kernel)
set_option maxRecDepth 20000 in
theorem gX1_isDigit_X1_code : GoodIn wsX1_isDigit (wsV RX1 27 RX1 yX1_code wsX1_code) := goodIn_app (goodIn_of _ (by decide +kernel)) ggX1_isDigit_X1_code
theorem dX1_isDigit_0 : decode cX1_isDigit 0 = .ok (.aload_n 0, 1) := by decide +kernel
theorem dX1_isDigit_1 : decode cX1_isDigit 1 = .ok (.iload_n 1, 1) := by decide +kernel
theorem dX1_isDigit_2 : decode cX1_isDigit 2 = .ok (.invokevirtual 27, 3) := by decide +kernel
theorem dX1_isDigit_5 : decode cX1_isDigit 5 = .ok (.bipush 48, 2) := by decide +kernel
theorem dX1_isDigit_7 : decode cX1_isDigit 7 = .ok (.if_icmp .lt 17, 3) := by decide +kernel
theorem dX1_isDigit_10 : decode cX1_isDigit 10 = .ok (.aload_n 0, 1) := by decide +kernel
theorem dX1_isDigit_11 : decode cX1_isDigit 11 = .ok (.iload_n 1, 1) := by decide +kernel
theorem dX1_isDigit_12 : decode cX1_isDigit 12 = .ok (.invokevirtual 27, 3) := by decide +kernel
theorem dX1_isDigit_15 : decode cX1_isDigit 15 = .ok (.bipush 57, 2) := by decide +kernel
theorem dX1_isDigit_17 : decode cX1_isDigit 17 = .ok (.if_icmp .gt 7, 3) := by decide +kernel
theorem dX1_isDigit_20 : decode cX1_isDigit 20 = .ok (.iconst 1, 1) := by decide +kernel
theorem dX1_isDigit_21 : decode cX1_isDigit 21 = .ok (.goto 4, 3) := by decide +kernel
theorem dX1_isDigit_24 : decode cX1_isDigit 24 = .ok (.iconst 0, 1) := by decide +kernel
theorem dX1_isDigit_25 : decode cX1_isDigit 25 = .ok (.ireturn, 1) := by decide +kernel
set_option maxRecDepth 20000 in
theorem ggX1_isNewKey_X1_code : GoodIn wsX1_isNewKey wsX1_code := goodIn_r _ [5, 6, 7, 8, 9] (by decide +kernel) (by decide +kernel)
set_option maxRecDepth 20000 in
theorem gX1_isNewKey_X1_code : GoodIn wsX1_isNewKey (wsV RX1 27 RX1 yX1_code wsX1_code) := goodIn_app (goodIn_of _ (by decide +kernel)) ggX1_isNewKey_X1_code
theorem dX1_isNewKey_0 : decode cX1_isNewKey 0 = .ok (.iconst 5, 1) := by decide +kernel
theorem dX1_isNewKey_1 : decode cX1_isNewKey 1 = .ok (.iload_n 1, 1) := by decide +kernel
theorem dX1_isNewKey_2 : decode cX1_isNewKey 2 = .ok (.bipush 6, 2) := by decide +kernel
theorem dX1_isNewKey_4 : decode cX1_isNewKey 4 = .ok (.imul, 1) := by decide +kernel
theorem dX1_isNewKey_5 : decode cX1_isNewKey 5 = .ok (.iadd, 1) := by decide +kernel
theorem dX1_isNewKey_6 : decode cX1_isNewKey 6 = .ok (.istore_n 2, 1) := by decide +kernel
theorem dX1_isNewKey_7 : decode cX1_isNewKey 7 = .ok (.iconst 0, 1) := by decide +kernel
theorem dX1_isNewKey_8 : decode cX1_isNewKey 8 = .ok (.istore_n 3, 1) := by decide +kernel
theorem dX1_isNewKey_9 : decode cX1_isNewKey 9 = .ok (.iload_n 3, 1) := by decide +kernel
theorem dX1_isNewKey_10 : decode cX1_isNewKey 10 = .ok (.iload_n 1, 1) := by decide +kernel
theorem dX1_isNewKey_11 : decode cX1_isNewKey 11 = .ok (.if_icmp .ge 55, 3) := by decide +kernel
theorem dX1_isNewKey_14 : decode cX1_isNewKey 14 = .ok (.iconst 5, 1) := by decide +kernel
theorem dX1_isNewKey_15 : decode cX1_isNewKey 15 = .ok (.iload_n 3, 1) := by decide +kernel
theorem dX1_isNewKey_16 : decode cX1_isNewKey 16 = .ok (.bipush 6, 2) := by decide +kernel
theorem dX1_isNewKey_18 : decode cX1_isNewKey 18 = .ok (.imul, 1) := by decide +kernel
theorem dX1_isNewKey_19 : decode cX1_isNewKey 19 = .ok (.iadd, 1) := by decide +kernel
theorem dX1_isNewKey_20 : decode cX1_isNewKey 20 = .ok (.istore 4, 2) := by decide +kernel
theorem dX1_isNewKey_22 : decode cX1_isNewKey 22 = .ok (.aload_n 0, 1) := by decide +kernel
theorem dX1_isNewKey_23 : decode cX1_isNewKey 23 = .ok (.iload 4, 2) := by decide +kernel
theorem dX1_isNewKey_25 : decode cX1_isNewKey 25 = .ok (.iconst 1, 1) := by decide +kernel
theorem dX1_isNewKey_26 : decode cX1_isNewKey 26 = .ok (.iadd, 1) := by decide +kernel
theorem dX1_isNewKey_27 : decode cX1_isNewKey 27 = .ok (.invokevirtual 27, 3) := by decide +kernel
theorem dX1_isNewKey_30 : decode cX1_isNewKey 30 = .ok (.aload_n 0, 1) := by decide +kernel
theorem dX1_isNewKey_31 : decode cX1_isNewKey 31 = .ok (.iload_n 2, 1) := by decide +kernel
theorem dX1_isNewKey_32 : decode cX1_isNewKey 32 = .ok (.iconst 1, 1) := by decide +kernel
theorem dX1_isNewKey_33 : decode cX1_isNewKey 33 = .ok (.iadd, 1) := by decide +kernel
theorem dX1_isNewKey_34 : decode cX1_isNewKey 34 = .ok (.invokevirtual 27, 3) := by decide +kernel
theorem dX1_isNewKey_37 : decode cX1_isNewKey 37 = .ok (.if_icmp .ne 23, 3) := by decide +kernel
theorem dX1_isNewKey_40 : decode cX1_isNewKey 40 = .ok (.aload_n 0, 1) := by decide +kernel
theorem dX1_isNewKey_41 : decode cX1_isNewKey 41 = .ok (.iload 4, 2) := by decide +kernel
theorem dX1_isNewKey_43 : decode cX1_isNewKey 43 = .ok (.iconst 2, 1) := by decide +kernel
theorem dX1_isNewKey_44 : decode cX1_isNewKey 44 = .ok (.iadd, 1) := by decide +kernel
theorem dX1_isNewKey_45 : decode cX1_isNewKey 45 = .ok (.invokevirtual 27, 3) := by decide +kernel
theorem dX1_isNewKey_48 : decode cX1_isNewKey 48 = .ok (.aload_n 0, 1) := by decide +kernel
theorem dX1_isNewKey_49 : decode cX1_isNewKey 49 = .ok (.iload_n 2, 1) := by decide +kernel
theorem dX1_isNewKey_50 : decode cX1_isNewKey 50 = .ok (.iconst 2, 1) := by decide +kernel
theorem dX1_isNewKey_51 : decode cX1_isNewKey 51 = .ok (.iadd, 1) := by decide +kernel
theorem dX1_isNewKey_52 : decode cX1_isNewKey 52 = .ok (.invokevirtual 27, 3) := by decide +kernel
theorem dX1_isNewKey_55 : decode cX1_isNewKey 55 = .ok (.if_icmp .ne 5, 3) := by decide +kernel
theorem dX1_isNewKey_58 : decode cX1_isNewKey 58 = .ok (.iconst 0, 1) := by decide +kernel
theorem dX1_isNewKey_59 : decode cX1_isNewKey 59 = .ok (.ireturn, 1) := by decide +kernel
theorem dX1_isNewKey_60 : decode cX1_isNewKey 60 = .ok (.iinc 3 1, 3) := by decide +kernel
theorem dX1_isNewKey_63 : decode cX1_isNewKey 63 = .ok (.goto (-54), 3) := by decide +kernel
theorem dX1_isNewKey_66 : decode cX1_isNewKey 66 = .ok (.iconst 1, 1) := by decide +kernel
theorem dX1_isNewKey_67 : decode cX1_isNewKey 67 = .ok (.ireturn, 1) := by decide +kernel
