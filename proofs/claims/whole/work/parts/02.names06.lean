theorem dX6_ledger_0 : decode cX6_ledger 0 = .ok (.iload_n 1, 1) := by decide +kernel
theorem dX6_ledger_1 : decode cX6_ledger 1 = .ok (.i2l, 1) := by decide +kernel
theorem dX6_ledger_2 : decode cX6_ledger 2 = .ok (.lconst 0, 1) := by decide +kernel
theorem dX6_ledger_3 : decode cX6_ledger 3 = .ok (.ldc2_w 262, 3) := by decide +kernel
theorem dX6_ledger_6 : decode cX6_ledger 6 = .ok (.invokestatic 94, 3) := by decide +kernel
theorem dX6_ledger_9 : decode cX6_ledger 9 = .ok (.ifCond .ne 6, 3) := by decide +kernel
theorem dX6_ledger_12 : decode cX6_ledger 12 = .ok (.bipush (-102), 2) := by decide +kernel
theorem dX6_ledger_14 : decode cX6_ledger 14 = .ok (.ireturn, 1) := by decide +kernel
theorem dX6_ledger_15 : decode cX6_ledger 15 = .ok (.aload_n 0, 1) := by decide +kernel
theorem dX6_ledger_16 : decode cX6_ledger 16 = .ok (.invokevirtual 236, 3) := by decide +kernel
theorem dX6_ledger_19 : decode cX6_ledger 19 = .ok (.ifCond .eq 8, 3) := by decide +kernel
theorem dX6_ledger_22 : decode cX6_ledger 22 = .ok (.bipush (-103), 2) := by decide +kernel
theorem dX6_ledger_24 : decode cX6_ledger 24 = .ok (.goto 8, 3) := by decide +kernel
theorem dX6_ledger_27 : decode cX6_ledger 27 = .ok (.aload_n 0, 1) := by decide +kernel
theorem dX6_ledger_28 : decode cX6_ledger 28 = .ok (.iload_n 1, 1) := by decide +kernel
theorem dX6_ledger_29 : decode cX6_ledger 29 = .ok (.invokevirtual 264, 3) := by decide +kernel
theorem dX6_ledger_32 : decode cX6_ledger 32 = .ok (.ireturn, 1) := by decide +kernel
set_option maxRecDepth 20000 in
theorem ggX6_wouldOf_X6_begin : GoodIn wsX6_wouldOf wsX6_begin := goodIn_r _ [7, 8, 9, 10, 1, 11, 12, 13, 14, 15, 16, 17, 18, 19, 83, 84, 85, 86, 87, 88, 89, 90, 91, 92, 93, 94, 95, 96, 97, 98, 99, 100, 101, 102, 103, 104, 105, 106, 107, 108, 109, 110, 111, 112, 113, 114, 115, 116, 117, 118, 119, 120, 121, 122, 123, 124, 125, 126, 127, 128, 129, 130, 131, 132] (by decide +kernel) (by decide +kernel)
set_option maxRecDepth 20000 in
theorem gX6_wouldOf_X6_begin : GoodIn wsX6_wouldOf (wsV RX6 267 RX6 yX6_begin wsX6_begin) := goodIn_app (goodIn_of _ (by decide +kernel)) ggX6_wouldOf_X6_begin
set_option maxRecDepth 20000 in
theorem ggX6_wouldOf_X6_enter : GoodIn wsX6_wouldOf wsX6_enter := goodIn_r _ [23, 2, 24, 12, 10, 25, 26, 27, 6, 28, 11, 8, 9, 1, 13, 29, 30, 31, 32, 33, 34, 35, 36, 37, 38, 39, 40, 41, 42, 43, 44, 45, 46, 47, 48, 49, 50, 18, 19, 51, 52, 53, 54, 16, 17, 55, 56, 57, 58, 59, 60, 61, 62, 63, 64, 65, 66, 67, 68, 69, 70, 71, 72, 73, 74, 14, 15, 75, 76, 77, 78, 79, 80, 81, 82, 83, 84, 85, 86, 87, 88, 89, 90, 91, 92, 93, 94, 95, 96, 97, 98, 99, 100, 101, 102, 103, 104, 105, 106, 107, 108, 109, 110, 111, 112, 113, 114, 115, 116, 117, 118, 119, 120, 121, 122, 123, 124, 125, 126, 127, 128, 129, 130, 131, 132] (by decide +kernel) (by decide +kernel)
set_option maxRecDepth 20000 in
theorem gX6_wouldOf_X6_enter : GoodIn wsX6_wouldOf (wsV RX6 227 RX6 yX6_enter wsX6_enter) := goodIn_app (goodIn_of _ (by decide +kernel)) ggX6_wouldOf_X6_enter
theorem dX6_wouldOf_0 : decode cX6_wouldOf 0 = .ok (.aload_n 0, 1) := by decide +kernel
theorem dX6_wouldOf_1 : decode cX6_wouldOf 1 = .ok (.getfield 22, 3) := by decide +kernel
theorem dX6_wouldOf_4 : decode cX6_wouldOf 4 = .ok (.iload_n 1, 1) := by decide +kernel
theorem dX6_wouldOf_5 : decode cX6_wouldOf 5 = .ok (.iaload, 1) := by decide +kernel
theorem dX6_wouldOf_6 : decode cX6_wouldOf 6 = .ok (.iconst 1, 1) := by decide +kernel
theorem dX6_wouldOf_7 : decode cX6_wouldOf 7 = .ok (.if_icmp .ne 5, 3) := by decide +kernel
theorem dX6_wouldOf_10 : decode cX6_wouldOf 10 = .ok (.iconst (-1), 1) := by decide +kernel
theorem dX6_wouldOf_11 : decode cX6_wouldOf 11 = .ok (.ireturn, 1) := by decide +kernel
theorem dX6_wouldOf_12 : decode cX6_wouldOf 12 = .ok (.aload_n 0, 1) := by decide +kernel
theorem dX6_wouldOf_13 : decode cX6_wouldOf 13 = .ok (.invokevirtual 267, 3) := by decide +kernel
theorem dX6_wouldOf_16 : decode cX6_wouldOf 16 = .ok (.aload_n 0, 1) := by decide +kernel
theorem dX6_wouldOf_17 : decode cX6_wouldOf 17 = .ok (.iconst 1, 1) := by decide +kernel
theorem dX6_wouldOf_18 : decode cX6_wouldOf 18 = .ok (.iload_n 1, 1) := by decide +kernel
theorem dX6_wouldOf_19 : decode cX6_wouldOf 19 = .ok (.invokevirtual 227, 3) := by decide +kernel
theorem dX6_wouldOf_22 : decode cX6_wouldOf 22 = .ok (.aload_n 0, 1) := by decide +kernel
theorem dX6_wouldOf_23 : decode cX6_wouldOf 23 = .ok (.getfield 171, 3) := by decide +kernel
theorem dX6_wouldOf_26 : decode cX6_wouldOf 26 = .ok (.ireturn, 1) := by decide +kernel
set_option maxRecDepth 20000 in
theorem ggX6_would_X6_in : GoodIn wsX6_would wsX6_in := goodIn_r _ [6] (by decide +kernel) (by decide +kernel)
set_option maxRecDepth 20000 in
theorem gX6_would_X6_in : GoodIn wsX6_would (va_wsS RX6 94 yX6_in wsX6_in) := goodIn_app (goodIn_of _ (by decide +kernel)) ggX6_would_X6_in
set_option maxRecDepth 20000 in
theorem ggX6_would_X6_lacks : GoodIn wsX6_would wsX6_lacks := goodIn_r _ [10, 11, 95, 96, 97, 98, 99, 100, 101, 102, 103, 104, 105, 106, 107, 108, 109, 110, 111, 112, 113, 114, 115, 116, 117, 118, 119, 120, 121, 122, 123, 124, 125, 126, 127, 128, 129, 130, 131, 132, 133, 134, 135, 136, 137, 138, 139, 140, 141, 142, 143, 144] (by decide +kernel) (by decide +kernel)
set_option maxRecDepth 20000 in
theorem gX6_would_X6_lacks : GoodIn wsX6_would (wsV RX6 236 RX6 yX6_lacks wsX6_lacks) := goodIn_app (goodIn_of _ (by decide +kernel)) ggX6_would_X6_lacks
set_option maxRecDepth 20000 in
theorem ggX6_would_X6_wouldOf : GoodIn wsX6_would wsX6_wouldOf := goodIn_r _ [15, 16, 17, 18, 19, 20, 5, 21, 22, 23, 24, 25, 2, 26, 27, 28, 29, 30, 11, 31, 32, 33, 34, 35, 36, 37, 38, 39, 40, 41, 42, 43, 44, 45, 46, 47, 48, 49, 50, 51, 52, 53, 54, 55, 56, 57, 58, 59, 60, 61, 62, 63, 64, 65, 66, 67, 68, 69, 70, 71, 72, 73, 74, 75, 76, 77, 78, 79, 80, 81, 82, 83, 84, 85, 86, 87, 88, 89, 90, 91, 92, 93, 94, 95, 96, 97, 98, 99, 100, 101, 102, 103, 104, 105, 106, 107, 108, 109, 110, 111, 112, 113, 114, 115, 116, 117, 118, 119, 120, 121, 122, 123, 124, 125, 126, 127, 128, 129, 130, 131, 132, 133, 134, 135, 136, 137, 138, 139, 140, 141, 142, 143, 144] (by decide +kernel) (by decide +kernel)
set_option maxRecDepth 20000 in
theorem gX6_would_X6_wouldOf : GoodIn wsX6_would (wsV RX6 270 RX6 yX6_wouldOf wsX6_wouldOf) := goodIn_app (goodIn_of _ (by decide +kernel)) ggX6_would_X6_wouldOf
theorem dX6_would_0 : decode cX6_would 0 = .ok (.iload_n 1, 1) := by decide +kernel
theorem dX6_would_1 : decode cX6_would 1 = .ok (.i2l, 1) := by decide +kernel
theorem dX6_would_2 : decode cX6_would 2 = .ok (.lconst 0, 1) := by decide +kernel
theorem dX6_would_3 : decode cX6_would 3 = .ok (.ldc2_w 240, 3) := by decide +kernel
theorem dX6_would_6 : decode cX6_would 6 = .ok (.invokestatic 94, 3) := by decide +kernel
theorem dX6_would_9 : decode cX6_would 9 = .ok (.ifCond .ne 6, 3) := by decide +kernel
theorem dX6_would_12 : decode cX6_would 12 = .ok (.bipush (-102), 2) := by decide +kernel
theorem dX6_would_14 : decode cX6_would 14 = .ok (.ireturn, 1) := by decide +kernel
theorem dX6_would_15 : decode cX6_would 15 = .ok (.aload_n 0, 1) := by decide +kernel
theorem dX6_would_16 : decode cX6_would 16 = .ok (.invokevirtual 236, 3) := by decide +kernel
theorem dX6_would_19 : decode cX6_would 19 = .ok (.ifCond .ne 14, 3) := by decide +kernel
theorem dX6_would_22 : decode cX6_would 22 = .ok (.aload_n 0, 1) := by decide +kernel
theorem dX6_would_23 : decode cX6_would 23 = .ok (.getfield 28, 3) := by decide +kernel
theorem dX6_would_26 : decode cX6_would 26 = .ok (.iconst 0, 1) := by decide +kernel
theorem dX6_would_27 : decode cX6_would 27 = .ok (.iaload, 1) := by decide +kernel
theorem dX6_would_28 : decode cX6_would 28 = .ok (.bipush 40, 2) := by decide +kernel
theorem dX6_would_30 : decode cX6_would 30 = .ok (.if_icmp .ne 8, 3) := by decide +kernel
theorem dX6_would_33 : decode cX6_would 33 = .ok (.bipush (-103), 2) := by decide +kernel
theorem dX6_would_35 : decode cX6_would 35 = .ok (.goto 8, 3) := by decide +kernel
theorem dX6_would_38 : decode cX6_would 38 = .ok (.aload_n 0, 1) := by decide +kernel
theorem dX6_would_39 : decode cX6_would 39 = .ok (.iload_n 1, 1) := by decide +kernel
theorem dX6_would_40 : decode cX6_would 40 = .ok (.invokevirtual 270, 3) := by decide +kernel
theorem dX6_would_43 : decode cX6_would 43 = .ok (.ireturn, 1) := by decide +kernel
set_option maxRecDepth 20000 in
theorem ggX6_dearOf_X6_wouldOf : GoodIn wsX6_dearOf wsX6_wouldOf := goodIn_r _ [6, 7, 8, 9, 10, 11, 5, 12, 13, 14, 15, 16, 1, 17, 18, 19, 20, 21, 22, 23, 24, 25, 26, 27, 28, 29, 30, 31, 32, 33, 34, 35, 36, 37, 38, 39, 40, 41, 42, 43, 44, 45, 46, 47, 48, 49, 50, 51, 52, 53, 54, 55, 56, 57, 58, 59, 60, 61, 62, 63, 64, 65, 66, 67, 68, 69, 70, 71, 72, 73, 74, 75, 76, 77, 78, 79, 80, 81, 82, 83, 84, 85, 86, 87, 88, 89, 90, 91, 92, 93, 94, 95, 96, 97, 98, 99, 100, 101, 102, 103, 104, 105, 106, 107, 108, 109, 110, 111, 112, 113, 114, 115, 116, 117, 118, 119, 120, 121, 122, 123, 124, 125, 126, 127, 128, 129, 130, 131, 132, 133, 134, 135, 136] (by decide +kernel) (by decide +kernel)
set_option maxRecDepth 20000 in
theorem gX6_dearOf_X6_wouldOf : GoodIn wsX6_dearOf (wsV RX6 270 RX6 yX6_wouldOf wsX6_wouldOf) := goodIn_app (goodIn_of _ (by decide +kernel)) ggX6_dearOf_X6_wouldOf
theorem dX6_dearOf_0 : decode cX6_dearOf 0 = .ok (.iconst (-1), 1) := by decide +kernel
theorem dX6_dearOf_1 : decode cX6_dearOf 1 = .ok (.istore_n 2, 1) := by decide +kernel
theorem dX6_dearOf_2 : decode cX6_dearOf 2 = .ok (.iconst (-1), 1) := by decide +kernel
theorem dX6_dearOf_3 : decode cX6_dearOf 3 = .ok (.istore_n 3, 1) := by decide +kernel
theorem dX6_dearOf_4 : decode cX6_dearOf 4 = .ok (.iconst 0, 1) := by decide +kernel
theorem dX6_dearOf_5 : decode cX6_dearOf 5 = .ok (.istore 4, 2) := by decide +kernel
theorem dX6_dearOf_7 : decode cX6_dearOf 7 = .ok (.iload 4, 2) := by decide +kernel
theorem dX6_dearOf_9 : decode cX6_dearOf 9 = .ok (.bipush 100, 2) := by decide +kernel
theorem dX6_dearOf_11 : decode cX6_dearOf 11 = .ok (.if_icmp .ge 54, 3) := by decide +kernel
theorem dX6_dearOf_14 : decode cX6_dearOf 14 = .ok (.aload_n 0, 1) := by decide +kernel
theorem dX6_dearOf_15 : decode cX6_dearOf 15 = .ok (.getfield 28, 3) := by decide +kernel
theorem dX6_dearOf_18 : decode cX6_dearOf 18 = .ok (.iconst 0, 1) := by decide +kernel
theorem dX6_dearOf_19 : decode cX6_dearOf 19 = .ok (.iaload, 1) := by decide +kernel
theorem dX6_dearOf_20 : decode cX6_dearOf 20 = .ok (.bipush 40, 2) := by decide +kernel
theorem dX6_dearOf_22 : decode cX6_dearOf 22 = .ok (.if_icmp .ge 43, 3) := by decide +kernel
theorem dX6_dearOf_25 : decode cX6_dearOf 25 = .ok (.aload_n 0, 1) := by decide +kernel
theorem dX6_dearOf_26 : decode cX6_dearOf 26 = .ok (.iload 4, 2) := by decide +kernel
theorem dX6_dearOf_28 : decode cX6_dearOf 28 = .ok (.invokevirtual 270, 3) := by decide +kernel
theorem dX6_dearOf_31 : decode cX6_dearOf 31 = .ok (.istore 5, 2) := by decide +kernel
theorem dX6_dearOf_33 : decode cX6_dearOf 33 = .ok (.iload 5, 2) := by decide +kernel
theorem dX6_dearOf_35 : decode cX6_dearOf 35 = .ok (.iload_n 3, 1) := by decide +kernel
theorem dX6_dearOf_36 : decode cX6_dearOf 36 = .ok (.if_icmp .le 8, 3) := by decide +kernel
theorem dX6_dearOf_39 : decode cX6_dearOf 39 = .ok (.iload 4, 2) := by decide +kernel
theorem dX6_dearOf_41 : decode cX6_dearOf 41 = .ok (.goto 4, 3) := by decide +kernel
theorem dX6_dearOf_44 : decode cX6_dearOf 44 = .ok (.iload_n 2, 1) := by decide +kernel
theorem dX6_dearOf_45 : decode cX6_dearOf 45 = .ok (.istore_n 2, 1) := by decide +kernel
theorem dX6_dearOf_46 : decode cX6_dearOf 46 = .ok (.iload 5, 2) := by decide +kernel
theorem dX6_dearOf_48 : decode cX6_dearOf 48 = .ok (.iload_n 3, 1) := by decide +kernel
theorem dX6_dearOf_49 : decode cX6_dearOf 49 = .ok (.if_icmp .le 8, 3) := by decide +kernel
theorem dX6_dearOf_52 : decode cX6_dearOf 52 = .ok (.iload 5, 2) := by decide +kernel
theorem dX6_dearOf_54 : decode cX6_dearOf 54 = .ok (.goto 4, 3) := by decide +kernel
theorem dX6_dearOf_57 : decode cX6_dearOf 57 = .ok (.iload_n 3, 1) := by decide +kernel
theorem dX6_dearOf_58 : decode cX6_dearOf 58 = .ok (.istore_n 3, 1) := by decide +kernel
theorem dX6_dearOf_59 : decode cX6_dearOf 59 = .ok (.iinc 4 1, 3) := by decide +kernel
theorem dX6_dearOf_62 : decode cX6_dearOf 62 = .ok (.goto (-55), 3) := by decide +kernel
theorem dX6_dearOf_65 : decode cX6_dearOf 65 = .ok (.iload_n 1, 1) := by decide +kernel
theorem dX6_dearOf_66 : decode cX6_dearOf 66 = .ok (.ifCond .ne 7, 3) := by decide +kernel
theorem dX6_dearOf_69 : decode cX6_dearOf 69 = .ok (.iload_n 2, 1) := by decide +kernel
theorem dX6_dearOf_70 : decode cX6_dearOf 70 = .ok (.goto 4, 3) := by decide +kernel
theorem dX6_dearOf_73 : decode cX6_dearOf 73 = .ok (.iload_n 3, 1) := by decide +kernel
theorem dX6_dearOf_74 : decode cX6_dearOf 74 = .ok (.ireturn, 1) := by decide +kernel
set_option maxRecDepth 20000 in
theorem ggX6_dear_X6_in : GoodIn wsX6_dear wsX6_in := goodIn_r _ [4] (by decide +kernel) (by decide +kernel)
set_option maxRecDepth 20000 in
theorem gX6_dear_X6_in : GoodIn wsX6_dear (va_wsS RX6 94 yX6_in wsX6_in) := goodIn_app (goodIn_of _ (by decide +kernel)) ggX6_dear_X6_in
set_option maxRecDepth 20000 in
theorem ggX6_dear_X6_lacks : GoodIn wsX6_dear wsX6_lacks := goodIn_r _ [8, 9, 98, 99, 100, 101, 102, 103, 104, 105, 106, 107, 108, 109, 110, 111, 112, 113, 114, 115, 116, 117, 118, 119, 120, 121, 122, 123, 124, 125, 126, 127, 128, 129, 130, 131, 132, 133, 134, 135, 136, 137, 138, 139, 140, 141, 142, 143, 144, 145, 146, 147] (by decide +kernel) (by decide +kernel)
set_option maxRecDepth 20000 in
theorem gX6_dear_X6_lacks : GoodIn wsX6_dear (wsV RX6 236 RX6 yX6_lacks wsX6_lacks) := goodIn_app (goodIn_of _ (by decide +kernel)) ggX6_dear_X6_lacks
set_option maxRecDepth 20000 in
theorem ggX6_dear_X6_dearOf : GoodIn wsX6_dear wsX6_dearOf := goodIn_r _ [13, 14, 15, 16, 17, 3, 18, 19, 20, 21, 22, 23, 24, 25, 26, 27, 28, 29, 30, 31, 32, 33, 9, 34, 35, 36, 37, 38, 39, 40, 41, 42, 43, 44, 45, 46, 47, 48, 49, 50, 51, 52, 53, 54, 55, 56, 57, 58, 59, 60, 61, 62, 63, 64, 65, 66, 67, 68, 69, 70, 71, 72, 73, 74, 75, 76, 77, 78, 79, 80, 81, 82, 83, 84, 85, 86, 87, 88, 89, 90, 91, 92, 93, 94, 95, 96, 97, 98, 99, 100, 101, 102, 103, 104, 105, 106, 107, 108, 109, 110, 111, 112, 113, 114, 115, 116, 117, 118, 119, 120, 121, 122, 123, 124, 125, 126, 127, 128, 129, 130, 131, 132, 133, 134, 135, 136, 137, 138, 139, 140, 141, 142, 143, 144, 145, 146, 147] (by decide +kernel) (by decide +kernel)
set_option maxRecDepth 20000 in
theorem gX6_dear_X6_dearOf : GoodIn wsX6_dear (wsV RX6 273 RX6 yX6_dearOf wsX6_dearOf) := goodIn_app (goodIn_of _ (by decide +kernel)) ggX6_dear_X6_dearOf
theorem dX6_dear_0 : decode cX6_dear 0 = .ok (.iload_n 1, 1) := by decide +kernel
theorem dX6_dear_1 : decode cX6_dear 1 = .ok (.i2l, 1) := by decide +kernel
theorem dX6_dear_2 : decode cX6_dear 2 = .ok (.lconst 0, 1) := by decide +kernel
theorem dX6_dear_3 : decode cX6_dear 3 = .ok (.lconst 1, 1) := by decide +kernel
theorem dX6_dear_4 : decode cX6_dear 4 = .ok (.invokestatic 94, 3) := by decide +kernel
theorem dX6_dear_7 : decode cX6_dear 7 = .ok (.ifCond .ne 6, 3) := by decide +kernel
theorem dX6_dear_10 : decode cX6_dear 10 = .ok (.bipush (-102), 2) := by decide +kernel
theorem dX6_dear_12 : decode cX6_dear 12 = .ok (.ireturn, 1) := by decide +kernel
theorem dX6_dear_13 : decode cX6_dear 13 = .ok (.aload_n 0, 1) := by decide +kernel
theorem dX6_dear_14 : decode cX6_dear 14 = .ok (.invokevirtual 236, 3) := by decide +kernel
theorem dX6_dear_17 : decode cX6_dear 17 = .ok (.ifCond .eq 8, 3) := by decide +kernel
theorem dX6_dear_20 : decode cX6_dear 20 = .ok (.bipush (-103), 2) := by decide +kernel
theorem dX6_dear_22 : decode cX6_dear 22 = .ok (.goto 8, 3) := by decide +kernel
theorem dX6_dear_25 : decode cX6_dear 25 = .ok (.aload_n 0, 1) := by decide +kernel
theorem dX6_dear_26 : decode cX6_dear 26 = .ok (.iload_n 1, 1) := by decide +kernel
theorem dX6_dear_27 : decode cX6_dear 27 = .ok (.invokevirtual 273, 3) := by decide +kernel
theorem dX6_dear_30 : decode cX6_dear 30 = .ok (.ireturn, 1) := by decide +kernel
set_option maxRecDepth 20000 in
theorem ggX6_replayOf_X6_empty : GoodIn wsX6_replayOf wsX6_empty := goodIn_r _ [10, 11, 12, 13, 14, 15, 5, 101, 102, 103, 104, 105, 106, 107, 108, 109, 110, 111, 112, 113, 114, 115, 116, 117, 118, 119, 120, 121, 122, 123, 124, 125, 126, 127, 128, 129, 130, 131, 132, 133, 134, 135, 136, 137, 138, 139, 140, 141, 142, 143, 144, 145, 146, 147, 148, 149, 150] (by decide +kernel) (by decide +kernel)
set_option maxRecDepth 20000 in
theorem gX6_replayOf_X6_empty : GoodIn wsX6_replayOf (wsV RX6 214 RX6 yX6_empty wsX6_empty) := goodIn_app (goodIn_of _ (by decide +kernel)) ggX6_replayOf_X6_empty
set_option maxRecDepth 20000 in
theorem ggX6_replayOf_X6_leave : GoodIn wsX6_replayOf wsX6_leave := goodIn_r _ [19, 20, 21, 13, 14, 12, 22, 23, 24, 9, 25, 26, 27, 28, 29, 30, 31, 32, 33, 34, 35, 36, 37, 38, 11, 39, 40, 41, 42, 43, 44, 45, 46, 47, 48, 49, 50, 51, 52, 53, 54, 55, 2, 56, 57, 58, 59, 60, 1, 61, 62, 63, 64, 65, 66, 67, 68, 15, 5, 69, 70, 71, 72, 73, 74, 75, 76, 77, 78, 79, 80, 101, 102, 103, 104, 105, 106, 107, 108, 109, 110, 111, 112, 113, 114, 115, 116, 117, 118, 119, 120, 121, 122, 123, 124, 125, 126, 127, 128, 129, 130, 131, 132, 133, 134, 135, 136, 137, 138, 139, 140, 141, 142, 143, 144, 145, 146, 147, 148, 149, 150] (by decide +kernel) (by decide +kernel)
set_option maxRecDepth 20000 in
theorem gX6_replayOf_X6_leave : GoodIn wsX6_replayOf (wsV RX6 233 RX6 yX6_leave wsX6_leave) := goodIn_app (goodIn_of _ (by decide +kernel)) ggX6_replayOf_X6_leave
set_option maxRecDepth 20000 in
theorem ggX6_replayOf_X6_enter : GoodIn wsX6_replayOf wsX6_enter := goodIn_r _ [84, 21, 20, 13, 26, 85, 86, 87, 9, 88, 12, 37, 38, 11, 14, 47, 48, 49, 50, 22, 23, 24, 25, 27, 28, 29, 30, 31, 32, 89, 90, 91, 92, 51, 52, 53, 54, 55, 2, 56, 57, 58, 59, 60, 1, 93, 94, 95, 96, 69, 70, 71, 72, 73, 74, 75, 76, 61, 62, 63, 64, 65, 66, 67, 68, 15, 5, 77, 78, 79, 80, 43, 44, 45, 46, 101, 102, 103, 104, 105, 106, 107, 108, 109, 110, 111, 112, 113, 114, 115, 116, 117, 118, 119, 120, 121, 122, 123, 124, 125, 126, 127, 128, 129, 130, 131, 132, 133, 134, 135, 136, 137, 138, 139, 140, 141, 142, 143, 144, 145, 146, 147, 148, 149, 150] (by decide +kernel) (by decide +kernel)
set_option maxRecDepth 20000 in
theorem gX6_replayOf_X6_enter : GoodIn wsX6_replayOf (wsV RX6 227 RX6 yX6_enter wsX6_enter) := goodIn_app (goodIn_of _ (by decide +kernel)) ggX6_replayOf_X6_enter
set_option maxRecDepth 20000 in
theorem ggX6_replayOf_X6_tall : GoodIn wsX6_replayOf wsX6_tall := goodIn_r _ [100, 11, 22, 23, 24, 9, 25, 26, 101, 102, 103, 104, 105, 106, 107, 108, 109, 110, 111, 112, 113, 114, 115, 116, 117, 118, 119, 120, 121, 122, 123, 124, 125, 126, 127, 128, 129, 130, 131, 132, 133, 134, 135, 136, 137, 138, 139, 140, 141, 142, 143, 144, 145, 146, 147, 148, 149, 150] (by decide +kernel) (by decide +kernel)
set_option maxRecDepth 20000 in
theorem gX6_replayOf_X6_tall : GoodIn wsX6_replayOf (wsV RX6 258 RX6 yX6_tall wsX6_tall) := goodIn_app (goodIn_of _ (by decide +kernel)) ggX6_replayOf_X6_tall
theorem dX6_replayOf_0 : decode cX6_replayOf 0 = .ok (.aload_n 0, 1) := by decide +kernel
theorem dX6_replayOf_1 : decode cX6_replayOf 1 = .ok (.iconst 1, 1) := by decide +kernel
theorem dX6_replayOf_2 : decode cX6_replayOf 2 = .ok (.invokevirtual 214, 3) := by decide +kernel
theorem dX6_replayOf_5 : decode cX6_replayOf 5 = .ok (.aload_n 0, 1) := by decide +kernel
theorem dX6_replayOf_6 : decode cX6_replayOf 6 = .ok (.iload_n 1, 1) := by decide +kernel
theorem dX6_replayOf_7 : decode cX6_replayOf 7 = .ok (.putfield 141, 3) := by decide +kernel
theorem dX6_replayOf_10 : decode cX6_replayOf 10 = .ok (.aload_n 0, 1) := by decide +kernel
theorem dX6_replayOf_11 : decode cX6_replayOf 11 = .ok (.iload_n 2, 1) := by decide +kernel
theorem dX6_replayOf_12 : decode cX6_replayOf 12 = .ok (.putfield 147, 3) := by decide +kernel
theorem dX6_replayOf_15 : decode cX6_replayOf 15 = .ok (.iconst 0, 1) := by decide +kernel
theorem dX6_replayOf_16 : decode cX6_replayOf 16 = .ok (.istore 4, 2) := by decide +kernel
theorem dX6_replayOf_18 : decode cX6_replayOf 18 = .ok (.iload 4, 2) := by decide +kernel
theorem dX6_replayOf_20 : decode cX6_replayOf 20 = .ok (.aload_n 0, 1) := by decide +kernel
theorem dX6_replayOf_21 : decode cX6_replayOf 21 = .ok (.getfield 211, 3) := by decide +kernel
theorem dX6_replayOf_24 : decode cX6_replayOf 24 = .ok (.if_icmp .ge 48, 3) := by decide +kernel
theorem dX6_replayOf_27 : decode cX6_replayOf 27 = .ok (.aload_n 0, 1) := by decide +kernel
theorem dX6_replayOf_28 : decode cX6_replayOf 28 = .ok (.getfield 46, 3) := by decide +kernel
theorem dX6_replayOf_31 : decode cX6_replayOf 31 = .ok (.iload 4, 2) := by decide +kernel
theorem dX6_replayOf_33 : decode cX6_replayOf 33 = .ok (.iaload, 1) := by decide +kernel
theorem dX6_replayOf_34 : decode cX6_replayOf 34 = .ok (.ifCond .ge 20, 3) := by decide +kernel
theorem dX6_replayOf_37 : decode cX6_replayOf 37 = .ok (.aload_n 0, 1) := by decide +kernel
theorem dX6_replayOf_38 : decode cX6_replayOf 38 = .ok (.iconst 1, 1) := by decide +kernel
theorem dX6_replayOf_39 : decode cX6_replayOf 39 = .ok (.iconst (-1), 1) := by decide +kernel
theorem dX6_replayOf_40 : decode cX6_replayOf 40 = .ok (.aload_n 0, 1) := by decide +kernel
theorem dX6_replayOf_41 : decode cX6_replayOf 41 = .ok (.getfield 46, 3) := by decide +kernel
theorem dX6_replayOf_44 : decode cX6_replayOf 44 = .ok (.iload 4, 2) := by decide +kernel
theorem dX6_replayOf_46 : decode cX6_replayOf 46 = .ok (.iaload, 1) := by decide +kernel
theorem dX6_replayOf_47 : decode cX6_replayOf 47 = .ok (.isub, 1) := by decide +kernel
theorem dX6_replayOf_48 : decode cX6_replayOf 48 = .ok (.invokevirtual 233, 3) := by decide +kernel
theorem dX6_replayOf_51 : decode cX6_replayOf 51 = .ok (.goto 15, 3) := by decide +kernel
theorem dX6_replayOf_54 : decode cX6_replayOf 54 = .ok (.aload_n 0, 1) := by decide +kernel
theorem dX6_replayOf_55 : decode cX6_replayOf 55 = .ok (.iconst 1, 1) := by decide +kernel
theorem dX6_replayOf_56 : decode cX6_replayOf 56 = .ok (.aload_n 0, 1) := by decide +kernel
theorem dX6_replayOf_57 : decode cX6_replayOf 57 = .ok (.getfield 46, 3) := by decide +kernel
theorem dX6_replayOf_60 : decode cX6_replayOf 60 = .ok (.iload 4, 2) := by decide +kernel
theorem dX6_replayOf_62 : decode cX6_replayOf 62 = .ok (.iaload, 1) := by decide +kernel
theorem dX6_replayOf_63 : decode cX6_replayOf 63 = .ok (.invokevirtual 227, 3) := by decide +kernel
theorem dX6_replayOf_66 : decode cX6_replayOf 66 = .ok (.iinc 4 1, 3) := by decide +kernel
theorem dX6_replayOf_69 : decode cX6_replayOf 69 = .ok (.goto (-51), 3) := by decide +kernel
theorem dX6_replayOf_72 : decode cX6_replayOf 72 = .ok (.iload_n 3, 1) := by decide +kernel
theorem dX6_replayOf_73 : decode cX6_replayOf 73 = .ok (.ifCond .ne 12, 3) := by decide +kernel
theorem dX6_replayOf_76 : decode cX6_replayOf 76 = .ok (.aload_n 0, 1) := by decide +kernel
theorem dX6_replayOf_77 : decode cX6_replayOf 77 = .ok (.getfield 37, 3) := by decide +kernel
theorem dX6_replayOf_80 : decode cX6_replayOf 80 = .ok (.iconst 1, 1) := by decide +kernel
theorem dX6_replayOf_81 : decode cX6_replayOf 81 = .ok (.iaload, 1) := by decide +kernel
theorem dX6_replayOf_82 : decode cX6_replayOf 82 = .ok (.goto 8, 3) := by decide +kernel
theorem dX6_replayOf_85 : decode cX6_replayOf 85 = .ok (.aload_n 0, 1) := by decide +kernel
theorem dX6_replayOf_86 : decode cX6_replayOf 86 = .ok (.iconst 1, 1) := by decide +kernel
theorem dX6_replayOf_87 : decode cX6_replayOf 87 = .ok (.invokevirtual 258, 3) := by decide +kernel
theorem dX6_replayOf_90 : decode cX6_replayOf 90 = .ok (.ireturn, 1) := by decide +kernel
set_option maxRecDepth 20000 in
theorem ggX6_replay_X6_in : GoodIn wsX6_replay wsX6_in := goodIn_r _ [5] (by decide +kernel) (by decide +kernel)
set_option maxRecDepth 20000 in
theorem gX6_replay_X6_in : GoodIn wsX6_replay (va_wsS RX6 94 yX6_in wsX6_in) := goodIn_app (goodIn_of _ (by decide +kernel)) ggX6_replay_X6_in
set_option maxRecDepth 20000 in
theorem ggX6_replay_X6_isRatio : GoodIn wsX6_replay wsX6_isRatio := goodIn_r _ [8, 1, 2, 3, 4, 5] (by decide +kernel) (by decide +kernel)
set_option maxRecDepth 20000 in
theorem gX6_replay_X6_isRatio : GoodIn wsX6_replay (va_wsS RX6 122 yX6_isRatio wsX6_isRatio) := goodIn_app (goodIn_of _ (by decide +kernel)) ggX6_replay_X6_isRatio
set_option maxRecDepth 20000 in
theorem ggX6_replay_X6_lacks : GoodIn wsX6_replay wsX6_lacks := goodIn_r _ [12, 13, 116, 117, 118, 119, 120, 121, 122, 123, 124, 125, 126, 127, 128, 129, 130, 131, 132, 133, 134, 135, 136, 137, 138, 139, 140, 141, 142, 143, 144, 145, 146, 147, 148, 149, 150, 151, 152, 153, 154, 155, 156, 157, 158, 159, 160, 161, 162, 163, 164, 165] (by decide +kernel) (by decide +kernel)
set_option maxRecDepth 20000 in
theorem gX6_replay_X6_lacks : GoodIn wsX6_replay (wsV RX6 236 RX6 yX6_lacks wsX6_lacks) := goodIn_app (goodIn_of _ (by decide +kernel)) ggX6_replay_X6_lacks
set_option maxRecDepth 20000 in
theorem ggX6_replay_X6_replayOf : GoodIn wsX6_replay wsX6_replayOf := goodIn_r _ [17, 18, 19, 20, 21, 22, 23, 24, 25, 4, 26, 27, 28, 29, 30, 31, 32, 33, 34, 35, 36, 37, 38, 39, 40, 41, 42, 43, 44, 45, 46, 47, 48, 49, 50, 51, 52, 53, 54, 55, 56, 57, 58, 59, 60, 61, 62, 63, 64, 65, 66, 67, 68, 69, 70, 13, 71, 72, 73, 74, 75, 76, 77, 78, 79, 80, 81, 82, 83, 84, 85, 86, 87, 88, 89, 90, 91, 92, 93, 94, 95, 96, 97, 98, 99, 100, 101, 102, 103, 104, 105, 106, 107, 108, 109, 110, 111, 112, 113, 114, 115, 116, 117, 118, 119, 120, 121, 122, 123, 124, 125, 126, 127, 128, 129, 130, 131, 132, 133, 134, 135, 136, 137, 138, 139, 140, 141, 142, 143, 144, 145, 146, 147, 148, 149, 150, 151, 152, 153, 154, 155, 156, 157, 158, 159, 160, 161, 162, 163, 164, 165] (by decide +kernel) (by decide +kernel)
set_option maxRecDepth 20000 in
theorem gX6_replay_X6_replayOf : GoodIn wsX6_replay (wsV RX6 276 RX6 yX6_replayOf wsX6_replayOf) := goodIn_app (goodIn_of _ (by decide +kernel)) ggX6_replay_X6_replayOf
theorem dX6_replay_0 : decode cX6_replay 0 = .ok (.iload_n 1, 1) := by decide +kernel
theorem dX6_replay_1 : decode cX6_replay 1 = .ok (.i2l, 1) := by decide +kernel
theorem dX6_replay_2 : decode cX6_replay 2 = .ok (.lconst 1, 1) := by decide +kernel
theorem dX6_replay_3 : decode cX6_replay 3 = .ok (.ldc2_w 101, 3) := by decide +kernel
theorem dX6_replay_6 : decode cX6_replay 6 = .ok (.invokestatic 94, 3) := by decide +kernel
theorem dX6_replay_9 : decode cX6_replay 9 = .ok (.ifCond .eq 21, 3) := by decide +kernel
theorem dX6_replay_12 : decode cX6_replay 12 = .ok (.iload_n 1, 1) := by decide +kernel
theorem dX6_replay_13 : decode cX6_replay 13 = .ok (.iload_n 2, 1) := by decide +kernel
theorem dX6_replay_14 : decode cX6_replay 14 = .ok (.invokestatic 122, 3) := by decide +kernel
theorem dX6_replay_17 : decode cX6_replay 17 = .ok (.ifCond .eq 13, 3) := by decide +kernel
theorem dX6_replay_20 : decode cX6_replay 20 = .ok (.iload_n 3, 1) := by decide +kernel
theorem dX6_replay_21 : decode cX6_replay 21 = .ok (.i2l, 1) := by decide +kernel
theorem dX6_replay_22 : decode cX6_replay 22 = .ok (.lconst 0, 1) := by decide +kernel
theorem dX6_replay_23 : decode cX6_replay 23 = .ok (.lconst 1, 1) := by decide +kernel
theorem dX6_replay_24 : decode cX6_replay 24 = .ok (.invokestatic 94, 3) := by decide +kernel
theorem dX6_replay_27 : decode cX6_replay 27 = .ok (.ifCond .ne 6, 3) := by decide +kernel
theorem dX6_replay_30 : decode cX6_replay 30 = .ok (.bipush (-102), 2) := by decide +kernel
theorem dX6_replay_32 : decode cX6_replay 32 = .ok (.ireturn, 1) := by decide +kernel
theorem dX6_replay_33 : decode cX6_replay 33 = .ok (.aload_n 0, 1) := by decide +kernel
theorem dX6_replay_34 : decode cX6_replay 34 = .ok (.invokevirtual 236, 3) := by decide +kernel
theorem dX6_replay_37 : decode cX6_replay 37 = .ok (.ifCond .eq 8, 3) := by decide +kernel
theorem dX6_replay_40 : decode cX6_replay 40 = .ok (.bipush (-103), 2) := by decide +kernel
theorem dX6_replay_42 : decode cX6_replay 42 = .ok (.goto 10, 3) := by decide +kernel
theorem dX6_replay_45 : decode cX6_replay 45 = .ok (.aload_n 0, 1) := by decide +kernel
theorem dX6_replay_46 : decode cX6_replay 46 = .ok (.iload_n 1, 1) := by decide +kernel
theorem dX6_replay_47 : decode cX6_replay 47 = .ok (.iload_n 2, 1) := by decide +kernel
theorem dX6_replay_48 : decode cX6_replay 48 = .ok (.iload_n 3, 1) := by decide +kernel
theorem dX6_replay_49 : decode cX6_replay 49 = .ok (.invokevirtual 276, 3) := by decide +kernel
theorem dX6_replay_52 : decode cX6_replay 52 = .ok (.ireturn, 1) := by decide +kernel
set_option maxRecDepth 20000 in
theorem ggX6_aheadOf_X6_begin : GoodIn wsX6_aheadOf wsX6_begin := goodIn_r _ [8, 9, 10, 11, 2, 12, 1, 13, 14, 15, 16, 17, 18, 19, 79, 80, 81, 82, 83, 84, 85, 86, 87, 88, 89, 90, 91, 92, 93, 94, 95, 96, 97, 98, 99, 100, 101, 102, 103, 104, 105, 106, 107, 108, 109, 110, 111, 112, 113, 114, 115, 116, 117, 118, 119, 120, 121, 122, 123, 124, 125, 126, 127, 128] (by decide +kernel) (by decide +kernel)
set_option maxRecDepth 20000 in
theorem gX6_aheadOf_X6_begin : GoodIn wsX6_aheadOf (wsV RX6 267 RX6 yX6_begin wsX6_begin) := goodIn_app (goodIn_of _ (by decide +kernel)) ggX6_aheadOf_X6_begin
set_option maxRecDepth 20000 in
theorem ggX6_aheadOf_X6_leave : GoodIn wsX6_aheadOf wsX6_leave := goodIn_r _ [23, 24, 3, 1, 13, 12, 25, 26, 27, 7, 28, 11, 29, 30, 31, 32, 33, 34, 35, 36, 37, 38, 9, 10, 2, 39, 40, 41, 42, 43, 44, 45, 46, 47, 48, 49, 50, 51, 52, 53, 54, 18, 19, 55, 56, 57, 58, 16, 17, 59, 60, 61, 62, 63, 64, 65, 66, 14, 15, 67, 68, 69, 70, 71, 72, 73, 74, 75, 76, 77, 78, 79, 80, 81, 82, 83, 84, 85, 86, 87, 88, 89, 90, 91, 92, 93, 94, 95, 96, 97, 98, 99, 100, 101, 102, 103, 104, 105, 106, 107, 108, 109, 110, 111, 112, 113, 114, 115, 116, 117, 118, 119, 120, 121, 122, 123, 124, 125, 126, 127, 128] (by decide +kernel) (by decide +kernel)
set_option maxRecDepth 20000 in
theorem gX6_aheadOf_X6_leave : GoodIn wsX6_aheadOf (wsV RX6 233 RX6 yX6_leave wsX6_leave) := goodIn_app (goodIn_of _ (by decide +kernel)) ggX6_aheadOf_X6_leave
theorem dX6_aheadOf_0 : decode cX6_aheadOf 0 = .ok (.aload_n 0, 1) := by decide +kernel
theorem dX6_aheadOf_1 : decode cX6_aheadOf 1 = .ok (.invokevirtual 267, 3) := by decide +kernel
theorem dX6_aheadOf_4 : decode cX6_aheadOf 4 = .ok (.iconst 0, 1) := by decide +kernel
theorem dX6_aheadOf_5 : decode cX6_aheadOf 5 = .ok (.istore_n 1, 1) := by decide +kernel
theorem dX6_aheadOf_6 : decode cX6_aheadOf 6 = .ok (.iconst 0, 1) := by decide +kernel
theorem dX6_aheadOf_7 : decode cX6_aheadOf 7 = .ok (.istore_n 2, 1) := by decide +kernel
theorem dX6_aheadOf_8 : decode cX6_aheadOf 8 = .ok (.aload_n 0, 1) := by decide +kernel
theorem dX6_aheadOf_9 : decode cX6_aheadOf 9 = .ok (.getfield 28, 3) := by decide +kernel
theorem dX6_aheadOf_12 : decode cX6_aheadOf 12 = .ok (.iconst 1, 1) := by decide +kernel
theorem dX6_aheadOf_13 : decode cX6_aheadOf 13 = .ok (.iaload, 1) := by decide +kernel
theorem dX6_aheadOf_14 : decode cX6_aheadOf 14 = .ok (.ifCond .le 39, 3) := by decide +kernel
theorem dX6_aheadOf_17 : decode cX6_aheadOf 17 = .ok (.aload_n 0, 1) := by decide +kernel
theorem dX6_aheadOf_18 : decode cX6_aheadOf 18 = .ok (.getfield 22, 3) := by decide +kernel
theorem dX6_aheadOf_21 : decode cX6_aheadOf 21 = .ok (.bipush 100, 2) := by decide +kernel
theorem dX6_aheadOf_23 : decode cX6_aheadOf 23 = .ok (.iload_n 2, 1) := by decide +kernel
theorem dX6_aheadOf_24 : decode cX6_aheadOf 24 = .ok (.iadd, 1) := by decide +kernel
theorem dX6_aheadOf_25 : decode cX6_aheadOf 25 = .ok (.iaload, 1) := by decide +kernel
theorem dX6_aheadOf_26 : decode cX6_aheadOf 26 = .ok (.ifCond .ne 9, 3) := by decide +kernel
theorem dX6_aheadOf_29 : decode cX6_aheadOf 29 = .ok (.iinc 2 1, 3) := by decide +kernel
theorem dX6_aheadOf_32 : decode cX6_aheadOf 32 = .ok (.goto (-15), 3) := by decide +kernel
theorem dX6_aheadOf_35 : decode cX6_aheadOf 35 = .ok (.aload_n 0, 1) := by decide +kernel
theorem dX6_aheadOf_36 : decode cX6_aheadOf 36 = .ok (.iconst 1, 1) := by decide +kernel
theorem dX6_aheadOf_37 : decode cX6_aheadOf 37 = .ok (.iload_n 2, 1) := by decide +kernel
theorem dX6_aheadOf_38 : decode cX6_aheadOf 38 = .ok (.invokevirtual 233, 3) := by decide +kernel
theorem dX6_aheadOf_41 : decode cX6_aheadOf 41 = .ok (.iinc 1 1, 3) := by decide +kernel
theorem dX6_aheadOf_44 : decode cX6_aheadOf 44 = .ok (.aload_n 0, 1) := by decide +kernel
theorem dX6_aheadOf_45 : decode cX6_aheadOf 45 = .ok (.getfield 171, 3) := by decide +kernel
theorem dX6_aheadOf_48 : decode cX6_aheadOf 48 = .ok (.ifCond .le (-40), 3) := by decide +kernel
theorem dX6_aheadOf_51 : decode cX6_aheadOf 51 = .ok (.iload_n 1, 1) := by decide +kernel
theorem dX6_aheadOf_52 : decode cX6_aheadOf 52 = .ok (.ireturn, 1) := by decide +kernel
theorem dX6_aheadOf_53 : decode cX6_aheadOf 53 = .ok (.iconst (-1), 1) := by decide +kernel
theorem dX6_aheadOf_54 : decode cX6_aheadOf 54 = .ok (.ireturn, 1) := by decide +kernel
set_option maxRecDepth 20000 in
theorem ggX6_ahead_X6_lacks : GoodIn wsX6_ahead wsX6_lacks := goodIn_r _ [5, 6, 87, 88, 89, 90, 91, 92, 93, 94, 95, 96, 97, 98, 99, 100, 101, 102, 103, 104, 105, 106, 107, 108, 109, 110, 111, 112, 113, 114, 115, 116, 117, 118, 119, 120, 121, 122, 123, 124, 125, 126, 127, 128, 129, 130, 131, 132, 133, 134, 135, 136] (by decide +kernel) (by decide +kernel)
set_option maxRecDepth 20000 in
theorem gX6_ahead_X6_lacks : GoodIn wsX6_ahead (wsV RX6 236 RX6 yX6_lacks wsX6_lacks) := goodIn_app (goodIn_of _ (by decide +kernel)) ggX6_ahead_X6_lacks
set_option maxRecDepth 20000 in
theorem ggX6_ahead_X6_aheadOf : GoodIn wsX6_ahead wsX6_aheadOf := goodIn_r _ [10, 11, 12, 13, 14, 15, 16, 4, 17, 18, 19, 20, 21, 22, 23, 24, 25, 26, 6, 27, 28, 29, 30, 31, 32, 33, 34, 35, 36, 37, 38, 39, 40, 41, 42, 43, 44, 45, 46, 47, 48, 49, 50, 51, 52, 53, 54, 55, 56, 57, 58, 59, 60, 61, 62, 63, 64, 65, 66, 67, 68, 69, 70, 71, 72, 73, 74, 75, 76, 77, 78, 79, 80, 81, 82, 83, 84, 85, 86, 87, 88, 89, 90, 91, 92, 93, 94, 95, 96, 97, 98, 99, 100, 101, 102, 103, 104, 105, 106, 107, 108, 109, 110, 111, 112, 113, 114, 115, 116, 117, 118, 119, 120, 121, 122, 123, 124, 125, 126, 127, 128, 129, 130, 131, 132, 133, 134, 135, 136] (by decide +kernel) (by decide +kernel)
set_option maxRecDepth 20000 in
theorem gX6_ahead_X6_aheadOf : GoodIn wsX6_ahead (wsV RX6 280 RX6 yX6_aheadOf wsX6_aheadOf) := goodIn_app (goodIn_of _ (by decide +kernel)) ggX6_ahead_X6_aheadOf
theorem dX6_ahead_0 : decode cX6_ahead 0 = .ok (.aload_n 0, 1) := by decide +kernel
theorem dX6_ahead_1 : decode cX6_ahead 1 = .ok (.invokevirtual 236, 3) := by decide +kernel
theorem dX6_ahead_4 : decode cX6_ahead 4 = .ok (.ifCond .eq 8, 3) := by decide +kernel
theorem dX6_ahead_7 : decode cX6_ahead 7 = .ok (.bipush (-103), 2) := by decide +kernel
theorem dX6_ahead_9 : decode cX6_ahead 9 = .ok (.goto 7, 3) := by decide +kernel
theorem dX6_ahead_12 : decode cX6_ahead 12 = .ok (.aload_n 0, 1) := by decide +kernel
theorem dX6_ahead_13 : decode cX6_ahead 13 = .ok (.invokevirtual 280, 3) := by decide +kernel
theorem dX6_ahead_16 : decode cX6_ahead 16 = .ok (.ireturn, 1) := by decide +kernel
set_option maxRecDepth 20000 in
theorem ggX6_see_X6_in : GoodIn wsX6_see wsX6_in := goodIn_r _ [8] (by decide +kernel) (by decide +kernel)
set_option maxRecDepth 20000 in
theorem gX6_see_X6_in : GoodIn wsX6_see (va_wsS RX6 94 yX6_in wsX6_in) := goodIn_app (goodIn_of _ (by decide +kernel)) ggX6_see_X6_in
set_option maxRecDepth 20000 in
theorem ggX6_see_X6_lacks : GoodIn wsX6_see wsX6_lacks := goodIn_r _ [12, 13, 14, 15, 16, 17, 18, 19, 20, 21, 22, 23, 24, 25, 26, 27, 28, 29, 30, 31, 32, 33, 34, 35, 36, 37, 38, 39, 40, 41, 42, 43, 44, 45, 46, 47, 48, 49, 50, 51, 52, 53, 54, 55, 56, 57, 58, 59, 60, 61, 62, 63] (by decide +kernel) (by decide +kernel)
set_option maxRecDepth 20000 in
theorem gX6_see_X6_lacks : GoodIn wsX6_see (wsV RX6 236 RX6 yX6_lacks wsX6_lacks) := goodIn_app (goodIn_of _ (by decide +kernel)) ggX6_see_X6_lacks
theorem dX6_see_0 : decode cX6_see 0 = .ok (.iload_n 1, 1) := by decide +kernel
theorem dX6_see_1 : decode cX6_see 1 = .ok (.i2l, 1) := by decide +kernel
theorem dX6_see_2 : decode cX6_see 2 = .ok (.lconst 0, 1) := by decide +kernel
theorem dX6_see_3 : decode cX6_see 3 = .ok (.ldc2_w 240, 3) := by decide +kernel
theorem dX6_see_6 : decode cX6_see 6 = .ok (.invokestatic 94, 3) := by decide +kernel
theorem dX6_see_9 : decode cX6_see 9 = .ok (.ifCond .eq 15, 3) := by decide +kernel
theorem dX6_see_12 : decode cX6_see 12 = .ok (.iload_n 2, 1) := by decide +kernel
theorem dX6_see_13 : decode cX6_see 13 = .ok (.i2l, 1) := by decide +kernel
theorem dX6_see_14 : decode cX6_see 14 = .ok (.lconst 0, 1) := by decide +kernel
theorem dX6_see_15 : decode cX6_see 15 = .ok (.ldc2_w 283, 3) := by decide +kernel
theorem dX6_see_18 : decode cX6_see 18 = .ok (.invokestatic 94, 3) := by decide +kernel
theorem dX6_see_21 : decode cX6_see 21 = .ok (.ifCond .ne 6, 3) := by decide +kernel
theorem dX6_see_24 : decode cX6_see 24 = .ok (.bipush (-102), 2) := by decide +kernel
theorem dX6_see_26 : decode cX6_see 26 = .ok (.ireturn, 1) := by decide +kernel
theorem dX6_see_27 : decode cX6_see 27 = .ok (.aload_n 0, 1) := by decide +kernel
theorem dX6_see_28 : decode cX6_see 28 = .ok (.invokevirtual 236, 3) := by decide +kernel
theorem dX6_see_31 : decode cX6_see 31 = .ok (.ifCond .eq 6, 3) := by decide +kernel
theorem dX6_see_34 : decode cX6_see 34 = .ok (.bipush (-103), 2) := by decide +kernel
theorem dX6_see_36 : decode cX6_see 36 = .ok (.ireturn, 1) := by decide +kernel
theorem dX6_see_37 : decode cX6_see 37 = .ok (.aload_n 0, 1) := by decide +kernel
theorem dX6_see_38 : decode cX6_see 38 = .ok (.getfield 218, 3) := by decide +kernel
theorem dX6_see_41 : decode cX6_see 41 = .ok (.bipush 6, 2) := by decide +kernel
theorem dX6_see_43 : decode cX6_see 43 = .ok (.if_icmp .ne 6, 3) := by decide +kernel
theorem dX6_see_46 : decode cX6_see 46 = .ok (.bipush (-104), 2) := by decide +kernel
theorem dX6_see_48 : decode cX6_see 48 = .ok (.ireturn, 1) := by decide +kernel
theorem dX6_see_49 : decode cX6_see 49 = .ok (.aload_n 0, 1) := by decide +kernel
theorem dX6_see_50 : decode cX6_see 50 = .ok (.getfield 61, 3) := by decide +kernel
theorem dX6_see_53 : decode cX6_see 53 = .ok (.iconst 3, 1) := by decide +kernel
theorem dX6_see_54 : decode cX6_see 54 = .ok (.aload_n 0, 1) := by decide +kernel
theorem dX6_see_55 : decode cX6_see 55 = .ok (.getfield 218, 3) := by decide +kernel
theorem dX6_see_58 : decode cX6_see 58 = .ok (.imul, 1) := by decide +kernel
theorem dX6_see_59 : decode cX6_see 59 = .ok (.iload_n 1, 1) := by decide +kernel
theorem dX6_see_60 : decode cX6_see 60 = .ok (.iastore, 1) := by decide +kernel
theorem dX6_see_61 : decode cX6_see 61 = .ok (.aload_n 0, 1) := by decide +kernel
theorem dX6_see_62 : decode cX6_see 62 = .ok (.getfield 61, 3) := by decide +kernel
theorem dX6_see_65 : decode cX6_see 65 = .ok (.iconst 3, 1) := by decide +kernel
theorem dX6_see_66 : decode cX6_see 66 = .ok (.aload_n 0, 1) := by decide +kernel
theorem dX6_see_67 : decode cX6_see 67 = .ok (.getfield 218, 3) := by decide +kernel
theorem dX6_see_70 : decode cX6_see 70 = .ok (.imul, 1) := by decide +kernel
theorem dX6_see_71 : decode cX6_see 71 = .ok (.iconst 1, 1) := by decide +kernel
theorem dX6_see_72 : decode cX6_see 72 = .ok (.iadd, 1) := by decide +kernel
theorem dX6_see_73 : decode cX6_see 73 = .ok (.iload_n 2, 1) := by decide +kernel
theorem dX6_see_74 : decode cX6_see 74 = .ok (.iastore, 1) := by decide +kernel
theorem dX6_see_75 : decode cX6_see 75 = .ok (.aload_n 0, 1) := by decide +kernel
theorem dX6_see_76 : decode cX6_see 76 = .ok (.getfield 61, 3) := by decide +kernel
theorem dX6_see_79 : decode cX6_see 79 = .ok (.iconst 3, 1) := by decide +kernel
theorem dX6_see_80 : decode cX6_see 80 = .ok (.aload_n 0, 1) := by decide +kernel
theorem dX6_see_81 : decode cX6_see 81 = .ok (.getfield 218, 3) := by decide +kernel
theorem dX6_see_84 : decode cX6_see 84 = .ok (.imul, 1) := by decide +kernel
theorem dX6_see_85 : decode cX6_see 85 = .ok (.iconst 2, 1) := by decide +kernel
theorem dX6_see_86 : decode cX6_see 86 = .ok (.iadd, 1) := by decide +kernel
theorem dX6_see_87 : decode cX6_see 87 = .ok (.iload_n 3, 1) := by decide +kernel
theorem dX6_see_88 : decode cX6_see 88 = .ok (.ifCond .eq 7, 3) := by decide +kernel
theorem dX6_see_91 : decode cX6_see 91 = .ok (.iconst 1, 1) := by decide +kernel
theorem dX6_see_92 : decode cX6_see 92 = .ok (.goto 4, 3) := by decide +kernel
theorem dX6_see_95 : decode cX6_see 95 = .ok (.iconst 0, 1) := by decide +kernel
theorem dX6_see_96 : decode cX6_see 96 = .ok (.iastore, 1) := by decide +kernel
theorem dX6_see_97 : decode cX6_see 97 = .ok (.aload_n 0, 1) := by decide +kernel
theorem dX6_see_98 : decode cX6_see 98 = .ok (.dup, 1) := by decide +kernel
theorem dX6_see_99 : decode cX6_see 99 = .ok (.getfield 218, 3) := by decide +kernel
theorem dX6_see_102 : decode cX6_see 102 = .ok (.iconst 1, 1) := by decide +kernel
theorem dX6_see_103 : decode cX6_see 103 = .ok (.iadd, 1) := by decide +kernel
theorem dX6_see_104 : decode cX6_see 104 = .ok (.putfield 218, 3) := by decide +kernel
theorem dX6_see_107 : decode cX6_see 107 = .ok (.aload_n 0, 1) := by decide +kernel
theorem dX6_see_108 : decode cX6_see 108 = .ok (.getfield 218, 3) := by decide +kernel
theorem dX6_see_111 : decode cX6_see 111 = .ok (.ireturn, 1) := by decide +kernel
theorem dX6_forget_0 : decode cX6_forget 0 = .ok (.aload_n 0, 1) := by decide +kernel
theorem dX6_forget_1 : decode cX6_forget 1 = .ok (.getfield 218, 3) := by decide +kernel
theorem dX6_forget_4 : decode cX6_forget 4 = .ok (.istore_n 1, 1) := by decide +kernel
theorem dX6_forget_5 : decode cX6_forget 5 = .ok (.aload_n 0, 1) := by decide +kernel
theorem dX6_forget_6 : decode cX6_forget 6 = .ok (.iconst 0, 1) := by decide +kernel
theorem dX6_forget_7 : decode cX6_forget 7 = .ok (.putfield 218, 3) := by decide +kernel
theorem dX6_forget_10 : decode cX6_forget 10 = .ok (.iload_n 1, 1) := by decide +kernel
theorem dX6_forget_11 : decode cX6_forget 11 = .ok (.ireturn, 1) := by decide +kernel
theorem dX6_sortsBy_0 : decode cX6_sortsBy 0 = .ok (.iload_n 0, 1) := by decide +kernel
theorem dX6_sortsBy_1 : decode cX6_sortsBy 1 = .ok (.tableswitch 35 0 2 #[27, 30, 33], 27) := by decide +kernel
theorem dX6_sortsBy_28 : decode cX6_sortsBy 28 = .ok (.bipush 13, 2) := by decide +kernel
theorem dX6_sortsBy_30 : decode cX6_sortsBy 30 = .ok (.ireturn, 1) := by decide +kernel
theorem dX6_sortsBy_31 : decode cX6_sortsBy 31 = .ok (.bipush 15, 2) := by decide +kernel
theorem dX6_sortsBy_33 : decode cX6_sortsBy 33 = .ok (.ireturn, 1) := by decide +kernel
theorem dX6_sortsBy_34 : decode cX6_sortsBy 34 = .ok (.iconst 4, 1) := by decide +kernel
theorem dX6_sortsBy_35 : decode cX6_sortsBy 35 = .ok (.ireturn, 1) := by decide +kernel
theorem dX6_sortsBy_36 : decode cX6_sortsBy 36 = .ok (.bipush 23, 2) := by decide +kernel
theorem dX6_sortsBy_38 : decode cX6_sortsBy 38 = .ok (.ireturn, 1) := by decide +kernel
set_option maxRecDepth 20000 in
theorem ggX6_sortsOf_X6_sortsBy : GoodIn wsX6_sortsOf wsX6_sortsBy := goodIn_r _ [6] (by decide +kernel) (by decide +kernel)
set_option maxRecDepth 20000 in
theorem gX6_sortsOf_X6_sortsBy : GoodIn wsX6_sortsOf (va_wsS RX6 285 yX6_sortsBy wsX6_sortsBy) := goodIn_app (goodIn_of _ (by decide +kernel)) ggX6_sortsOf_X6_sortsBy
theorem dX6_sortsOf_0 : decode cX6_sortsOf 0 = .ok (.bipush 31, 2) := by decide +kernel
theorem dX6_sortsOf_2 : decode cX6_sortsOf 2 = .ok (.istore_n 2, 1) := by decide +kernel
theorem dX6_sortsOf_3 : decode cX6_sortsOf 3 = .ok (.iconst 0, 1) := by decide +kernel
theorem dX6_sortsOf_4 : decode cX6_sortsOf 4 = .ok (.istore_n 3, 1) := by decide +kernel
theorem dX6_sortsOf_5 : decode cX6_sortsOf 5 = .ok (.iload_n 3, 1) := by decide +kernel
theorem dX6_sortsOf_6 : decode cX6_sortsOf 6 = .ok (.iconst 3, 1) := by decide +kernel
theorem dX6_sortsOf_7 : decode cX6_sortsOf 7 = .ok (.aload_n 0, 1) := by decide +kernel
theorem dX6_sortsOf_8 : decode cX6_sortsOf 8 = .ok (.getfield 218, 3) := by decide +kernel
theorem dX6_sortsOf_11 : decode cX6_sortsOf 11 = .ok (.imul, 1) := by decide +kernel
theorem dX6_sortsOf_12 : decode cX6_sortsOf 12 = .ok (.if_icmp .ge 57, 3) := by decide +kernel
theorem dX6_sortsOf_15 : decode cX6_sortsOf 15 = .ok (.aload_n 0, 1) := by decide +kernel
theorem dX6_sortsOf_16 : decode cX6_sortsOf 16 = .ok (.getfield 61, 3) := by decide +kernel
theorem dX6_sortsOf_19 : decode cX6_sortsOf 19 = .ok (.iload_n 3, 1) := by decide +kernel
theorem dX6_sortsOf_20 : decode cX6_sortsOf 20 = .ok (.iaload, 1) := by decide +kernel
theorem dX6_sortsOf_21 : decode cX6_sortsOf 21 = .ok (.iload_n 1, 1) := by decide +kernel
theorem dX6_sortsOf_22 : decode cX6_sortsOf 22 = .ok (.if_icmp .ne 41, 3) := by decide +kernel
theorem dX6_sortsOf_25 : decode cX6_sortsOf 25 = .ok (.aload_n 0, 1) := by decide +kernel
theorem dX6_sortsOf_26 : decode cX6_sortsOf 26 = .ok (.getfield 61, 3) := by decide +kernel
theorem dX6_sortsOf_29 : decode cX6_sortsOf 29 = .ok (.iload_n 3, 1) := by decide +kernel
theorem dX6_sortsOf_30 : decode cX6_sortsOf 30 = .ok (.iconst 1, 1) := by decide +kernel
theorem dX6_sortsOf_31 : decode cX6_sortsOf 31 = .ok (.iadd, 1) := by decide +kernel
theorem dX6_sortsOf_32 : decode cX6_sortsOf 32 = .ok (.iaload, 1) := by decide +kernel
theorem dX6_sortsOf_33 : decode cX6_sortsOf 33 = .ok (.invokestatic 285, 3) := by decide +kernel
theorem dX6_sortsOf_36 : decode cX6_sortsOf 36 = .ok (.istore 4, 2) := by decide +kernel
theorem dX6_sortsOf_38 : decode cX6_sortsOf 38 = .ok (.iload_n 2, 1) := by decide +kernel
theorem dX6_sortsOf_39 : decode cX6_sortsOf 39 = .ok (.aload_n 0, 1) := by decide +kernel
theorem dX6_sortsOf_40 : decode cX6_sortsOf 40 = .ok (.getfield 61, 3) := by decide +kernel
theorem dX6_sortsOf_43 : decode cX6_sortsOf 43 = .ok (.iload_n 3, 1) := by decide +kernel
theorem dX6_sortsOf_44 : decode cX6_sortsOf 44 = .ok (.iconst 2, 1) := by decide +kernel
theorem dX6_sortsOf_45 : decode cX6_sortsOf 45 = .ok (.iadd, 1) := by decide +kernel
theorem dX6_sortsOf_46 : decode cX6_sortsOf 46 = .ok (.iaload, 1) := by decide +kernel
theorem dX6_sortsOf_47 : decode cX6_sortsOf 47 = .ok (.iconst 1, 1) := by decide +kernel
theorem dX6_sortsOf_48 : decode cX6_sortsOf 48 = .ok (.if_icmp .ne 8, 3) := by decide +kernel
theorem dX6_sortsOf_51 : decode cX6_sortsOf 51 = .ok (.iload 4, 2) := by decide +kernel
theorem dX6_sortsOf_53 : decode cX6_sortsOf 53 = .ok (.goto 8, 3) := by decide +kernel
theorem dX6_sortsOf_56 : decode cX6_sortsOf 56 = .ok (.bipush 31, 2) := by decide +kernel
theorem dX6_sortsOf_58 : decode cX6_sortsOf 58 = .ok (.iload 4, 2) := by decide +kernel
theorem dX6_sortsOf_60 : decode cX6_sortsOf 60 = .ok (.isub, 1) := by decide +kernel
theorem dX6_sortsOf_61 : decode cX6_sortsOf 61 = .ok (.iand, 1) := by decide +kernel
theorem dX6_sortsOf_62 : decode cX6_sortsOf 62 = .ok (.istore_n 2, 1) := by decide +kernel
theorem dX6_sortsOf_63 : decode cX6_sortsOf 63 = .ok (.iinc 3 3, 3) := by decide +kernel
theorem dX6_sortsOf_66 : decode cX6_sortsOf 66 = .ok (.goto (-61), 3) := by decide +kernel
theorem dX6_sortsOf_69 : decode cX6_sortsOf 69 = .ok (.iload_n 2, 1) := by decide +kernel
theorem dX6_sortsOf_70 : decode cX6_sortsOf 70 = .ok (.ireturn, 1) := by decide +kernel
theorem dX6_ones_0 : decode cX6_ones 0 = .ok (.iconst 0, 1) := by decide +kernel
theorem dX6_ones_1 : decode cX6_ones 1 = .ok (.istore_n 1, 1) := by decide +kernel
theorem dX6_ones_2 : decode cX6_ones 2 = .ok (.iconst 0, 1) := by decide +kernel
theorem dX6_ones_3 : decode cX6_ones 3 = .ok (.istore_n 2, 1) := by decide +kernel
theorem dX6_ones_4 : decode cX6_ones 4 = .ok (.iload_n 2, 1) := by decide +kernel
theorem dX6_ones_5 : decode cX6_ones 5 = .ok (.iconst 5, 1) := by decide +kernel
theorem dX6_ones_6 : decode cX6_ones 6 = .ok (.if_icmp .ge 17, 3) := by decide +kernel
theorem dX6_ones_9 : decode cX6_ones 9 = .ok (.iload_n 1, 1) := by decide +kernel
theorem dX6_ones_10 : decode cX6_ones 10 = .ok (.iload_n 0, 1) := by decide +kernel
theorem dX6_ones_11 : decode cX6_ones 11 = .ok (.iload_n 2, 1) := by decide +kernel
theorem dX6_ones_12 : decode cX6_ones 12 = .ok (.ishr, 1) := by decide +kernel
theorem dX6_ones_13 : decode cX6_ones 13 = .ok (.iconst 1, 1) := by decide +kernel
theorem dX6_ones_14 : decode cX6_ones 14 = .ok (.iand, 1) := by decide +kernel
theorem dX6_ones_15 : decode cX6_ones 15 = .ok (.iadd, 1) := by decide +kernel
theorem dX6_ones_16 : decode cX6_ones 16 = .ok (.istore_n 1, 1) := by decide +kernel
theorem dX6_ones_17 : decode cX6_ones 17 = .ok (.iinc 2 1, 3) := by decide +kernel
theorem dX6_ones_20 : decode cX6_ones 20 = .ok (.goto (-16), 3) := by decide +kernel
theorem dX6_ones_23 : decode cX6_ones 23 = .ok (.iload_n 1, 1) := by decide +kernel
theorem dX6_ones_24 : decode cX6_ones 24 = .ok (.ireturn, 1) := by decide +kernel
set_option maxRecDepth 20000 in
theorem ggX6_askOf_X6_sortsOf : GoodIn wsX6_askOf wsX6_sortsOf := goodIn_r _ [5, 6, 7, 8, 9, 4, 10, 14, 15, 16, 17, 18, 19, 20, 21, 22, 23, 24, 25, 26, 27, 28, 29, 30, 31, 32, 33, 34, 35, 36, 37, 38, 39, 40, 41, 42, 43, 44, 45, 46, 47, 48, 49, 50, 51, 52, 53, 54, 55, 56, 57, 58, 59, 60, 61, 62, 63] (by decide +kernel) (by decide +kernel)
set_option maxRecDepth 20000 in
theorem gX6_askOf_X6_sortsOf : GoodIn wsX6_askOf (wsV RX6 288 RX6 yX6_sortsOf wsX6_sortsOf) := goodIn_app (goodIn_of _ (by decide +kernel)) ggX6_askOf_X6_sortsOf
set_option maxRecDepth 20000 in
theorem ggX6_askOf_X6_sortsBy : GoodIn wsX6_askOf wsX6_sortsBy := goodIn_r _ [10] (by decide +kernel) (by decide +kernel)
set_option maxRecDepth 20000 in
theorem gX6_askOf_X6_sortsBy : GoodIn wsX6_askOf (va_wsS RX6 285 yX6_sortsBy wsX6_sortsBy) := goodIn_app (goodIn_of _ (by decide +kernel)) ggX6_askOf_X6_sortsBy
set_option maxRecDepth 20000 in
theorem ggX6_askOf_X6_ones : GoodIn wsX6_askOf wsX6_ones := goodIn_r _ [13] (by decide +kernel) (by decide +kernel)
set_option maxRecDepth 20000 in
theorem gX6_askOf_X6_ones : GoodIn wsX6_askOf (va_wsS RX6 291 yX6_ones wsX6_ones) := goodIn_app (goodIn_of _ (by decide +kernel)) ggX6_askOf_X6_ones
theorem dX6_askOf_0 : decode cX6_askOf 0 = .ok (.aload_n 0, 1) := by decide +kernel
theorem dX6_askOf_1 : decode cX6_askOf 1 = .ok (.iload_n 1, 1) := by decide +kernel
theorem dX6_askOf_2 : decode cX6_askOf 2 = .ok (.invokevirtual 288, 3) := by decide +kernel
theorem dX6_askOf_5 : decode cX6_askOf 5 = .ok (.istore_n 2, 1) := by decide +kernel
theorem dX6_askOf_6 : decode cX6_askOf 6 = .ok (.iconst (-1), 1) := by decide +kernel
theorem dX6_askOf_7 : decode cX6_askOf 7 = .ok (.istore_n 3, 1) := by decide +kernel
theorem dX6_askOf_8 : decode cX6_askOf 8 = .ok (.bipush 6, 2) := by decide +kernel
theorem dX6_askOf_10 : decode cX6_askOf 10 = .ok (.istore 4, 2) := by decide +kernel
theorem dX6_askOf_12 : decode cX6_askOf 12 = .ok (.iconst 0, 1) := by decide +kernel
theorem dX6_askOf_13 : decode cX6_askOf 13 = .ok (.istore 5, 2) := by decide +kernel
theorem dX6_askOf_15 : decode cX6_askOf 15 = .ok (.iload 5, 2) := by decide +kernel
theorem dX6_askOf_17 : decode cX6_askOf 17 = .ok (.iconst 4, 1) := by decide +kernel
theorem dX6_askOf_18 : decode cX6_askOf 18 = .ok (.if_icmp .ge 80, 3) := by decide +kernel
theorem dX6_askOf_21 : decode cX6_askOf 21 = .ok (.iload_n 2, 1) := by decide +kernel
theorem dX6_askOf_22 : decode cX6_askOf 22 = .ok (.ifCond .eq 76, 3) := by decide +kernel
theorem dX6_askOf_25 : decode cX6_askOf 25 = .ok (.iload_n 2, 1) := by decide +kernel
theorem dX6_askOf_26 : decode cX6_askOf 26 = .ok (.iload 5, 2) := by decide +kernel
theorem dX6_askOf_28 : decode cX6_askOf 28 = .ok (.invokestatic 285, 3) := by decide +kernel
theorem dX6_askOf_31 : decode cX6_askOf 31 = .ok (.iand, 1) := by decide +kernel
theorem dX6_askOf_32 : decode cX6_askOf 32 = .ok (.invokestatic 291, 3) := by decide +kernel
theorem dX6_askOf_35 : decode cX6_askOf 35 = .ok (.istore 6, 2) := by decide +kernel
theorem dX6_askOf_37 : decode cX6_askOf 37 = .ok (.iload_n 2, 1) := by decide +kernel
theorem dX6_askOf_38 : decode cX6_askOf 38 = .ok (.invokestatic 291, 3) := by decide +kernel
theorem dX6_askOf_41 : decode cX6_askOf 41 = .ok (.iload 6, 2) := by decide +kernel
theorem dX6_askOf_43 : decode cX6_askOf 43 = .ok (.isub, 1) := by decide +kernel
theorem dX6_askOf_44 : decode cX6_askOf 44 = .ok (.istore 7, 2) := by decide +kernel
theorem dX6_askOf_46 : decode cX6_askOf 46 = .ok (.iload 6, 2) := by decide +kernel
theorem dX6_askOf_48 : decode cX6_askOf 48 = .ok (.iload 7, 2) := by decide +kernel
theorem dX6_askOf_50 : decode cX6_askOf 50 = .ok (.if_icmp .le 8, 3) := by decide +kernel
theorem dX6_askOf_53 : decode cX6_askOf 53 = .ok (.iload 6, 2) := by decide +kernel
theorem dX6_askOf_55 : decode cX6_askOf 55 = .ok (.goto 5, 3) := by decide +kernel
theorem dX6_askOf_58 : decode cX6_askOf 58 = .ok (.iload 7, 2) := by decide +kernel
theorem dX6_askOf_60 : decode cX6_askOf 60 = .ok (.istore 8, 2) := by decide +kernel
theorem dX6_askOf_62 : decode cX6_askOf 62 = .ok (.iload 8, 2) := by decide +kernel
theorem dX6_askOf_64 : decode cX6_askOf 64 = .ok (.iload 4, 2) := by decide +kernel
theorem dX6_askOf_66 : decode cX6_askOf 66 = .ok (.if_icmp .ge 8, 3) := by decide +kernel
theorem dX6_askOf_69 : decode cX6_askOf 69 = .ok (.iload 5, 2) := by decide +kernel
theorem dX6_askOf_71 : decode cX6_askOf 71 = .ok (.goto 4, 3) := by decide +kernel
theorem dX6_askOf_74 : decode cX6_askOf 74 = .ok (.iload_n 3, 1) := by decide +kernel
theorem dX6_askOf_75 : decode cX6_askOf 75 = .ok (.istore_n 3, 1) := by decide +kernel
theorem dX6_askOf_76 : decode cX6_askOf 76 = .ok (.iload 8, 2) := by decide +kernel
theorem dX6_askOf_78 : decode cX6_askOf 78 = .ok (.iload 4, 2) := by decide +kernel
theorem dX6_askOf_80 : decode cX6_askOf 80 = .ok (.if_icmp .ge 8, 3) := by decide +kernel
theorem dX6_askOf_83 : decode cX6_askOf 83 = .ok (.iload 8, 2) := by decide +kernel
theorem dX6_askOf_85 : decode cX6_askOf 85 = .ok (.goto 5, 3) := by decide +kernel
theorem dX6_askOf_88 : decode cX6_askOf 88 = .ok (.iload 4, 2) := by decide +kernel
theorem dX6_askOf_90 : decode cX6_askOf 90 = .ok (.istore 4, 2) := by decide +kernel
theorem dX6_askOf_92 : decode cX6_askOf 92 = .ok (.iinc 5 1, 3) := by decide +kernel
theorem dX6_askOf_95 : decode cX6_askOf 95 = .ok (.goto (-80), 3) := by decide +kernel
theorem dX6_askOf_98 : decode cX6_askOf 98 = .ok (.iload_n 3, 1) := by decide +kernel
theorem dX6_askOf_99 : decode cX6_askOf 99 = .ok (.ireturn, 1) := by decide +kernel
set_option maxRecDepth 20000 in
theorem ggX6_sorts_X6_in : GoodIn wsX6_sorts wsX6_in := goodIn_r _ [5] (by decide +kernel) (by decide +kernel)
set_option maxRecDepth 20000 in
theorem gX6_sorts_X6_in : GoodIn wsX6_sorts (va_wsS RX6 94 yX6_in wsX6_in) := goodIn_app (goodIn_of _ (by decide +kernel)) ggX6_sorts_X6_in
set_option maxRecDepth 20000 in
theorem ggX6_sorts_X6_sortsOf : GoodIn wsX6_sorts wsX6_sortsOf := goodIn_r _ [9, 10, 11, 12, 13, 4, 14, 22, 23, 24, 25, 26, 27, 28, 29, 30, 31, 32, 33, 34, 35, 36, 37, 38, 39, 40, 41, 42, 43, 44, 45, 46, 47, 48, 49, 50, 51, 52, 53, 54, 55, 56, 57, 58, 59, 60, 61, 62, 63, 64, 65, 66, 67, 68, 69, 70, 71] (by decide +kernel) (by decide +kernel)
set_option maxRecDepth 20000 in
theorem gX6_sorts_X6_sortsOf : GoodIn wsX6_sorts (wsV RX6 288 RX6 yX6_sortsOf wsX6_sortsOf) := goodIn_app (goodIn_of _ (by decide +kernel)) ggX6_sorts_X6_sortsOf
set_option maxRecDepth 20000 in
theorem ggX6_sorts_X6_askOf : GoodIn wsX6_sorts wsX6_askOf := goodIn_r _ [18, 6, 7, 8, 4, 9, 10, 11, 12, 13, 14, 19, 20, 21, 22, 23, 24, 25, 26, 27, 28, 29, 30, 31, 32, 33, 34, 35, 36, 37, 38, 39, 40, 41, 42, 43, 44, 45, 46, 47, 48, 49, 50, 51, 52, 53, 54, 55, 56, 57, 58, 59, 60, 61, 62, 63, 64, 65, 66, 67, 68, 69, 70, 71] (by decide +kernel) (by decide +kernel)
set_option maxRecDepth 20000 in
theorem gX6_sorts_X6_askOf : GoodIn wsX6_sorts (wsV RX6 294 RX6 yX6_askOf wsX6_askOf) := goodIn_app (goodIn_of _ (by decide +kernel)) ggX6_sorts_X6_askOf
theorem dX6_sorts_0 : decode cX6_sorts 0 = .ok (.iload_n 1, 1) := by decide +kernel
theorem dX6_sorts_1 : decode cX6_sorts 1 = .ok (.i2l, 1) := by decide +kernel
theorem dX6_sorts_2 : decode cX6_sorts 2 = .ok (.lconst 0, 1) := by decide +kernel
theorem dX6_sorts_3 : decode cX6_sorts 3 = .ok (.ldc2_w 240, 3) := by decide +kernel
theorem dX6_sorts_6 : decode cX6_sorts 6 = .ok (.invokestatic 94, 3) := by decide +kernel
theorem dX6_sorts_9 : decode cX6_sorts 9 = .ok (.ifCond .eq 13, 3) := by decide +kernel
theorem dX6_sorts_12 : decode cX6_sorts 12 = .ok (.iload_n 2, 1) := by decide +kernel
theorem dX6_sorts_13 : decode cX6_sorts 13 = .ok (.i2l, 1) := by decide +kernel
theorem dX6_sorts_14 : decode cX6_sorts 14 = .ok (.lconst 0, 1) := by decide +kernel
theorem dX6_sorts_15 : decode cX6_sorts 15 = .ok (.lconst 1, 1) := by decide +kernel
theorem dX6_sorts_16 : decode cX6_sorts 16 = .ok (.invokestatic 94, 3) := by decide +kernel
theorem dX6_sorts_19 : decode cX6_sorts 19 = .ok (.ifCond .ne 6, 3) := by decide +kernel
theorem dX6_sorts_22 : decode cX6_sorts 22 = .ok (.bipush (-102), 2) := by decide +kernel
theorem dX6_sorts_24 : decode cX6_sorts 24 = .ok (.ireturn, 1) := by decide +kernel
theorem dX6_sorts_25 : decode cX6_sorts 25 = .ok (.iload_n 2, 1) := by decide +kernel
theorem dX6_sorts_26 : decode cX6_sorts 26 = .ok (.ifCond .ne 11, 3) := by decide +kernel
theorem dX6_sorts_29 : decode cX6_sorts 29 = .ok (.aload_n 0, 1) := by decide +kernel
theorem dX6_sorts_30 : decode cX6_sorts 30 = .ok (.iload_n 1, 1) := by decide +kernel
theorem dX6_sorts_31 : decode cX6_sorts 31 = .ok (.invokevirtual 288, 3) := by decide +kernel
theorem dX6_sorts_34 : decode cX6_sorts 34 = .ok (.goto 8, 3) := by decide +kernel
theorem dX6_sorts_37 : decode cX6_sorts 37 = .ok (.aload_n 0, 1) := by decide +kernel
theorem dX6_sorts_38 : decode cX6_sorts 38 = .ok (.iload_n 1, 1) := by decide +kernel
theorem dX6_sorts_39 : decode cX6_sorts 39 = .ok (.invokevirtual 294, 3) := by decide +kernel
theorem dX6_sorts_42 : decode cX6_sorts 42 = .ok (.ireturn, 1) := by decide +kernel
theorem dX6_draw_0 : decode cX6_draw 0 = .ok (.aload_n 0, 1) := by decide +kernel
theorem dX6_draw_1 : decode cX6_draw 1 = .ok (.ldc2_w 297, 3) := by decide +kernel
theorem dX6_draw_4 : decode cX6_draw 4 = .ok (.aload_n 0, 1) := by decide +kernel
theorem dX6_draw_5 : decode cX6_draw 5 = .ok (.getfield 299, 3) := by decide +kernel
theorem dX6_draw_8 : decode cX6_draw 8 = .ok (.i2l, 1) := by decide +kernel
theorem dX6_draw_9 : decode cX6_draw 9 = .ok (.lmul, 1) := by decide +kernel
theorem dX6_draw_10 : decode cX6_draw 10 = .ok (.ldc2_w 302, 3) := by decide +kernel
theorem dX6_draw_13 : decode cX6_draw 13 = .ok (.ladd, 1) := by decide +kernel
theorem dX6_draw_14 : decode cX6_draw 14 = .ok (.ldc2_w 304, 3) := by decide +kernel
theorem dX6_draw_17 : decode cX6_draw 17 = .ok (.land, 1) := by decide +kernel
theorem dX6_draw_18 : decode cX6_draw 18 = .ok (.l2i, 1) := by decide +kernel
theorem dX6_draw_19 : decode cX6_draw 19 = .ok (.putfield 299, 3) := by decide +kernel
theorem dX6_draw_22 : decode cX6_draw 22 = .ok (.aload_n 0, 1) := by decide +kernel
theorem dX6_draw_23 : decode cX6_draw 23 = .ok (.getfield 299, 3) := by decide +kernel
theorem dX6_draw_26 : decode cX6_draw 26 = .ok (.ldc_w 306, 3) := by decide +kernel
theorem dX6_draw_29 : decode cX6_draw 29 = .ok (.idiv, 1) := by decide +kernel
theorem dX6_draw_30 : decode cX6_draw 30 = .ok (.iload_n 1, 1) := by decide +kernel
theorem dX6_draw_31 : decode cX6_draw 31 = .ok (.irem, 1) := by decide +kernel
theorem dX6_draw_32 : decode cX6_draw 32 = .ok (.ireturn, 1) := by decide +kernel
set_option maxRecDepth 20000 in
theorem ggX6_drawn_X6_in : GoodIn wsX6_drawn wsX6_in := goodIn_r _ [10] (by decide +kernel) (by decide +kernel)
set_option maxRecDepth 20000 in
theorem gX6_drawn_X6_in : GoodIn wsX6_drawn (va_wsS RX6 94 yX6_in wsX6_in) := goodIn_app (goodIn_of _ (by decide +kernel)) ggX6_drawn_X6_in
set_option maxRecDepth 20000 in
theorem ggX6_drawn_X6_lacks : GoodIn wsX6_drawn wsX6_lacks := goodIn_r _ [14, 15, 117, 118, 119, 120, 121, 122, 123, 124, 125, 126, 127, 128, 129, 130, 131, 132, 133, 134, 135, 136, 137, 138, 139, 140, 141, 142, 143, 144, 145, 146, 147, 148, 149, 150, 151, 152, 153, 154, 155, 156, 157, 158, 159, 160, 161, 162, 163, 164, 165, 166] (by decide +kernel) (by decide +kernel)
set_option maxRecDepth 20000 in
theorem gX6_drawn_X6_lacks : GoodIn wsX6_drawn (wsV RX6 236 RX6 yX6_lacks wsX6_lacks) := goodIn_app (goodIn_of _ (by decide +kernel)) ggX6_drawn_X6_lacks
set_option maxRecDepth 20000 in
theorem ggX6_drawn_X6_begin : GoodIn wsX6_drawn wsX6_begin := goodIn_r _ [19, 20, 21, 22, 4, 23, 5, 24, 25, 6, 26, 27, 15, 28, 117, 118, 119, 120, 121, 122, 123, 124, 125, 126, 127, 128, 129, 130, 131, 132, 133, 134, 135, 136, 137, 138, 139, 140, 141, 142, 143, 144, 145, 146, 147, 148, 149, 150, 151, 152, 153, 154, 155, 156, 157, 158, 159, 160, 161, 162, 163, 164, 165, 166] (by decide +kernel) (by decide +kernel)
set_option maxRecDepth 20000 in
theorem gX6_drawn_X6_begin : GoodIn wsX6_drawn (wsV RX6 267 RX6 yX6_begin wsX6_begin) := goodIn_app (goodIn_of _ (by decide +kernel)) ggX6_drawn_X6_begin
set_option maxRecDepth 20000 in
theorem ggX6_drawn_X6_draw : GoodIn wsX6_drawn wsX6_draw := goodIn_r _ [32, 33, 3, 34, 35, 36, 117, 118, 119, 120, 121, 122, 123, 124, 125, 126, 127, 128, 129, 130, 131, 132, 133, 134, 135, 136, 137, 138, 139, 140, 141, 142, 143, 144, 145, 146, 147, 148, 149, 150, 151, 152, 153, 154, 155, 156, 157, 158, 159, 160, 161, 162, 163, 164, 165, 166] (by decide +kernel) (by decide +kernel)
set_option maxRecDepth 20000 in
theorem gX6_drawn_X6_draw : GoodIn wsX6_drawn (wsV RX6 311 RX6 yX6_draw wsX6_draw) := goodIn_app (goodIn_of _ (by decide +kernel)) ggX6_drawn_X6_draw
set_option maxRecDepth 20000 in
theorem ggX6_drawn_X6_leave : GoodIn wsX6_drawn wsX6_leave := goodIn_r _ [40, 41, 42, 5, 24, 23, 43, 44, 45, 9, 46, 22, 47, 48, 49, 50, 51, 52, 53, 54, 55, 56, 20, 21, 4, 57, 58, 59, 60, 61, 62, 63, 64, 65, 66, 67, 68, 69, 70, 71, 72, 15, 28, 73, 74, 75, 76, 26, 27, 77, 78, 79, 80, 81, 82, 83, 84, 25, 6, 85, 86, 87, 88, 89, 90, 91, 92, 93, 94, 95, 96, 117, 118, 119, 120, 121, 122, 123, 124, 125, 126, 127, 128, 129, 130, 131, 132, 133, 134, 135, 136, 137, 138, 139, 140, 141, 142, 143, 144, 145, 146, 147, 148, 149, 150, 151, 152, 153, 154, 155, 156, 157, 158, 159, 160, 161, 162, 163, 164, 165, 166] (by decide +kernel) (by decide +kernel)
set_option maxRecDepth 20000 in
theorem gX6_drawn_X6_leave : GoodIn wsX6_drawn (wsV RX6 233 RX6 yX6_leave wsX6_leave) := goodIn_app (goodIn_of _ (by decide +kernel)) ggX6_drawn_X6_leave
set_option maxRecDepth 20000 in
theorem ggX6_drawn_X6_enter : GoodIn wsX6_drawn wsX6_enter := goodIn_r _ [100, 42, 41, 5, 22, 101, 102, 103, 9, 104, 23, 20, 21, 4, 24, 65, 66, 67, 68, 43, 44, 45, 46, 47, 48, 49, 50, 51, 52, 105, 106, 107, 108, 69, 70, 71, 72, 15, 28, 73, 74, 75, 76, 26, 27, 109, 110, 111, 112, 85, 86, 87, 88, 89, 90, 91, 92, 77, 78, 79, 80, 81, 82, 83, 84, 25, 6, 93, 94, 95, 96, 61, 62, 63, 64, 117, 118, 119, 120, 121, 122, 123, 124, 125, 126, 127, 128, 129, 130, 131, 132, 133, 134, 135, 136, 137, 138, 139, 140, 141, 142, 143, 144, 145, 146, 147, 148, 149, 150, 151, 152, 153, 154, 155, 156, 157, 158, 159, 160, 161, 162, 163, 164, 165, 166] (by decide +kernel) (by decide +kernel)
set_option maxRecDepth 20000 in
theorem gX6_drawn_X6_enter : GoodIn wsX6_drawn (wsV RX6 227 RX6 yX6_enter wsX6_enter) := goodIn_app (goodIn_of _ (by decide +kernel)) ggX6_drawn_X6_enter
set_option maxRecDepth 20000 in
theorem ggX6_drawn_X6_tall : GoodIn wsX6_drawn wsX6_tall := goodIn_r _ [116, 4, 43, 44, 45, 9, 46, 22, 117, 118, 119, 120, 121, 122, 123, 124, 125, 126, 127, 128, 129, 130, 131, 132, 133, 134, 135, 136, 137, 138, 139, 140, 141, 142, 143, 144, 145, 146, 147, 148, 149, 150, 151, 152, 153, 154, 155, 156, 157, 158, 159, 160, 161, 162, 163, 164, 165, 166] (by decide +kernel) (by decide +kernel)
set_option maxRecDepth 20000 in
theorem gX6_drawn_X6_tall : GoodIn wsX6_drawn (wsV RX6 258 RX6 yX6_tall wsX6_tall) := goodIn_app (goodIn_of _ (by decide +kernel)) ggX6_drawn_X6_tall
theorem dX6_drawn_0 : decode cX6_drawn 0 = .ok (.iload_n 1, 1) := by decide +kernel
theorem dX6_drawn_1 : decode cX6_drawn 1 = .ok (.i2l, 1) := by decide +kernel
theorem dX6_drawn_2 : decode cX6_drawn 2 = .ok (.lconst 1, 1) := by decide +kernel
theorem dX6_drawn_3 : decode cX6_drawn 3 = .ok (.ldc2_w 307, 3) := by decide +kernel
theorem dX6_drawn_6 : decode cX6_drawn 6 = .ok (.invokestatic 94, 3) := by decide +kernel
theorem dX6_drawn_9 : decode cX6_drawn 9 = .ok (.ifCond .eq 19, 3) := by decide +kernel
theorem dX6_drawn_12 : decode cX6_drawn 12 = .ok (.iload_n 2, 1) := by decide +kernel
theorem dX6_drawn_13 : decode cX6_drawn 13 = .ok (.ifCond .lt 15, 3) := by decide +kernel
theorem dX6_drawn_16 : decode cX6_drawn 16 = .ok (.iload_n 3, 1) := by decide +kernel
theorem dX6_drawn_17 : decode cX6_drawn 17 = .ok (.i2l, 1) := by decide +kernel
theorem dX6_drawn_18 : decode cX6_drawn 18 = .ok (.lconst 0, 1) := by decide +kernel
theorem dX6_drawn_19 : decode cX6_drawn 19 = .ok (.ldc2_w 309, 3) := by decide +kernel
theorem dX6_drawn_22 : decode cX6_drawn 22 = .ok (.invokestatic 94, 3) := by decide +kernel
theorem dX6_drawn_25 : decode cX6_drawn 25 = .ok (.ifCond .ne 6, 3) := by decide +kernel
theorem dX6_drawn_28 : decode cX6_drawn 28 = .ok (.bipush (-102), 2) := by decide +kernel
theorem dX6_drawn_30 : decode cX6_drawn 30 = .ok (.ireturn, 1) := by decide +kernel
theorem dX6_drawn_31 : decode cX6_drawn 31 = .ok (.aload_n 0, 1) := by decide +kernel
theorem dX6_drawn_32 : decode cX6_drawn 32 = .ok (.invokevirtual 236, 3) := by decide +kernel
theorem dX6_drawn_35 : decode cX6_drawn 35 = .ok (.ifCond .eq 6, 3) := by decide +kernel
theorem dX6_drawn_38 : decode cX6_drawn 38 = .ok (.bipush (-103), 2) := by decide +kernel
theorem dX6_drawn_40 : decode cX6_drawn 40 = .ok (.ireturn, 1) := by decide +kernel
theorem dX6_drawn_41 : decode cX6_drawn 41 = .ok (.aload_n 0, 1) := by decide +kernel
theorem dX6_drawn_42 : decode cX6_drawn 42 = .ok (.iload_n 2, 1) := by decide +kernel
theorem dX6_drawn_43 : decode cX6_drawn 43 = .ok (.putfield 299, 3) := by decide +kernel
theorem dX6_drawn_46 : decode cX6_drawn 46 = .ok (.aload_n 0, 1) := by decide +kernel
theorem dX6_drawn_47 : decode cX6_drawn 47 = .ok (.invokevirtual 267, 3) := by decide +kernel
theorem dX6_drawn_50 : decode cX6_drawn 50 = .ok (.iconst 0, 1) := by decide +kernel
theorem dX6_drawn_51 : decode cX6_drawn 51 = .ok (.istore 4, 2) := by decide +kernel
theorem dX6_drawn_53 : decode cX6_drawn 53 = .ok (.iload 4, 2) := by decide +kernel
theorem dX6_drawn_55 : decode cX6_drawn 55 = .ok (.iload_n 1, 1) := by decide +kernel
theorem dX6_drawn_56 : decode cX6_drawn 56 = .ok (.if_icmp .ge 59, 3) := by decide +kernel
theorem dX6_drawn_59 : decode cX6_drawn 59 = .ok (.aload_n 0, 1) := by decide +kernel
theorem dX6_drawn_60 : decode cX6_drawn 60 = .ok (.bipush 100, 2) := by decide +kernel
theorem dX6_drawn_62 : decode cX6_drawn 62 = .ok (.invokevirtual 311, 3) := by decide +kernel
theorem dX6_drawn_65 : decode cX6_drawn 65 = .ok (.istore 5, 2) := by decide +kernel
theorem dX6_drawn_67 : decode cX6_drawn 67 = .ok (.aload_n 0, 1) := by decide +kernel
theorem dX6_drawn_68 : decode cX6_drawn 68 = .ok (.getfield 22, 3) := by decide +kernel
theorem dX6_drawn_71 : decode cX6_drawn 71 = .ok (.bipush 100, 2) := by decide +kernel
theorem dX6_drawn_73 : decode cX6_drawn 73 = .ok (.iload 5, 2) := by decide +kernel
theorem dX6_drawn_75 : decode cX6_drawn 75 = .ok (.iadd, 1) := by decide +kernel
theorem dX6_drawn_76 : decode cX6_drawn 76 = .ok (.iaload, 1) := by decide +kernel
theorem dX6_drawn_77 : decode cX6_drawn 77 = .ok (.iconst 1, 1) := by decide +kernel
theorem dX6_drawn_78 : decode cX6_drawn 78 = .ok (.if_icmp .ne 13, 3) := by decide +kernel
theorem dX6_drawn_81 : decode cX6_drawn 81 = .ok (.aload_n 0, 1) := by decide +kernel
theorem dX6_drawn_82 : decode cX6_drawn 82 = .ok (.iconst 1, 1) := by decide +kernel
theorem dX6_drawn_83 : decode cX6_drawn 83 = .ok (.iload 5, 2) := by decide +kernel
theorem dX6_drawn_85 : decode cX6_drawn 85 = .ok (.invokevirtual 233, 3) := by decide +kernel
theorem dX6_drawn_88 : decode cX6_drawn 88 = .ok (.goto 21, 3) := by decide +kernel
theorem dX6_drawn_91 : decode cX6_drawn 91 = .ok (.aload_n 0, 1) := by decide +kernel
theorem dX6_drawn_92 : decode cX6_drawn 92 = .ok (.getfield 28, 3) := by decide +kernel
theorem dX6_drawn_95 : decode cX6_drawn 95 = .ok (.iconst 1, 1) := by decide +kernel
theorem dX6_drawn_96 : decode cX6_drawn 96 = .ok (.iaload, 1) := by decide +kernel
theorem dX6_drawn_97 : decode cX6_drawn 97 = .ok (.bipush 40, 2) := by decide +kernel
theorem dX6_drawn_99 : decode cX6_drawn 99 = .ok (.if_icmp .ge 10, 3) := by decide +kernel
theorem dX6_drawn_102 : decode cX6_drawn 102 = .ok (.aload_n 0, 1) := by decide +kernel
theorem dX6_drawn_103 : decode cX6_drawn 103 = .ok (.iconst 1, 1) := by decide +kernel
theorem dX6_drawn_104 : decode cX6_drawn 104 = .ok (.iload 5, 2) := by decide +kernel
theorem dX6_drawn_106 : decode cX6_drawn 106 = .ok (.invokevirtual 227, 3) := by decide +kernel
theorem dX6_drawn_109 : decode cX6_drawn 109 = .ok (.iinc 4 1, 3) := by decide +kernel
theorem dX6_drawn_112 : decode cX6_drawn 112 = .ok (.goto (-59), 3) := by decide +kernel
theorem dX6_drawn_115 : decode cX6_drawn 115 = .ok (.iload_n 3, 1) := by decide +kernel
theorem dX6_drawn_116 : decode cX6_drawn 116 = .ok (.ifCond .ne 12, 3) := by decide +kernel
theorem dX6_drawn_119 : decode cX6_drawn 119 = .ok (.aload_n 0, 1) := by decide +kernel
theorem dX6_drawn_120 : decode cX6_drawn 120 = .ok (.getfield 37, 3) := by decide +kernel
theorem dX6_drawn_123 : decode cX6_drawn 123 = .ok (.iconst 1, 1) := by decide +kernel
theorem dX6_drawn_124 : decode cX6_drawn 124 = .ok (.iaload, 1) := by decide +kernel
theorem dX6_drawn_125 : decode cX6_drawn 125 = .ok (.goto 20, 3) := by decide +kernel
theorem dX6_drawn_128 : decode cX6_drawn 128 = .ok (.iload_n 3, 1) := by decide +kernel
theorem dX6_drawn_129 : decode cX6_drawn 129 = .ok (.iconst 1, 1) := by decide +kernel
theorem dX6_drawn_130 : decode cX6_drawn 130 = .ok (.if_icmp .ne 11, 3) := by decide +kernel
theorem dX6_drawn_133 : decode cX6_drawn 133 = .ok (.aload_n 0, 1) := by decide +kernel
theorem dX6_drawn_134 : decode cX6_drawn 134 = .ok (.iconst 1, 1) := by decide +kernel
theorem dX6_drawn_135 : decode cX6_drawn 135 = .ok (.invokevirtual 258, 3) := by decide +kernel
theorem dX6_drawn_138 : decode cX6_drawn 138 = .ok (.goto 7, 3) := by decide +kernel
theorem dX6_drawn_141 : decode cX6_drawn 141 = .ok (.aload_n 0, 1) := by decide +kernel
theorem dX6_drawn_142 : decode cX6_drawn 142 = .ok (.getfield 299, 3) := by decide +kernel
theorem dX6_drawn_145 : decode cX6_drawn 145 = .ok (.ireturn, 1) := by decide +kernel
set_option maxRecDepth 20000 in
theorem ggX6_image_X6_lacks : GoodIn wsX6_image wsX6_lacks := goodIn_r _ [41, 42, 46, 47, 48, 49, 50, 51, 52, 53, 54, 55, 56, 57, 58, 59, 60, 61, 62, 63, 64, 65, 66, 67, 68, 69, 70, 71, 72, 73, 74, 75, 76, 77, 78, 79, 80, 81, 82, 83, 84, 85, 86, 87, 88, 89, 90, 91, 92, 93, 94, 95] (by decide +kernel) (by decide +kernel)
set_option maxRecDepth 20000 in
theorem gX6_image_X6_lacks : GoodIn wsX6_image (wsV RX6 236 RX6 yX6_lacks wsX6_lacks) := goodIn_app (goodIn_of _ (by decide +kernel)) ggX6_image_X6_lacks
set_option maxRecDepth 20000 in
theorem ggX6_image_X6_copy : GoodIn wsX6_image wsX6_copy := goodIn_r _ [45] (by decide +kernel) (by decide +kernel)
set_option maxRecDepth 20000 in
theorem gX6_image_X6_copy : GoodIn wsX6_image (va_wsS RX6 314 yX6_copy wsX6_copy) := goodIn_app (goodIn_of _ (by decide +kernel)) ggX6_image_X6_copy
theorem dX6_image_0 : decode cX6_image 0 = .ok (.aload_n 0, 1) := by decide +kernel
theorem dX6_image_1 : decode cX6_image 1 = .ok (.invokevirtual 236, 3) := by decide +kernel
theorem dX6_image_4 : decode cX6_image 4 = .ok (.ifCond .eq 6, 3) := by decide +kernel
theorem dX6_image_7 : decode cX6_image 7 = .ok (.bipush (-103), 2) := by decide +kernel
theorem dX6_image_9 : decode cX6_image 9 = .ok (.ireturn, 1) := by decide +kernel
theorem dX6_image_10 : decode cX6_image 10 = .ok (.aload_n 0, 1) := by decide +kernel
theorem dX6_image_11 : decode cX6_image 11 = .ok (.getfield 13, 3) := by decide +kernel
theorem dX6_image_14 : decode cX6_image 14 = .ok (.aload_n 0, 1) := by decide +kernel
theorem dX6_image_15 : decode cX6_image 15 = .ok (.getfield 64, 3) := by decide +kernel
theorem dX6_image_18 : decode cX6_image 18 = .ok (.invokestatic 314, 3) := by decide +kernel
theorem dX6_image_21 : decode cX6_image 21 = .ok (.aload_n 0, 1) := by decide +kernel
theorem dX6_image_22 : decode cX6_image 22 = .ok (.getfield 16, 3) := by decide +kernel
theorem dX6_image_25 : decode cX6_image 25 = .ok (.aload_n 0, 1) := by decide +kernel
theorem dX6_image_26 : decode cX6_image 26 = .ok (.getfield 67, 3) := by decide +kernel
theorem dX6_image_29 : decode cX6_image 29 = .ok (.invokestatic 314, 3) := by decide +kernel
theorem dX6_image_32 : decode cX6_image 32 = .ok (.aload_n 0, 1) := by decide +kernel
theorem dX6_image_33 : decode cX6_image 33 = .ok (.getfield 19, 3) := by decide +kernel
theorem dX6_image_36 : decode cX6_image 36 = .ok (.aload_n 0, 1) := by decide +kernel
theorem dX6_image_37 : decode cX6_image 37 = .ok (.getfield 70, 3) := by decide +kernel
theorem dX6_image_40 : decode cX6_image 40 = .ok (.invokestatic 314, 3) := by decide +kernel
theorem dX6_image_43 : decode cX6_image 43 = .ok (.aload_n 0, 1) := by decide +kernel
theorem dX6_image_44 : decode cX6_image 44 = .ok (.getfield 22, 3) := by decide +kernel
theorem dX6_image_47 : decode cX6_image 47 = .ok (.aload_n 0, 1) := by decide +kernel
theorem dX6_image_48 : decode cX6_image 48 = .ok (.getfield 73, 3) := by decide +kernel
theorem dX6_image_51 : decode cX6_image 51 = .ok (.invokestatic 314, 3) := by decide +kernel
theorem dX6_image_54 : decode cX6_image 54 = .ok (.aload_n 0, 1) := by decide +kernel
theorem dX6_image_55 : decode cX6_image 55 = .ok (.getfield 40, 3) := by decide +kernel
theorem dX6_image_58 : decode cX6_image 58 = .ok (.aload_n 0, 1) := by decide +kernel
theorem dX6_image_59 : decode cX6_image 59 = .ok (.getfield 76, 3) := by decide +kernel
theorem dX6_image_62 : decode cX6_image 62 = .ok (.invokestatic 314, 3) := by decide +kernel
theorem dX6_image_65 : decode cX6_image 65 = .ok (.aload_n 0, 1) := by decide +kernel
theorem dX6_image_66 : decode cX6_image 66 = .ok (.getfield 43, 3) := by decide +kernel
theorem dX6_image_69 : decode cX6_image 69 = .ok (.aload_n 0, 1) := by decide +kernel
theorem dX6_image_70 : decode cX6_image 70 = .ok (.getfield 79, 3) := by decide +kernel
theorem dX6_image_73 : decode cX6_image 73 = .ok (.invokestatic 314, 3) := by decide +kernel
theorem dX6_image_76 : decode cX6_image 76 = .ok (.aload_n 0, 1) := by decide +kernel
theorem dX6_image_77 : decode cX6_image 77 = .ok (.getfield 46, 3) := by decide +kernel
theorem dX6_image_80 : decode cX6_image 80 = .ok (.aload_n 0, 1) := by decide +kernel
theorem dX6_image_81 : decode cX6_image 81 = .ok (.getfield 82, 3) := by decide +kernel
theorem dX6_image_84 : decode cX6_image 84 = .ok (.invokestatic 314, 3) := by decide +kernel
theorem dX6_image_87 : decode cX6_image 87 = .ok (.aload_n 0, 1) := by decide +kernel
theorem dX6_image_88 : decode cX6_image 88 = .ok (.getfield 61, 3) := by decide +kernel
theorem dX6_image_91 : decode cX6_image 91 = .ok (.aload_n 0, 1) := by decide +kernel
theorem dX6_image_92 : decode cX6_image 92 = .ok (.getfield 85, 3) := by decide +kernel
theorem dX6_image_95 : decode cX6_image 95 = .ok (.invokestatic 314, 3) := by decide +kernel
theorem dX6_image_98 : decode cX6_image 98 = .ok (.aload_n 0, 1) := by decide +kernel
theorem dX6_image_99 : decode cX6_image 99 = .ok (.aload_n 0, 1) := by decide +kernel
theorem dX6_image_100 : decode cX6_image 100 = .ok (.getfield 25, 3) := by decide +kernel
theorem dX6_image_103 : decode cX6_image 103 = .ok (.iconst 0, 1) := by decide +kernel
theorem dX6_image_104 : decode cX6_image 104 = .ok (.iaload, 1) := by decide +kernel
theorem dX6_image_105 : decode cX6_image 105 = .ok (.putfield 318, 3) := by decide +kernel
theorem dX6_image_108 : decode cX6_image 108 = .ok (.aload_n 0, 1) := by decide +kernel
theorem dX6_image_109 : decode cX6_image 109 = .ok (.aload_n 0, 1) := by decide +kernel
theorem dX6_image_110 : decode cX6_image 110 = .ok (.getfield 28, 3) := by decide +kernel
theorem dX6_image_113 : decode cX6_image 113 = .ok (.iconst 0, 1) := by decide +kernel
theorem dX6_image_114 : decode cX6_image 114 = .ok (.iaload, 1) := by decide +kernel
theorem dX6_image_115 : decode cX6_image 115 = .ok (.putfield 321, 3) := by decide +kernel
theorem dX6_image_118 : decode cX6_image 118 = .ok (.aload_n 0, 1) := by decide +kernel
theorem dX6_image_119 : decode cX6_image 119 = .ok (.aload_n 0, 1) := by decide +kernel
theorem dX6_image_120 : decode cX6_image 120 = .ok (.getfield 31, 3) := by decide +kernel
theorem dX6_image_123 : decode cX6_image 123 = .ok (.iconst 0, 1) := by decide +kernel
theorem dX6_image_124 : decode cX6_image 124 = .ok (.iaload, 1) := by decide +kernel
theorem dX6_image_125 : decode cX6_image 125 = .ok (.putfield 324, 3) := by decide +kernel
theorem dX6_image_128 : decode cX6_image 128 = .ok (.aload_n 0, 1) := by decide +kernel
theorem dX6_image_129 : decode cX6_image 129 = .ok (.aload_n 0, 1) := by decide +kernel
theorem dX6_image_130 : decode cX6_image 130 = .ok (.getfield 34, 3) := by decide +kernel
theorem dX6_image_133 : decode cX6_image 133 = .ok (.iconst 0, 1) := by decide +kernel
theorem dX6_image_134 : decode cX6_image 134 = .ok (.iaload, 1) := by decide +kernel
theorem dX6_image_135 : decode cX6_image 135 = .ok (.putfield 327, 3) := by decide +kernel
theorem dX6_image_138 : decode cX6_image 138 = .ok (.aload_n 0, 1) := by decide +kernel
theorem dX6_image_139 : decode cX6_image 139 = .ok (.aload_n 0, 1) := by decide +kernel
theorem dX6_image_140 : decode cX6_image 140 = .ok (.getfield 37, 3) := by decide +kernel
theorem dX6_image_143 : decode cX6_image 143 = .ok (.iconst 0, 1) := by decide +kernel
theorem dX6_image_144 : decode cX6_image 144 = .ok (.iaload, 1) := by decide +kernel
theorem dX6_image_145 : decode cX6_image 145 = .ok (.putfield 330, 3) := by decide +kernel
theorem dX6_image_148 : decode cX6_image 148 = .ok (.aload_n 0, 1) := by decide +kernel
theorem dX6_image_149 : decode cX6_image 149 = .ok (.aload_n 0, 1) := by decide +kernel
theorem dX6_image_150 : decode cX6_image 150 = .ok (.getfield 184, 3) := by decide +kernel
theorem dX6_image_153 : decode cX6_image 153 = .ok (.putfield 333, 3) := by decide +kernel
theorem dX6_image_156 : decode cX6_image 156 = .ok (.aload_n 0, 1) := by decide +kernel
theorem dX6_image_157 : decode cX6_image 157 = .ok (.aload_n 0, 1) := by decide +kernel
theorem dX6_image_158 : decode cX6_image 158 = .ok (.getfield 187, 3) := by decide +kernel
theorem dX6_image_161 : decode cX6_image 161 = .ok (.putfield 336, 3) := by decide +kernel
theorem dX6_image_164 : decode cX6_image 164 = .ok (.aload_n 0, 1) := by decide +kernel
theorem dX6_image_165 : decode cX6_image 165 = .ok (.aload_n 0, 1) := by decide +kernel
theorem dX6_image_166 : decode cX6_image 166 = .ok (.getfield 211, 3) := by decide +kernel
theorem dX6_image_169 : decode cX6_image 169 = .ok (.putfield 339, 3) := by decide +kernel
theorem dX6_image_172 : decode cX6_image 172 = .ok (.aload_n 0, 1) := by decide +kernel
theorem dX6_image_173 : decode cX6_image 173 = .ok (.aload_n 0, 1) := by decide +kernel
theorem dX6_image_174 : decode cX6_image 174 = .ok (.getfield 218, 3) := by decide +kernel
theorem dX6_image_177 : decode cX6_image 177 = .ok (.putfield 342, 3) := by decide +kernel
theorem dX6_image_180 : decode cX6_image 180 = .ok (.aload_n 0, 1) := by decide +kernel
theorem dX6_image_181 : decode cX6_image 181 = .ok (.aload_n 0, 1) := by decide +kernel
theorem dX6_image_182 : decode cX6_image 182 = .ok (.getfield 224, 3) := by decide +kernel
theorem dX6_image_185 : decode cX6_image 185 = .ok (.putfield 88, 3) := by decide +kernel
theorem dX6_image_188 : decode cX6_image 188 = .ok (.aload_n 0, 1) := by decide +kernel
theorem dX6_image_189 : decode cX6_image 189 = .ok (.getfield 28, 3) := by decide +kernel
theorem dX6_image_192 : decode cX6_image 192 = .ok (.iconst 0, 1) := by decide +kernel
theorem dX6_image_193 : decode cX6_image 193 = .ok (.iaload, 1) := by decide +kernel
theorem dX6_image_194 : decode cX6_image 194 = .ok (.ireturn, 1) := by decide +kernel
set_option maxRecDepth 20000 in
theorem ggX6_restore_X6_copy : GoodIn wsX6_restore wsX6_copy := goodIn_r _ [40] (by decide +kernel) (by decide +kernel)
set_option maxRecDepth 20000 in
theorem gX6_restore_X6_copy : GoodIn wsX6_restore (va_wsS RX6 314 yX6_copy wsX6_copy) := goodIn_app (goodIn_of _ (by decide +kernel)) ggX6_restore_X6_copy
theorem dX6_restore_0 : decode cX6_restore 0 = .ok (.aload_n 0, 1) := by decide +kernel
theorem dX6_restore_1 : decode cX6_restore 1 = .ok (.getfield 88, 3) := by decide +kernel
theorem dX6_restore_4 : decode cX6_restore 4 = .ok (.aload_n 0, 1) := by decide +kernel
theorem dX6_restore_5 : decode cX6_restore 5 = .ok (.getfield 224, 3) := by decide +kernel
theorem dX6_restore_8 : decode cX6_restore 8 = .ok (.if_icmp .eq 6, 3) := by decide +kernel
theorem dX6_restore_11 : decode cX6_restore 11 = .ok (.bipush (-103), 2) := by decide +kernel
theorem dX6_restore_13 : decode cX6_restore 13 = .ok (.ireturn, 1) := by decide +kernel
theorem dX6_restore_14 : decode cX6_restore 14 = .ok (.aload_n 0, 1) := by decide +kernel
theorem dX6_restore_15 : decode cX6_restore 15 = .ok (.getfield 64, 3) := by decide +kernel
theorem dX6_restore_18 : decode cX6_restore 18 = .ok (.aload_n 0, 1) := by decide +kernel
theorem dX6_restore_19 : decode cX6_restore 19 = .ok (.getfield 13, 3) := by decide +kernel
theorem dX6_restore_22 : decode cX6_restore 22 = .ok (.invokestatic 314, 3) := by decide +kernel
theorem dX6_restore_25 : decode cX6_restore 25 = .ok (.aload_n 0, 1) := by decide +kernel
theorem dX6_restore_26 : decode cX6_restore 26 = .ok (.getfield 67, 3) := by decide +kernel
theorem dX6_restore_29 : decode cX6_restore 29 = .ok (.aload_n 0, 1) := by decide +kernel
theorem dX6_restore_30 : decode cX6_restore 30 = .ok (.getfield 16, 3) := by decide +kernel
theorem dX6_restore_33 : decode cX6_restore 33 = .ok (.invokestatic 314, 3) := by decide +kernel
theorem dX6_restore_36 : decode cX6_restore 36 = .ok (.aload_n 0, 1) := by decide +kernel
theorem dX6_restore_37 : decode cX6_restore 37 = .ok (.getfield 70, 3) := by decide +kernel
theorem dX6_restore_40 : decode cX6_restore 40 = .ok (.aload_n 0, 1) := by decide +kernel
theorem dX6_restore_41 : decode cX6_restore 41 = .ok (.getfield 19, 3) := by decide +kernel
theorem dX6_restore_44 : decode cX6_restore 44 = .ok (.invokestatic 314, 3) := by decide +kernel
theorem dX6_restore_47 : decode cX6_restore 47 = .ok (.aload_n 0, 1) := by decide +kernel
theorem dX6_restore_48 : decode cX6_restore 48 = .ok (.getfield 73, 3) := by decide +kernel
theorem dX6_restore_51 : decode cX6_restore 51 = .ok (.aload_n 0, 1) := by decide +kernel
theorem dX6_restore_52 : decode cX6_restore 52 = .ok (.getfield 22, 3) := by decide +kernel
theorem dX6_restore_55 : decode cX6_restore 55 = .ok (.invokestatic 314, 3) := by decide +kernel
theorem dX6_restore_58 : decode cX6_restore 58 = .ok (.aload_n 0, 1) := by decide +kernel
theorem dX6_restore_59 : decode cX6_restore 59 = .ok (.getfield 76, 3) := by decide +kernel
theorem dX6_restore_62 : decode cX6_restore 62 = .ok (.aload_n 0, 1) := by decide +kernel
theorem dX6_restore_63 : decode cX6_restore 63 = .ok (.getfield 40, 3) := by decide +kernel
theorem dX6_restore_66 : decode cX6_restore 66 = .ok (.invokestatic 314, 3) := by decide +kernel
theorem dX6_restore_69 : decode cX6_restore 69 = .ok (.aload_n 0, 1) := by decide +kernel
theorem dX6_restore_70 : decode cX6_restore 70 = .ok (.getfield 79, 3) := by decide +kernel
theorem dX6_restore_73 : decode cX6_restore 73 = .ok (.aload_n 0, 1) := by decide +kernel
theorem dX6_restore_74 : decode cX6_restore 74 = .ok (.getfield 43, 3) := by decide +kernel
theorem dX6_restore_77 : decode cX6_restore 77 = .ok (.invokestatic 314, 3) := by decide +kernel
theorem dX6_restore_80 : decode cX6_restore 80 = .ok (.aload_n 0, 1) := by decide +kernel
theorem dX6_restore_81 : decode cX6_restore 81 = .ok (.getfield 82, 3) := by decide +kernel
theorem dX6_restore_84 : decode cX6_restore 84 = .ok (.aload_n 0, 1) := by decide +kernel
theorem dX6_restore_85 : decode cX6_restore 85 = .ok (.getfield 46, 3) := by decide +kernel
theorem dX6_restore_88 : decode cX6_restore 88 = .ok (.invokestatic 314, 3) := by decide +kernel
theorem dX6_restore_91 : decode cX6_restore 91 = .ok (.aload_n 0, 1) := by decide +kernel
theorem dX6_restore_92 : decode cX6_restore 92 = .ok (.getfield 85, 3) := by decide +kernel
theorem dX6_restore_95 : decode cX6_restore 95 = .ok (.aload_n 0, 1) := by decide +kernel
theorem dX6_restore_96 : decode cX6_restore 96 = .ok (.getfield 61, 3) := by decide +kernel
theorem dX6_restore_99 : decode cX6_restore 99 = .ok (.invokestatic 314, 3) := by decide +kernel
theorem dX6_restore_102 : decode cX6_restore 102 = .ok (.aload_n 0, 1) := by decide +kernel
theorem dX6_restore_103 : decode cX6_restore 103 = .ok (.getfield 25, 3) := by decide +kernel
theorem dX6_restore_106 : decode cX6_restore 106 = .ok (.iconst 0, 1) := by decide +kernel
theorem dX6_restore_107 : decode cX6_restore 107 = .ok (.aload_n 0, 1) := by decide +kernel
theorem dX6_restore_108 : decode cX6_restore 108 = .ok (.getfield 318, 3) := by decide +kernel
theorem dX6_restore_111 : decode cX6_restore 111 = .ok (.iastore, 1) := by decide +kernel
theorem dX6_restore_112 : decode cX6_restore 112 = .ok (.aload_n 0, 1) := by decide +kernel
theorem dX6_restore_113 : decode cX6_restore 113 = .ok (.getfield 28, 3) := by decide +kernel
theorem dX6_restore_116 : decode cX6_restore 116 = .ok (.iconst 0, 1) := by decide +kernel
theorem dX6_restore_117 : decode cX6_restore 117 = .ok (.aload_n 0, 1) := by decide +kernel
theorem dX6_restore_118 : decode cX6_restore 118 = .ok (.getfield 321, 3) := by decide +kernel
theorem dX6_restore_121 : decode cX6_restore 121 = .ok (.iastore, 1) := by decide +kernel
theorem dX6_restore_122 : decode cX6_restore 122 = .ok (.aload_n 0, 1) := by decide +kernel
theorem dX6_restore_123 : decode cX6_restore 123 = .ok (.getfield 31, 3) := by decide +kernel
theorem dX6_restore_126 : decode cX6_restore 126 = .ok (.iconst 0, 1) := by decide +kernel
theorem dX6_restore_127 : decode cX6_restore 127 = .ok (.aload_n 0, 1) := by decide +kernel
theorem dX6_restore_128 : decode cX6_restore 128 = .ok (.getfield 324, 3) := by decide +kernel
theorem dX6_restore_131 : decode cX6_restore 131 = .ok (.iastore, 1) := by decide +kernel
theorem dX6_restore_132 : decode cX6_restore 132 = .ok (.aload_n 0, 1) := by decide +kernel
theorem dX6_restore_133 : decode cX6_restore 133 = .ok (.getfield 34, 3) := by decide +kernel
theorem dX6_restore_136 : decode cX6_restore 136 = .ok (.iconst 0, 1) := by decide +kernel
theorem dX6_restore_137 : decode cX6_restore 137 = .ok (.aload_n 0, 1) := by decide +kernel
theorem dX6_restore_138 : decode cX6_restore 138 = .ok (.getfield 327, 3) := by decide +kernel
theorem dX6_restore_141 : decode cX6_restore 141 = .ok (.iastore, 1) := by decide +kernel
theorem dX6_restore_142 : decode cX6_restore 142 = .ok (.aload_n 0, 1) := by decide +kernel
theorem dX6_restore_143 : decode cX6_restore 143 = .ok (.getfield 37, 3) := by decide +kernel
theorem dX6_restore_146 : decode cX6_restore 146 = .ok (.iconst 0, 1) := by decide +kernel
theorem dX6_restore_147 : decode cX6_restore 147 = .ok (.aload_n 0, 1) := by decide +kernel
theorem dX6_restore_148 : decode cX6_restore 148 = .ok (.getfield 330, 3) := by decide +kernel
theorem dX6_restore_151 : decode cX6_restore 151 = .ok (.iastore, 1) := by decide +kernel
theorem dX6_restore_152 : decode cX6_restore 152 = .ok (.aload_n 0, 1) := by decide +kernel
theorem dX6_restore_153 : decode cX6_restore 153 = .ok (.aload_n 0, 1) := by decide +kernel
theorem dX6_restore_154 : decode cX6_restore 154 = .ok (.getfield 333, 3) := by decide +kernel
theorem dX6_restore_157 : decode cX6_restore 157 = .ok (.putfield 184, 3) := by decide +kernel
theorem dX6_restore_160 : decode cX6_restore 160 = .ok (.aload_n 0, 1) := by decide +kernel
theorem dX6_restore_161 : decode cX6_restore 161 = .ok (.aload_n 0, 1) := by decide +kernel
theorem dX6_restore_162 : decode cX6_restore 162 = .ok (.getfield 336, 3) := by decide +kernel
theorem dX6_restore_165 : decode cX6_restore 165 = .ok (.putfield 187, 3) := by decide +kernel
theorem dX6_restore_168 : decode cX6_restore 168 = .ok (.aload_n 0, 1) := by decide +kernel
theorem dX6_restore_169 : decode cX6_restore 169 = .ok (.aload_n 0, 1) := by decide +kernel
theorem dX6_restore_170 : decode cX6_restore 170 = .ok (.getfield 339, 3) := by decide +kernel
theorem dX6_restore_173 : decode cX6_restore 173 = .ok (.putfield 211, 3) := by decide +kernel
theorem dX6_restore_176 : decode cX6_restore 176 = .ok (.aload_n 0, 1) := by decide +kernel
theorem dX6_restore_177 : decode cX6_restore 177 = .ok (.aload_n 0, 1) := by decide +kernel
theorem dX6_restore_178 : decode cX6_restore 178 = .ok (.getfield 342, 3) := by decide +kernel
theorem dX6_restore_181 : decode cX6_restore 181 = .ok (.putfield 218, 3) := by decide +kernel
theorem dX6_restore_184 : decode cX6_restore 184 = .ok (.aload_n 0, 1) := by decide +kernel
theorem dX6_restore_185 : decode cX6_restore 185 = .ok (.getfield 28, 3) := by decide +kernel
theorem dX6_restore_188 : decode cX6_restore 188 = .ok (.iconst 0, 1) := by decide +kernel
theorem dX6_restore_189 : decode cX6_restore 189 = .ok (.iaload, 1) := by decide +kernel
theorem dX6_restore_190 : decode cX6_restore 190 = .ok (.ireturn, 1) := by decide +kernel
theorem dX6_countOf_0 : decode cX6_countOf 0 = .ok (.iload_n 1, 1) := by decide +kernel
theorem dX6_countOf_1 : decode cX6_countOf 1 = .ok (.tableswitch 89 0 7 #[47, 54, 59, 64, 69, 74, 79, 84], 47) := by decide +kernel
theorem dX6_countOf_48 : decode cX6_countOf 48 = .ok (.aload_n 0, 1) := by decide +kernel
theorem dX6_countOf_49 : decode cX6_countOf 49 = .ok (.getfield 28, 3) := by decide +kernel
theorem dX6_countOf_52 : decode cX6_countOf 52 = .ok (.iconst 0, 1) := by decide +kernel
theorem dX6_countOf_53 : decode cX6_countOf 53 = .ok (.iaload, 1) := by decide +kernel
theorem dX6_countOf_54 : decode cX6_countOf 54 = .ok (.ireturn, 1) := by decide +kernel
theorem dX6_countOf_55 : decode cX6_countOf 55 = .ok (.aload_n 0, 1) := by decide +kernel
theorem dX6_countOf_56 : decode cX6_countOf 56 = .ok (.getfield 138, 3) := by decide +kernel
theorem dX6_countOf_59 : decode cX6_countOf 59 = .ok (.ireturn, 1) := by decide +kernel
theorem dX6_countOf_60 : decode cX6_countOf 60 = .ok (.aload_n 0, 1) := by decide +kernel
theorem dX6_countOf_61 : decode cX6_countOf 61 = .ok (.getfield 144, 3) := by decide +kernel
theorem dX6_countOf_64 : decode cX6_countOf 64 = .ok (.ireturn, 1) := by decide +kernel
theorem dX6_countOf_65 : decode cX6_countOf 65 = .ok (.aload_n 0, 1) := by decide +kernel
theorem dX6_countOf_66 : decode cX6_countOf 66 = .ok (.getfield 193, 3) := by decide +kernel
theorem dX6_countOf_69 : decode cX6_countOf 69 = .ok (.ireturn, 1) := by decide +kernel
theorem dX6_countOf_70 : decode cX6_countOf 70 = .ok (.aload_n 0, 1) := by decide +kernel
theorem dX6_countOf_71 : decode cX6_countOf 71 = .ok (.getfield 211, 3) := by decide +kernel
theorem dX6_countOf_74 : decode cX6_countOf 74 = .ok (.ireturn, 1) := by decide +kernel
theorem dX6_countOf_75 : decode cX6_countOf 75 = .ok (.aload_n 0, 1) := by decide +kernel
theorem dX6_countOf_76 : decode cX6_countOf 76 = .ok (.getfield 218, 3) := by decide +kernel
theorem dX6_countOf_79 : decode cX6_countOf 79 = .ok (.ireturn, 1) := by decide +kernel
theorem dX6_countOf_80 : decode cX6_countOf 80 = .ok (.aload_n 0, 1) := by decide +kernel
theorem dX6_countOf_81 : decode cX6_countOf 81 = .ok (.getfield 98, 3) := by decide +kernel
theorem dX6_countOf_84 : decode cX6_countOf 84 = .ok (.ireturn, 1) := by decide +kernel
theorem dX6_countOf_85 : decode cX6_countOf 85 = .ok (.aload_n 0, 1) := by decide +kernel
theorem dX6_countOf_86 : decode cX6_countOf 86 = .ok (.getfield 224, 3) := by decide +kernel
theorem dX6_countOf_89 : decode cX6_countOf 89 = .ok (.ireturn, 1) := by decide +kernel
theorem dX6_countOf_90 : decode cX6_countOf 90 = .ok (.bipush (-102), 2) := by decide +kernel
theorem dX6_countOf_92 : decode cX6_countOf 92 = .ok (.ireturn, 1) := by decide +kernel
set_option maxRecDepth 20000 in
theorem ggX6_count_X6_countOf : GoodIn wsX6_count wsX6_countOf := goodIn_r _ [5, 6, 7, 8, 9, 10, 11, 12, 13, 14, 15, 16, 17, 18, 19, 20, 21, 22, 23, 24, 25, 26, 27, 28, 29, 30, 31, 32, 33, 34, 35, 36, 37, 38, 39, 40, 41, 42, 43, 44, 45, 46, 47, 48, 49, 50, 51, 52, 53, 54, 55, 56, 57, 58, 59, 60, 61, 62, 63] (by decide +kernel) (by decide +kernel)
set_option maxRecDepth 20000 in
theorem gX6_count_X6_countOf : GoodIn wsX6_count (wsV RX6 345 RX6 yX6_countOf wsX6_countOf) := goodIn_app (goodIn_of _ (by decide +kernel)) ggX6_count_X6_countOf
theorem dX6_count_0 : decode cX6_count 0 = .ok (.aload_n 0, 1) := by decide +kernel
theorem dX6_count_1 : decode cX6_count 1 = .ok (.iload_n 1, 1) := by decide +kernel
theorem dX6_count_2 : decode cX6_count 2 = .ok (.invokevirtual 345, 3) := by decide +kernel
theorem dX6_count_5 : decode cX6_count 5 = .ok (.ireturn, 1) := by decide +kernel
theorem dX6_say_0 : decode cX6_say 0 = .ok (.aload_n 0, 1) := by decide +kernel
theorem dX6_say_1 : decode cX6_say 1 = .ok (.ldc2_w 348, 3) := by decide +kernel
theorem dX6_say_4 : decode cX6_say 4 = .ok (.aload_n 0, 1) := by decide +kernel
theorem dX6_say_5 : decode cX6_say 5 = .ok (.getfield 350, 3) := by decide +kernel
theorem dX6_say_8 : decode cX6_say 8 = .ok (.lmul, 1) := by decide +kernel
theorem dX6_say_9 : decode cX6_say 9 = .ok (.lload_n 1, 1) := by decide +kernel
theorem dX6_say_10 : decode cX6_say 10 = .ok (.ladd, 1) := by decide +kernel
theorem dX6_say_11 : decode cX6_say 11 = .ok (.putfield 350, 3) := by decide +kernel
theorem dX6_say_14 : decode cX6_say 14 = .ok (.return_, 1) := by decide +kernel
set_option maxRecDepth 20000 in
theorem ggX6_sayShelf_X6_ledgerOf : GoodIn wsX6_sayShelf wsX6_ledgerOf := goodIn_r _ [7, 1, 8, 9, 10, 11, 12, 13, 14, 15, 16, 6, 17, 18, 19, 20, 21, 22, 23, 24, 25, 26, 27, 28, 29, 30, 31, 32, 33, 34, 35, 36, 37, 38, 39, 129, 130, 131, 132, 133, 134, 135, 136, 137, 138, 139, 140, 141, 142, 143, 144, 145, 146, 147, 148, 149, 150, 151, 152, 153, 154, 155, 156, 157, 158, 159, 160, 161, 162, 163, 164, 165, 166, 167, 168, 169, 170, 171, 172, 173, 174, 175, 176, 177, 178] (by decide +kernel) (by decide +kernel)
set_option maxRecDepth 20000 in
theorem gX6_sayShelf_X6_ledgerOf : GoodIn wsX6_sayShelf (wsV RX6 264 RX6 yX6_ledgerOf wsX6_ledgerOf) := goodIn_app (goodIn_of _ (by decide +kernel)) ggX6_sayShelf_X6_ledgerOf
set_option maxRecDepth 20000 in
theorem ggX6_sayShelf_X6_say : GoodIn wsX6_sayShelf wsX6_say := goodIn_r _ [43, 44, 45, 129, 130, 131, 132, 133, 134, 135, 136, 137, 138, 139, 140, 141, 142, 143, 144, 145, 146, 147, 148, 149, 150, 151, 152, 153, 154, 155, 156, 157, 158, 159, 160, 161, 162, 163, 164, 165, 166, 167, 168, 169, 170, 171, 172, 173, 174, 175, 176, 177, 178] (by decide +kernel) (by decide +kernel)
set_option maxRecDepth 20000 in
theorem gX6_sayShelf_X6_say : GoodIn wsX6_sayShelf (wsV RX6 354 RX6 yX6_say wsX6_say) := goodIn_app (goodIn_of _ (by decide +kernel)) ggX6_sayShelf_X6_say
set_option maxRecDepth 20000 in
theorem ggX6_sayShelf_X6_wouldOf : GoodIn wsX6_sayShelf wsX6_wouldOf := goodIn_r _ [49, 18, 50, 51, 52, 53, 6, 54, 55, 56, 23, 57, 1, 8, 12, 13, 38, 39, 32, 33, 58, 59, 60, 61, 62, 63, 64, 65, 66, 67, 68, 69, 70, 19, 20, 21, 22, 71, 72, 73, 74, 10, 11, 24, 25, 26, 27, 28, 29, 30, 31, 34, 35, 36, 37, 75, 76, 77, 78, 79, 80, 81, 82, 83, 84, 85, 86, 87, 88, 89, 90, 91, 92, 93, 94, 95, 96, 97, 98, 99, 100, 101, 102, 129, 130, 131, 132, 133, 134, 135, 136, 137, 138, 139, 140, 141, 142, 143, 144, 145, 146, 147, 148, 149, 150, 151, 152, 153, 154, 155, 156, 157, 158, 159, 160, 161, 162, 163, 164, 165, 166, 167, 168, 169, 170, 171, 172, 173, 174, 175, 176, 177, 178] (by decide +kernel) (by decide +kernel)
set_option maxRecDepth 20000 in
theorem gX6_sayShelf_X6_wouldOf : GoodIn wsX6_sayShelf (wsV RX6 270 RX6 yX6_wouldOf wsX6_wouldOf) := goodIn_app (goodIn_of _ (by decide +kernel)) ggX6_sayShelf_X6_wouldOf
set_option maxRecDepth 20000 in
theorem ggX6_sayShelf_X6_aheadOf : GoodIn wsX6_sayShelf wsX6_aheadOf := goodIn_r _ [106, 1, 18, 50, 51, 52, 53, 6, 54, 55, 56, 23, 57, 8, 12, 13, 38, 39, 32, 33, 107, 108, 109, 110, 62, 19, 20, 21, 22, 71, 72, 73, 74, 10, 11, 111, 112, 113, 114, 115, 116, 117, 118, 99, 100, 101, 102, 67, 68, 69, 70, 28, 29, 30, 31, 34, 35, 36, 37, 87, 88, 89, 90, 91, 92, 93, 94, 79, 80, 81, 82, 83, 84, 85, 86, 95, 96, 97, 98, 129, 130, 131, 132, 133, 134, 135, 136, 137, 138, 139, 140, 141, 142, 143, 144, 145, 146, 147, 148, 149, 150, 151, 152, 153, 154, 155, 156, 157, 158, 159, 160, 161, 162, 163, 164, 165, 166, 167, 168, 169, 170, 171, 172, 173, 174, 175, 176, 177, 178] (by decide +kernel) (by decide +kernel)
set_option maxRecDepth 20000 in
theorem gX6_sayShelf_X6_aheadOf : GoodIn wsX6_sayShelf (wsV RX6 280 RX6 yX6_aheadOf wsX6_aheadOf) := goodIn_app (goodIn_of _ (by decide +kernel)) ggX6_sayShelf_X6_aheadOf
set_option maxRecDepth 20000 in
theorem ggX6_sayShelf_X6_replayOf : GoodIn wsX6_sayShelf wsX6_replayOf := goodIn_r _ [122, 39, 33, 123, 124, 13, 125, 126, 127, 6, 128, 18, 57, 1, 8, 12, 107, 108, 109, 110, 62, 50, 19, 20, 21, 22, 23, 71, 72, 73, 74, 10, 11, 111, 112, 113, 114, 55, 56, 115, 116, 117, 118, 99, 100, 101, 102, 67, 68, 69, 70, 28, 29, 30, 31, 32, 34, 35, 36, 37, 38, 87, 88, 89, 90, 91, 92, 93, 94, 79, 80, 81, 82, 83, 84, 85, 86, 95, 96, 97, 98, 58, 59, 60, 61, 63, 64, 65, 66, 24, 25, 26, 27, 75, 76, 77, 78, 14, 15, 16, 17, 129, 130, 131, 132, 133, 134, 135, 136, 137, 138, 139, 140, 141, 142, 143, 144, 145, 146, 147, 148, 149, 150, 151, 152, 153, 154, 155, 156, 157, 158, 159, 160, 161, 162, 163, 164, 165, 166, 167, 168, 169, 170, 171, 172, 173, 174, 175, 176, 177, 178] (by decide +kernel) (by decide +kernel)
set_option maxRecDepth 20000 in
theorem gX6_sayShelf_X6_replayOf : GoodIn wsX6_sayShelf (wsV RX6 276 RX6 yX6_replayOf wsX6_replayOf) := goodIn_app (goodIn_of _ (by decide +kernel)) ggX6_sayShelf_X6_replayOf
theorem dX6_sayShelf_0 : decode cX6_sayShelf 0 = .ok (.iconst 0, 1) := by decide +kernel
theorem dX6_sayShelf_1 : decode cX6_sayShelf 1 = .ok (.istore_n 1, 1) := by decide +kernel
theorem dX6_sayShelf_2 : decode cX6_sayShelf 2 = .ok (.iload_n 1, 1) := by decide +kernel
theorem dX6_sayShelf_3 : decode cX6_sayShelf 3 = .ok (.bipush 7, 2) := by decide +kernel
theorem dX6_sayShelf_5 : decode cX6_sayShelf 5 = .ok (.if_icmp .ge 19, 3) := by decide +kernel
theorem dX6_sayShelf_8 : decode cX6_sayShelf 8 = .ok (.aload_n 0, 1) := by decide +kernel
theorem dX6_sayShelf_9 : decode cX6_sayShelf 9 = .ok (.aload_n 0, 1) := by decide +kernel
theorem dX6_sayShelf_10 : decode cX6_sayShelf 10 = .ok (.iload_n 1, 1) := by decide +kernel
theorem dX6_sayShelf_11 : decode cX6_sayShelf 11 = .ok (.invokevirtual 264, 3) := by decide +kernel
theorem dX6_sayShelf_14 : decode cX6_sayShelf 14 = .ok (.i2l, 1) := by decide +kernel
theorem dX6_sayShelf_15 : decode cX6_sayShelf 15 = .ok (.invokevirtual 354, 3) := by decide +kernel
theorem dX6_sayShelf_18 : decode cX6_sayShelf 18 = .ok (.iinc 1 1, 3) := by decide +kernel
theorem dX6_sayShelf_21 : decode cX6_sayShelf 21 = .ok (.goto (-19), 3) := by decide +kernel
theorem dX6_sayShelf_24 : decode cX6_sayShelf 24 = .ok (.aload_n 0, 1) := by decide +kernel
theorem dX6_sayShelf_25 : decode cX6_sayShelf 25 = .ok (.aload_n 0, 1) := by decide +kernel
theorem dX6_sayShelf_26 : decode cX6_sayShelf 26 = .ok (.getfield 28, 3) := by decide +kernel
theorem dX6_sayShelf_29 : decode cX6_sayShelf 29 = .ok (.iconst 0, 1) := by decide +kernel
theorem dX6_sayShelf_30 : decode cX6_sayShelf 30 = .ok (.iaload, 1) := by decide +kernel
theorem dX6_sayShelf_31 : decode cX6_sayShelf 31 = .ok (.bipush 40, 2) := by decide +kernel
theorem dX6_sayShelf_33 : decode cX6_sayShelf 33 = .ok (.if_icmp .ne 9, 3) := by decide +kernel
theorem dX6_sayShelf_36 : decode cX6_sayShelf 36 = .ok (.ldc2_w 358, 3) := by decide +kernel
theorem dX6_sayShelf_39 : decode cX6_sayShelf 39 = .ok (.goto 10, 3) := by decide +kernel
theorem dX6_sayShelf_42 : decode cX6_sayShelf 42 = .ok (.aload_n 0, 1) := by decide +kernel
theorem dX6_sayShelf_43 : decode cX6_sayShelf 43 = .ok (.bipush 50, 2) := by decide +kernel
theorem dX6_sayShelf_45 : decode cX6_sayShelf 45 = .ok (.invokevirtual 270, 3) := by decide +kernel
theorem dX6_sayShelf_48 : decode cX6_sayShelf 48 = .ok (.i2l, 1) := by decide +kernel
theorem dX6_sayShelf_49 : decode cX6_sayShelf 49 = .ok (.invokevirtual 354, 3) := by decide +kernel
theorem dX6_sayShelf_52 : decode cX6_sayShelf 52 = .ok (.aload_n 0, 1) := by decide +kernel
theorem dX6_sayShelf_53 : decode cX6_sayShelf 53 = .ok (.aload_n 0, 1) := by decide +kernel
theorem dX6_sayShelf_54 : decode cX6_sayShelf 54 = .ok (.invokevirtual 280, 3) := by decide +kernel
theorem dX6_sayShelf_57 : decode cX6_sayShelf 57 = .ok (.i2l, 1) := by decide +kernel
theorem dX6_sayShelf_58 : decode cX6_sayShelf 58 = .ok (.invokevirtual 354, 3) := by decide +kernel
theorem dX6_sayShelf_61 : decode cX6_sayShelf 61 = .ok (.aload_n 0, 1) := by decide +kernel
theorem dX6_sayShelf_62 : decode cX6_sayShelf 62 = .ok (.aload_n 0, 1) := by decide +kernel
theorem dX6_sayShelf_63 : decode cX6_sayShelf 63 = .ok (.iconst 2, 1) := by decide +kernel
theorem dX6_sayShelf_64 : decode cX6_sayShelf 64 = .ok (.iconst 3, 1) := by decide +kernel
theorem dX6_sayShelf_65 : decode cX6_sayShelf 65 = .ok (.iconst 0, 1) := by decide +kernel
theorem dX6_sayShelf_66 : decode cX6_sayShelf 66 = .ok (.invokevirtual 276, 3) := by decide +kernel
theorem dX6_sayShelf_69 : decode cX6_sayShelf 69 = .ok (.i2l, 1) := by decide +kernel
theorem dX6_sayShelf_70 : decode cX6_sayShelf 70 = .ok (.invokevirtual 354, 3) := by decide +kernel
theorem dX6_sayShelf_73 : decode cX6_sayShelf 73 = .ok (.aload_n 0, 1) := by decide +kernel
theorem dX6_sayShelf_74 : decode cX6_sayShelf 74 = .ok (.aload_n 0, 1) := by decide +kernel
theorem dX6_sayShelf_75 : decode cX6_sayShelf 75 = .ok (.iconst 2, 1) := by decide +kernel
theorem dX6_sayShelf_76 : decode cX6_sayShelf 76 = .ok (.iconst 3, 1) := by decide +kernel
theorem dX6_sayShelf_77 : decode cX6_sayShelf 77 = .ok (.iconst 1, 1) := by decide +kernel
theorem dX6_sayShelf_78 : decode cX6_sayShelf 78 = .ok (.invokevirtual 276, 3) := by decide +kernel
theorem dX6_sayShelf_81 : decode cX6_sayShelf 81 = .ok (.i2l, 1) := by decide +kernel
theorem dX6_sayShelf_82 : decode cX6_sayShelf 82 = .ok (.invokevirtual 354, 3) := by decide +kernel
theorem dX6_sayShelf_85 : decode cX6_sayShelf 85 = .ok (.return_, 1) := by decide +kernel
set_option maxRecDepth 20000 in
theorem ggX6_digest_X6_say : GoodIn wsX6_digest wsX6_say := goodIn_r _ [10, 11, 2, 171, 172, 173, 174, 175, 176, 177, 178, 179, 180, 181, 182, 183, 184, 185, 186, 187, 188, 189, 190, 191, 192, 193, 194, 195, 196, 197, 198, 199, 200, 201, 202, 203, 204, 205, 206, 207, 208, 209, 210, 211, 212, 213, 214, 215, 216, 217, 218, 219, 220] (by decide +kernel) (by decide +kernel)
set_option maxRecDepth 20000 in
theorem gX6_digest_X6_say : GoodIn wsX6_digest (wsV RX6 354 RX6 yX6_say wsX6_say) := goodIn_app (goodIn_of _ (by decide +kernel)) ggX6_digest_X6_say
set_option maxRecDepth 20000 in
theorem ggX6_digest_X6_tellEntry : GoodIn wsX6_digest wsX6_tellEntry := goodIn_r _ [15, 16, 17, 18, 19, 20, 21, 22, 23, 9, 24, 25, 26, 27, 28, 3, 29, 30, 31, 32, 33, 34, 35, 36, 171, 172, 173, 174, 175, 176, 177, 178, 179, 180, 181, 182, 183, 184, 185, 186, 187, 188, 189, 190, 191, 192, 193, 194, 195, 196, 197, 198, 199, 200, 201, 202, 203, 204, 205, 206, 207, 208, 209, 210, 211, 212, 213, 214, 215, 216, 217, 218, 219, 220] (by decide +kernel) (by decide +kernel)
set_option maxRecDepth 20000 in
theorem gX6_digest_X6_tellEntry : GoodIn wsX6_digest (wsV RX6 248 RX6 yX6_tellEntry wsX6_tellEntry) := goodIn_app (goodIn_of _ (by decide +kernel)) ggX6_digest_X6_tellEntry
set_option maxRecDepth 20000 in
theorem ggX6_digest_X6_lacks : GoodIn wsX6_digest wsX6_lacks := goodIn_r _ [40, 41, 171, 172, 173, 174, 175, 176, 177, 178, 179, 180, 181, 182, 183, 184, 185, 186, 187, 188, 189, 190, 191, 192, 193, 194, 195, 196, 197, 198, 199, 200, 201, 202, 203, 204, 205, 206, 207, 208, 209, 210, 211, 212, 213, 214, 215, 216, 217, 218, 219, 220] (by decide +kernel) (by decide +kernel)
set_option maxRecDepth 20000 in
theorem gX6_digest_X6_lacks : GoodIn wsX6_digest (wsV RX6 236 RX6 yX6_lacks wsX6_lacks) := goodIn_app (goodIn_of _ (by decide +kernel)) ggX6_digest_X6_lacks
set_option maxRecDepth 20000 in
theorem ggX6_digest_X6_sayShelf : GoodIn wsX6_digest wsX6_sayShelf := goodIn_r _ [45, 46, 47, 48, 49, 50, 9, 51, 52, 53, 54, 55, 56, 57, 58, 59, 60, 61, 3, 21, 22, 23, 24, 20, 62, 63, 64, 65, 66, 67, 68, 69, 41, 70, 71, 72, 73, 74, 75, 76, 6, 7, 8, 10, 11, 2, 77, 78, 79, 80, 81, 82, 83, 84, 85, 18, 19, 86, 87, 88, 89, 90, 91, 92, 93, 94, 95, 96, 97, 98, 99, 100, 101, 102, 103, 104, 105, 106, 107, 25, 26, 27, 28, 29, 30, 31, 32, 108, 109, 110, 111, 112, 113, 114, 115, 116, 117, 118, 119, 120, 121, 122, 123, 124, 125, 126, 127, 128, 129, 130, 131, 132, 133, 134, 135, 136, 137, 138, 139, 140, 141, 142, 143, 144, 145, 146, 147, 148, 149, 171, 172, 173, 174, 175, 176, 177, 178, 179, 180, 181, 182, 183, 184, 185, 186, 187, 188, 189, 190, 191, 192, 193, 194, 195, 196, 197, 198, 199, 200, 201, 202, 203, 204, 205, 206, 207, 208, 209, 210, 211, 212, 213, 214, 215, 216, 217, 218, 219, 220] (by decide +kernel) (by decide +kernel)
set_option maxRecDepth 20000 in
theorem gX6_digest_X6_sayShelf : GoodIn wsX6_digest (wsV RX6 362 RX6 yX6_sayShelf wsX6_sayShelf) := goodIn_app (goodIn_of _ (by decide +kernel)) ggX6_digest_X6_sayShelf
set_option maxRecDepth 20000 in
theorem ggX6_digest_X6_sortsOf : GoodIn wsX6_digest wsX6_sortsOf := goodIn_r _ [153, 154, 155, 156, 157, 9, 158, 171, 172, 173, 174, 175, 176, 177, 178, 179, 180, 181, 182, 183, 184, 185, 186, 187, 188, 189, 190, 191, 192, 193, 194, 195, 196, 197, 198, 199, 200, 201, 202, 203, 204, 205, 206, 207, 208, 209, 210, 211, 212, 213, 214, 215, 216, 217, 218, 219, 220] (by decide +kernel) (by decide +kernel)
set_option maxRecDepth 20000 in
theorem gX6_digest_X6_sortsOf : GoodIn wsX6_digest (wsV RX6 288 RX6 yX6_sortsOf wsX6_sortsOf) := goodIn_app (goodIn_of _ (by decide +kernel)) ggX6_digest_X6_sortsOf
set_option maxRecDepth 20000 in
theorem ggX6_digest_X6_askOf : GoodIn wsX6_digest wsX6_askOf := goodIn_r _ [162, 150, 151, 152, 9, 153, 154, 155, 156, 157, 158, 163, 164, 165, 171, 172, 173, 174, 175, 176, 177, 178, 179, 180, 181, 182, 183, 184, 185, 186, 187, 188, 189, 190, 191, 192, 193, 194, 195, 196, 197, 198, 199, 200, 201, 202, 203, 204, 205, 206, 207, 208, 209, 210, 211, 212, 213, 214, 215, 216, 217, 218, 219, 220] (by decide +kernel) (by decide +kernel)
set_option maxRecDepth 20000 in
theorem gX6_digest_X6_askOf : GoodIn wsX6_digest (wsV RX6 294 RX6 yX6_askOf wsX6_askOf) := goodIn_app (goodIn_of _ (by decide +kernel)) ggX6_digest_X6_askOf
set_option maxRecDepth 20000 in
theorem ggX6_digest_X6_countOf : GoodIn wsX6_digest wsX6_countOf := goodIn_r _ [169, 46, 75, 41, 91, 144, 154, 4, 170, 171, 172, 173, 174, 175, 176, 177, 178, 179, 180, 181, 182, 183, 184, 185, 186, 187, 188, 189, 190, 191, 192, 193, 194, 195, 196, 197, 198, 199, 200, 201, 202, 203, 204, 205, 206, 207, 208, 209, 210, 211, 212, 213, 214, 215, 216, 217, 218, 219, 220] (by decide +kernel) (by decide +kernel)
set_option maxRecDepth 20000 in
theorem gX6_digest_X6_countOf : GoodIn wsX6_digest (wsV RX6 345 RX6 yX6_countOf wsX6_countOf) := goodIn_app (goodIn_of _ (by decide +kernel)) ggX6_digest_X6_countOf
theorem dX6_digest_0 : decode cX6_digest 0 = .ok (.aload_n 0, 1) := by decide +kernel
theorem dX6_digest_1 : decode cX6_digest 1 = .ok (.ldc2_w 360, 3) := by decide +kernel
theorem dX6_digest_4 : decode cX6_digest 4 = .ok (.putfield 350, 3) := by decide +kernel
theorem dX6_digest_7 : decode cX6_digest 7 = .ok (.iconst 0, 1) := by decide +kernel
theorem dX6_digest_8 : decode cX6_digest 8 = .ok (.istore_n 1, 1) := by decide +kernel
theorem dX6_digest_9 : decode cX6_digest 9 = .ok (.iload_n 1, 1) := by decide +kernel
theorem dX6_digest_10 : decode cX6_digest 10 = .ok (.bipush 100, 2) := by decide +kernel
theorem dX6_digest_12 : decode cX6_digest 12 = .ok (.if_icmp .ge 50, 3) := by decide +kernel
theorem dX6_digest_15 : decode cX6_digest 15 = .ok (.aload_n 0, 1) := by decide +kernel
theorem dX6_digest_16 : decode cX6_digest 16 = .ok (.getfield 22, 3) := by decide +kernel
theorem dX6_digest_19 : decode cX6_digest 19 = .ok (.iload_n 1, 1) := by decide +kernel
theorem dX6_digest_20 : decode cX6_digest 20 = .ok (.iaload, 1) := by decide +kernel
theorem dX6_digest_21 : decode cX6_digest 21 = .ok (.iconst 1, 1) := by decide +kernel
theorem dX6_digest_22 : decode cX6_digest 22 = .ok (.if_icmp .ne 34, 3) := by decide +kernel
theorem dX6_digest_25 : decode cX6_digest 25 = .ok (.aload_n 0, 1) := by decide +kernel
theorem dX6_digest_26 : decode cX6_digest 26 = .ok (.iload_n 1, 1) := by decide +kernel
theorem dX6_digest_27 : decode cX6_digest 27 = .ok (.i2l, 1) := by decide +kernel
theorem dX6_digest_28 : decode cX6_digest 28 = .ok (.invokevirtual 354, 3) := by decide +kernel
theorem dX6_digest_31 : decode cX6_digest 31 = .ok (.iconst 0, 1) := by decide +kernel
theorem dX6_digest_32 : decode cX6_digest 32 = .ok (.istore_n 2, 1) := by decide +kernel
theorem dX6_digest_33 : decode cX6_digest 33 = .ok (.iload_n 2, 1) := by decide +kernel
theorem dX6_digest_34 : decode cX6_digest 34 = .ok (.bipush 7, 2) := by decide +kernel
theorem dX6_digest_36 : decode cX6_digest 36 = .ok (.if_icmp .ge 20, 3) := by decide +kernel
theorem dX6_digest_39 : decode cX6_digest 39 = .ok (.aload_n 0, 1) := by decide +kernel
theorem dX6_digest_40 : decode cX6_digest 40 = .ok (.aload_n 0, 1) := by decide +kernel
theorem dX6_digest_41 : decode cX6_digest 41 = .ok (.iload_n 1, 1) := by decide +kernel
theorem dX6_digest_42 : decode cX6_digest 42 = .ok (.iload_n 2, 1) := by decide +kernel
theorem dX6_digest_43 : decode cX6_digest 43 = .ok (.invokevirtual 248, 3) := by decide +kernel
theorem dX6_digest_46 : decode cX6_digest 46 = .ok (.i2l, 1) := by decide +kernel
theorem dX6_digest_47 : decode cX6_digest 47 = .ok (.invokevirtual 354, 3) := by decide +kernel
theorem dX6_digest_50 : decode cX6_digest 50 = .ok (.iinc 2 1, 3) := by decide +kernel
theorem dX6_digest_53 : decode cX6_digest 53 = .ok (.goto (-20), 3) := by decide +kernel
theorem dX6_digest_56 : decode cX6_digest 56 = .ok (.iinc 1 1, 3) := by decide +kernel
theorem dX6_digest_59 : decode cX6_digest 59 = .ok (.goto (-50), 3) := by decide +kernel
theorem dX6_digest_62 : decode cX6_digest 62 = .ok (.aload_n 0, 1) := by decide +kernel
theorem dX6_digest_63 : decode cX6_digest 63 = .ok (.invokevirtual 236, 3) := by decide +kernel
theorem dX6_digest_66 : decode cX6_digest 66 = .ok (.ifCond .ne 7, 3) := by decide +kernel
theorem dX6_digest_69 : decode cX6_digest 69 = .ok (.aload_n 0, 1) := by decide +kernel
theorem dX6_digest_70 : decode cX6_digest 70 = .ok (.invokevirtual 362, 3) := by decide +kernel
theorem dX6_digest_73 : decode cX6_digest 73 = .ok (.aload_n 0, 1) := by decide +kernel
theorem dX6_digest_74 : decode cX6_digest 74 = .ok (.aload_n 0, 1) := by decide +kernel
theorem dX6_digest_75 : decode cX6_digest 75 = .ok (.bipush 7, 2) := by decide +kernel
theorem dX6_digest_77 : decode cX6_digest 77 = .ok (.invokevirtual 288, 3) := by decide +kernel
theorem dX6_digest_80 : decode cX6_digest 80 = .ok (.i2l, 1) := by decide +kernel
theorem dX6_digest_81 : decode cX6_digest 81 = .ok (.invokevirtual 354, 3) := by decide +kernel
theorem dX6_digest_84 : decode cX6_digest 84 = .ok (.aload_n 0, 1) := by decide +kernel
