theorem dX5_image_15 : decode cX5_image 15 = .ok (.getfield 19, 3) := by decide +kernel
theorem dX5_image_18 : decode cX5_image 18 = .ok (.invokevirtual 226, 3) := by decide +kernel
theorem dX5_image_21 : decode cX5_image 21 = .ok (.aload_n 0, 1) := by decide +kernel
theorem dX5_image_22 : decode cX5_image 22 = .ok (.iconst 1, 1) := by decide +kernel
theorem dX5_image_23 : decode cX5_image 23 = .ok (.putfield 77, 3) := by decide +kernel
theorem dX5_image_26 : decode cX5_image 26 = .ok (.aload_n 0, 1) := by decide +kernel
theorem dX5_image_27 : decode cX5_image 27 = .ok (.getfield 19, 3) := by decide +kernel
theorem dX5_image_30 : decode cX5_image 30 = .ok (.getfield 83, 3) := by decide +kernel
theorem dX5_image_33 : decode cX5_image 33 = .ok (.getfield 86, 3) := by decide +kernel
theorem dX5_image_36 : decode cX5_image 36 = .ok (.ireturn, 1) := by decide +kernel
set_option maxRecDepth 20000 in
theorem ggX5_restore_X3_copy : GoodIn wsX5_restore wsX3_copy := goodIn_r _ [10, 11, 12, 13, 14, 15, 16, 17, 18, 19, 20, 21, 22, 23, 24, 25, 26, 27, 28, 29, 30, 31, 32, 33, 34, 35, 36, 37, 38, 39, 40, 41, 42, 43, 44, 45, 46, 47, 48, 49, 50, 51, 52, 53, 54, 55, 63, 64, 65, 66, 67, 68, 69, 70, 71, 72, 73, 74, 75, 76, 77, 78, 79, 80, 81, 82, 83, 84, 85, 86, 87] (by decide +kernel) (by decide +kernel)
set_option maxRecDepth 20000 in
theorem gX5_restore_X3_copy : GoodIn wsX5_restore (wsV RX5 226 RX3 yX3_copy wsX3_copy) := goodIn_app (goodIn_of _ (by decide +kernel)) ggX5_restore_X3_copy
theorem dX5_restore_0 : decode cX5_restore 0 = .ok (.aload_n 0, 1) := by decide +kernel
theorem dX5_restore_1 : decode cX5_restore 1 = .ok (.getfield 77, 3) := by decide +kernel
theorem dX5_restore_4 : decode cX5_restore 4 = .ok (.ifCond .ne 6, 3) := by decide +kernel
theorem dX5_restore_7 : decode cX5_restore 7 = .ok (.bipush (-103), 2) := by decide +kernel
theorem dX5_restore_9 : decode cX5_restore 9 = .ok (.ireturn, 1) := by decide +kernel
theorem dX5_restore_10 : decode cX5_restore 10 = .ok (.aload_n 0, 1) := by decide +kernel
theorem dX5_restore_11 : decode cX5_restore 11 = .ok (.getfield 19, 3) := by decide +kernel
theorem dX5_restore_14 : decode cX5_restore 14 = .ok (.aload_n 0, 1) := by decide +kernel
theorem dX5_restore_15 : decode cX5_restore 15 = .ok (.getfield 23, 3) := by decide +kernel
theorem dX5_restore_18 : decode cX5_restore 18 = .ok (.invokevirtual 226, 3) := by decide +kernel
theorem dX5_restore_21 : decode cX5_restore 21 = .ok (.aload_n 0, 1) := by decide +kernel
theorem dX5_restore_22 : decode cX5_restore 22 = .ok (.getfield 19, 3) := by decide +kernel
theorem dX5_restore_25 : decode cX5_restore 25 = .ok (.getfield 83, 3) := by decide +kernel
theorem dX5_restore_28 : decode cX5_restore 28 = .ok (.getfield 86, 3) := by decide +kernel
theorem dX5_restore_31 : decode cX5_restore 31 = .ok (.ireturn, 1) := by decide +kernel
theorem dX5_count_0 : decode cX5_count 0 = .ok (.iload_n 1, 1) := by decide +kernel
theorem dX5_count_1 : decode cX5_count 1 = .ok (.tableswitch 123 0 7 #[47, 58, 69, 80, 88, 99, 110, 118], 47) := by decide +kernel
theorem dX5_count_48 : decode cX5_count 48 = .ok (.aload_n 0, 1) := by decide +kernel
theorem dX5_count_49 : decode cX5_count 49 = .ok (.getfield 19, 3) := by decide +kernel
theorem dX5_count_52 : decode cX5_count 52 = .ok (.getfield 83, 3) := by decide +kernel
theorem dX5_count_55 : decode cX5_count 55 = .ok (.getfield 86, 3) := by decide +kernel
theorem dX5_count_58 : decode cX5_count 58 = .ok (.ireturn, 1) := by decide +kernel
theorem dX5_count_59 : decode cX5_count 59 = .ok (.aload_n 0, 1) := by decide +kernel
theorem dX5_count_60 : decode cX5_count 60 = .ok (.getfield 19, 3) := by decide +kernel
theorem dX5_count_63 : decode cX5_count 63 = .ok (.getfield 83, 3) := by decide +kernel
theorem dX5_count_66 : decode cX5_count 66 = .ok (.getfield 229, 3) := by decide +kernel
theorem dX5_count_69 : decode cX5_count 69 = .ok (.ireturn, 1) := by decide +kernel
theorem dX5_count_70 : decode cX5_count 70 = .ok (.aload_n 0, 1) := by decide +kernel
theorem dX5_count_71 : decode cX5_count 71 = .ok (.getfield 19, 3) := by decide +kernel
theorem dX5_count_74 : decode cX5_count 74 = .ok (.getfield 83, 3) := by decide +kernel
theorem dX5_count_77 : decode cX5_count 77 = .ok (.getfield 232, 3) := by decide +kernel
theorem dX5_count_80 : decode cX5_count 80 = .ok (.ireturn, 1) := by decide +kernel
theorem dX5_count_81 : decode cX5_count 81 = .ok (.aload_n 0, 1) := by decide +kernel
theorem dX5_count_82 : decode cX5_count 82 = .ok (.getfield 19, 3) := by decide +kernel
theorem dX5_count_85 : decode cX5_count 85 = .ok (.getfield 235, 3) := by decide +kernel
theorem dX5_count_88 : decode cX5_count 88 = .ok (.ireturn, 1) := by decide +kernel
theorem dX5_count_89 : decode cX5_count 89 = .ok (.aload_n 0, 1) := by decide +kernel
theorem dX5_count_90 : decode cX5_count 90 = .ok (.getfield 19, 3) := by decide +kernel
theorem dX5_count_93 : decode cX5_count 93 = .ok (.getfield 177, 3) := by decide +kernel
theorem dX5_count_96 : decode cX5_count 96 = .ok (.getfield 181, 3) := by decide +kernel
theorem dX5_count_99 : decode cX5_count 99 = .ok (.ireturn, 1) := by decide +kernel
theorem dX5_count_100 : decode cX5_count 100 = .ok (.aload_n 0, 1) := by decide +kernel
theorem dX5_count_101 : decode cX5_count 101 = .ok (.getfield 19, 3) := by decide +kernel
theorem dX5_count_104 : decode cX5_count 104 = .ok (.getfield 196, 3) := by decide +kernel
theorem dX5_count_107 : decode cX5_count 107 = .ok (.getfield 205, 3) := by decide +kernel
theorem dX5_count_110 : decode cX5_count 110 = .ok (.ireturn, 1) := by decide +kernel
theorem dX5_count_111 : decode cX5_count 111 = .ok (.aload_n 0, 1) := by decide +kernel
theorem dX5_count_112 : decode cX5_count 112 = .ok (.getfield 12, 3) := by decide +kernel
theorem dX5_count_115 : decode cX5_count 115 = .ok (.getfield 37, 3) := by decide +kernel
theorem dX5_count_118 : decode cX5_count 118 = .ok (.ireturn, 1) := by decide +kernel
theorem dX5_count_119 : decode cX5_count 119 = .ok (.aload_n 0, 1) := by decide +kernel
theorem dX5_count_120 : decode cX5_count 120 = .ok (.getfield 80, 3) := by decide +kernel
theorem dX5_count_123 : decode cX5_count 123 = .ok (.ireturn, 1) := by decide +kernel
theorem dX5_count_124 : decode cX5_count 124 = .ok (.bipush (-102), 2) := by decide +kernel
theorem dX5_count_126 : decode cX5_count 126 = .ok (.ireturn, 1) := by decide +kernel
set_option maxRecDepth 20000 in
theorem ggX5_digest_X5_mixEntries : GoodIn wsX5_digest wsX5_mixEntries := goodIn_r _ [10, 11, 12, 13, 14, 15, 16, 17, 18, 19, 20, 9, 21, 22, 23, 24, 25, 26, 27, 28, 29, 30, 31, 32, 33, 34, 35, 36, 37, 38, 39, 40, 41, 42, 43, 44, 45, 46, 47, 48, 49, 50, 51, 52, 53, 218, 219, 220, 221, 222, 223, 224, 227, 228, 229, 230, 231, 232, 233, 234, 235, 236, 237, 238, 239, 240, 241, 242, 243, 244, 245, 246] (by decide +kernel) (by decide +kernel)
set_option maxRecDepth 20000 in
theorem gX5_digest_X5_mixEntries : GoodIn wsX5_digest (wsV RX5 240 RX5 yX5_mixEntries wsX5_mixEntries) := goodIn_app (goodIn_of _ (by decide +kernel)) ggX5_digest_X5_mixEntries
set_option maxRecDepth 20000 in
theorem ggX5_digest_X5_mixShelf : GoodIn wsX5_digest wsX5_mixShelf := goodIn_r _ [57, 11, 12, 58, 59, 60, 61, 9, 62, 2, 63, 64, 65, 66, 67, 68, 69, 70, 71, 72, 16, 73, 74, 75, 76, 77, 40, 14, 15, 17, 18, 45, 33, 34, 35, 36, 37, 38, 39, 78, 79, 80, 81, 82, 83, 19, 20, 21, 22, 84, 85, 86, 87, 88, 89, 90, 91, 92, 93, 94, 95, 13, 96, 97, 98, 99, 100, 101, 102, 103, 104, 105, 106, 107, 108, 109, 110, 111, 112, 113, 114, 115, 116, 117, 118, 119, 120, 121, 122, 123, 124, 125, 126, 127, 128, 129, 130, 131, 132, 133, 134, 135, 136, 137, 138, 139, 140, 141, 142, 143, 144, 145, 146, 147, 148, 149, 46, 47, 48, 49, 150, 151, 152, 153, 154, 155, 156, 157, 158, 159, 160, 161, 162, 163, 164, 165, 166, 167, 168, 169, 170, 171, 172, 173, 174, 175, 176, 177, 178, 179, 180, 181, 182, 183, 218, 219, 220, 221, 222, 223, 224, 227, 228, 229, 230, 231, 232, 233, 234, 235, 236, 237, 238, 239, 240, 241, 242, 243, 244, 245, 246, 247, 248] (by decide +kernel) (by decide +kernel)
set_option maxRecDepth 20000 in
theorem gX5_digest_X5_mixShelf : GoodIn wsX5_digest (wsV RX5 244 RX5 yX5_mixShelf wsX5_mixShelf) := goodIn_app (goodIn_of _ (by decide +kernel)) ggX5_digest_X5_mixShelf
set_option maxRecDepth 20000 in
theorem ggX5_digest_X5_sorts : GoodIn wsX5_digest wsX5_sorts := goodIn_r _ [187, 11, 188, 93, 94, 9, 95, 189, 190, 191, 192, 193, 194, 195, 196, 197, 198, 199, 200, 201, 75, 76, 77, 202, 203, 204, 205, 206, 207, 208, 218, 219, 220, 221, 222, 223, 224, 227, 228, 229, 230, 231, 232, 233, 234, 249, 250, 251] (by decide +kernel) (by decide +kernel)
set_option maxRecDepth 20000 in
theorem gX5_digest_X5_sorts : GoodIn wsX5_digest (wsV RX5 247 RX5 yX5_sorts wsX5_sorts) := goodIn_app (goodIn_of _ (by decide +kernel)) ggX5_digest_X5_sorts
set_option maxRecDepth 20000 in
theorem ggX5_digest_X5_mix : GoodIn wsX5_digest wsX5_mix := goodIn_r _ [21, 22] (by decide +kernel) (by decide +kernel)
set_option maxRecDepth 20000 in
theorem gX5_digest_X5_mix : GoodIn wsX5_digest (va_wsS RX5 250 yX5_mix wsX5_mix) := goodIn_app (goodIn_of _ (by decide +kernel)) ggX5_digest_X5_mix
set_option maxRecDepth 20000 in
theorem ggX5_digest_X5_count : GoodIn wsX5_digest wsX5_count := goodIn_r _ [212, 11, 12, 63, 213, 214, 215, 122, 123, 188, 216, 3, 4, 217, 218, 219, 220, 221, 222, 223, 224, 227, 228, 229, 230, 231, 232, 233, 234, 235, 236, 237, 238, 239, 240, 241, 242, 243, 244, 245, 246, 247, 248, 249, 250, 251, 225, 226] (by decide +kernel) (by decide +kernel)
set_option maxRecDepth 20000 in
theorem gX5_digest_X5_count : GoodIn wsX5_digest (wsV RX5 257 RX5 yX5_count wsX5_count) := goodIn_app (goodIn_of _ (by decide +kernel)) ggX5_digest_X5_count
theorem dX5_digest_0 : decode cX5_digest 0 = .ok (.aload_n 0, 1) := by decide +kernel
theorem dX5_digest_1 : decode cX5_digest 1 = .ok (.ldc2_w 238, 3) := by decide +kernel
theorem dX5_digest_4 : decode cX5_digest 4 = .ok (.invokevirtual 240, 3) := by decide +kernel
theorem dX5_digest_7 : decode cX5_digest 7 = .ok (.lstore_n 1, 1) := by decide +kernel
theorem dX5_digest_8 : decode cX5_digest 8 = .ok (.aload_n 0, 1) := by decide +kernel
theorem dX5_digest_9 : decode cX5_digest 9 = .ok (.getfield 73, 3) := by decide +kernel
theorem dX5_digest_12 : decode cX5_digest 12 = .ok (.ifCond .eq 9, 3) := by decide +kernel
theorem dX5_digest_15 : decode cX5_digest 15 = .ok (.aload_n 0, 1) := by decide +kernel
theorem dX5_digest_16 : decode cX5_digest 16 = .ok (.lload_n 1, 1) := by decide +kernel
theorem dX5_digest_17 : decode cX5_digest 17 = .ok (.invokevirtual 244, 3) := by decide +kernel
theorem dX5_digest_20 : decode cX5_digest 20 = .ok (.lstore_n 1, 1) := by decide +kernel
theorem dX5_digest_21 : decode cX5_digest 21 = .ok (.lload_n 1, 1) := by decide +kernel
theorem dX5_digest_22 : decode cX5_digest 22 = .ok (.aload_n 0, 1) := by decide +kernel
theorem dX5_digest_23 : decode cX5_digest 23 = .ok (.bipush 7, 2) := by decide +kernel
theorem dX5_digest_25 : decode cX5_digest 25 = .ok (.iconst 0, 1) := by decide +kernel
theorem dX5_digest_26 : decode cX5_digest 26 = .ok (.invokevirtual 247, 3) := by decide +kernel
theorem dX5_digest_29 : decode cX5_digest 29 = .ok (.i2l, 1) := by decide +kernel
theorem dX5_digest_30 : decode cX5_digest 30 = .ok (.invokestatic 250, 3) := by decide +kernel
theorem dX5_digest_33 : decode cX5_digest 33 = .ok (.lstore_n 1, 1) := by decide +kernel
theorem dX5_digest_34 : decode cX5_digest 34 = .ok (.lload_n 1, 1) := by decide +kernel
theorem dX5_digest_35 : decode cX5_digest 35 = .ok (.aload_n 0, 1) := by decide +kernel
theorem dX5_digest_36 : decode cX5_digest 36 = .ok (.bipush 7, 2) := by decide +kernel
theorem dX5_digest_38 : decode cX5_digest 38 = .ok (.iconst 1, 1) := by decide +kernel
theorem dX5_digest_39 : decode cX5_digest 39 = .ok (.invokevirtual 247, 3) := by decide +kernel
theorem dX5_digest_42 : decode cX5_digest 42 = .ok (.i2l, 1) := by decide +kernel
theorem dX5_digest_43 : decode cX5_digest 43 = .ok (.invokestatic 250, 3) := by decide +kernel
theorem dX5_digest_46 : decode cX5_digest 46 = .ok (.lstore_n 1, 1) := by decide +kernel
theorem dX5_digest_47 : decode cX5_digest 47 = .ok (.iconst 0, 1) := by decide +kernel
theorem dX5_digest_48 : decode cX5_digest 48 = .ok (.istore_n 3, 1) := by decide +kernel
theorem dX5_digest_49 : decode cX5_digest 49 = .ok (.iload_n 3, 1) := by decide +kernel
theorem dX5_digest_50 : decode cX5_digest 50 = .ok (.aload_n 0, 1) := by decide +kernel
theorem dX5_digest_51 : decode cX5_digest 51 = .ok (.getfield 12, 3) := by decide +kernel
theorem dX5_digest_54 : decode cX5_digest 54 = .ok (.getfield 37, 3) := by decide +kernel
theorem dX5_digest_57 : decode cX5_digest 57 = .ok (.if_icmp .ge 24, 3) := by decide +kernel
theorem dX5_digest_60 : decode cX5_digest 60 = .ok (.lload_n 1, 1) := by decide +kernel
theorem dX5_digest_61 : decode cX5_digest 61 = .ok (.aload_n 0, 1) := by decide +kernel
theorem dX5_digest_62 : decode cX5_digest 62 = .ok (.getfield 12, 3) := by decide +kernel
theorem dX5_digest_65 : decode cX5_digest 65 = .ok (.getfield 254, 3) := by decide +kernel
theorem dX5_digest_68 : decode cX5_digest 68 = .ok (.iload_n 3, 1) := by decide +kernel
theorem dX5_digest_69 : decode cX5_digest 69 = .ok (.iaload, 1) := by decide +kernel
theorem dX5_digest_70 : decode cX5_digest 70 = .ok (.i2l, 1) := by decide +kernel
theorem dX5_digest_71 : decode cX5_digest 71 = .ok (.invokestatic 250, 3) := by decide +kernel
theorem dX5_digest_74 : decode cX5_digest 74 = .ok (.lstore_n 1, 1) := by decide +kernel
theorem dX5_digest_75 : decode cX5_digest 75 = .ok (.iinc 3 1, 3) := by decide +kernel
theorem dX5_digest_78 : decode cX5_digest 78 = .ok (.goto (-29), 3) := by decide +kernel
theorem dX5_digest_81 : decode cX5_digest 81 = .ok (.iconst 0, 1) := by decide +kernel
theorem dX5_digest_82 : decode cX5_digest 82 = .ok (.istore_n 3, 1) := by decide +kernel
theorem dX5_digest_83 : decode cX5_digest 83 = .ok (.iload_n 3, 1) := by decide +kernel
theorem dX5_digest_84 : decode cX5_digest 84 = .ok (.bipush 7, 2) := by decide +kernel
theorem dX5_digest_86 : decode cX5_digest 86 = .ok (.if_icmp .gt 20, 3) := by decide +kernel
theorem dX5_digest_89 : decode cX5_digest 89 = .ok (.lload_n 1, 1) := by decide +kernel
theorem dX5_digest_90 : decode cX5_digest 90 = .ok (.aload_n 0, 1) := by decide +kernel
theorem dX5_digest_91 : decode cX5_digest 91 = .ok (.iload_n 3, 1) := by decide +kernel
theorem dX5_digest_92 : decode cX5_digest 92 = .ok (.invokevirtual 257, 3) := by decide +kernel
theorem dX5_digest_95 : decode cX5_digest 95 = .ok (.i2l, 1) := by decide +kernel
theorem dX5_digest_96 : decode cX5_digest 96 = .ok (.invokestatic 250, 3) := by decide +kernel
theorem dX5_digest_99 : decode cX5_digest 99 = .ok (.lstore_n 1, 1) := by decide +kernel
theorem dX5_digest_100 : decode cX5_digest 100 = .ok (.iinc 3 1, 3) := by decide +kernel
theorem dX5_digest_103 : decode cX5_digest 103 = .ok (.goto (-20), 3) := by decide +kernel
theorem dX5_digest_106 : decode cX5_digest 106 = .ok (.lload_n 1, 1) := by decide +kernel
theorem dX5_digest_107 : decode cX5_digest 107 = .ok (.lreturn, 1) := by decide +kernel
set_option maxRecDepth 20000 in
theorem ggX5_mixEntries_X4_has : GoodIn wsX5_mixEntries wsX4_has := goodIn_r _ [7, 8, 60, 61, 62, 63, 64, 65, 66, 67, 68, 69, 70, 71] (by decide +kernel) (by decide +kernel)
set_option maxRecDepth 20000 in
theorem gX5_mixEntries_X4_has : GoodIn wsX5_mixEntries (wsV RX5 89 RX4 yX4_has wsX4_has) := goodIn_app (goodIn_of _ (by decide +kernel)) ggX5_mixEntries_X4_has
set_option maxRecDepth 20000 in
theorem ggX5_mixEntries_X5_mix : GoodIn wsX5_mixEntries wsX5_mix := goodIn_r _ [12, 13] (by decide +kernel) (by decide +kernel)
set_option maxRecDepth 20000 in
theorem gX5_mixEntries_X5_mix : GoodIn wsX5_mixEntries (va_wsS RX5 250 yX5_mix wsX5_mix) := goodIn_app (goodIn_of _ (by decide +kernel)) ggX5_mixEntries_X5_mix
set_option maxRecDepth 20000 in
theorem ggX5_mixEntries_X5_entry : GoodIn wsX5_mixEntries wsX5_entry := goodIn_r _ [17, 1, 2, 18, 19, 20, 21, 22, 3, 4, 5, 6, 7, 8, 23, 24, 25, 26, 27, 28, 29, 30, 31, 32, 33, 34, 35, 36, 37, 38, 39, 40, 41, 42, 43, 44, 45, 46, 47, 48, 49, 50, 51, 52, 53, 54, 55, 56, 57, 58, 59, 60, 61, 62, 63, 64, 65, 66, 67, 68, 69, 70, 71] (by decide +kernel) (by decide +kernel)
set_option maxRecDepth 20000 in
theorem gX5_mixEntries_X5_entry : GoodIn wsX5_mixEntries (wsV RX5 260 RX5 yX5_entry wsX5_entry) := goodIn_app (goodIn_of _ (by decide +kernel)) ggX5_mixEntries_X5_entry
theorem dX5_mixEntries_0 : decode cX5_mixEntries 0 = .ok (.lload_n 1, 1) := by decide +kernel
theorem dX5_mixEntries_1 : decode cX5_mixEntries 1 = .ok (.lstore_n 3, 1) := by decide +kernel
theorem dX5_mixEntries_2 : decode cX5_mixEntries 2 = .ok (.iconst 0, 1) := by decide +kernel
theorem dX5_mixEntries_3 : decode cX5_mixEntries 3 = .ok (.istore 5, 2) := by decide +kernel
theorem dX5_mixEntries_5 : decode cX5_mixEntries 5 = .ok (.iload 5, 2) := by decide +kernel
theorem dX5_mixEntries_7 : decode cX5_mixEntries 7 = .ok (.bipush 100, 2) := by decide +kernel
theorem dX5_mixEntries_9 : decode cX5_mixEntries 9 = .ok (.if_icmp .ge 62, 3) := by decide +kernel
theorem dX5_mixEntries_12 : decode cX5_mixEntries 12 = .ok (.aload_n 0, 1) := by decide +kernel
theorem dX5_mixEntries_13 : decode cX5_mixEntries 13 = .ok (.getfield 19, 3) := by decide +kernel
theorem dX5_mixEntries_16 : decode cX5_mixEntries 16 = .ok (.getfield 83, 3) := by decide +kernel
theorem dX5_mixEntries_19 : decode cX5_mixEntries 19 = .ok (.iload 5, 2) := by decide +kernel
theorem dX5_mixEntries_21 : decode cX5_mixEntries 21 = .ok (.invokevirtual 89, 3) := by decide +kernel
theorem dX5_mixEntries_24 : decode cX5_mixEntries 24 = .ok (.ifCond .eq 41, 3) := by decide +kernel
theorem dX5_mixEntries_27 : decode cX5_mixEntries 27 = .ok (.lload_n 3, 1) := by decide +kernel
theorem dX5_mixEntries_28 : decode cX5_mixEntries 28 = .ok (.iload 5, 2) := by decide +kernel
theorem dX5_mixEntries_30 : decode cX5_mixEntries 30 = .ok (.i2l, 1) := by decide +kernel
theorem dX5_mixEntries_31 : decode cX5_mixEntries 31 = .ok (.invokestatic 250, 3) := by decide +kernel
theorem dX5_mixEntries_34 : decode cX5_mixEntries 34 = .ok (.lstore_n 3, 1) := by decide +kernel
theorem dX5_mixEntries_35 : decode cX5_mixEntries 35 = .ok (.iconst 0, 1) := by decide +kernel
theorem dX5_mixEntries_36 : decode cX5_mixEntries 36 = .ok (.istore 6, 2) := by decide +kernel
theorem dX5_mixEntries_38 : decode cX5_mixEntries 38 = .ok (.iload 6, 2) := by decide +kernel
theorem dX5_mixEntries_40 : decode cX5_mixEntries 40 = .ok (.bipush 6, 2) := by decide +kernel
theorem dX5_mixEntries_42 : decode cX5_mixEntries 42 = .ok (.if_icmp .gt 23, 3) := by decide +kernel
theorem dX5_mixEntries_45 : decode cX5_mixEntries 45 = .ok (.lload_n 3, 1) := by decide +kernel
theorem dX5_mixEntries_46 : decode cX5_mixEntries 46 = .ok (.aload_n 0, 1) := by decide +kernel
theorem dX5_mixEntries_47 : decode cX5_mixEntries 47 = .ok (.iload 5, 2) := by decide +kernel
theorem dX5_mixEntries_49 : decode cX5_mixEntries 49 = .ok (.iload 6, 2) := by decide +kernel
theorem dX5_mixEntries_51 : decode cX5_mixEntries 51 = .ok (.invokevirtual 260, 3) := by decide +kernel
theorem dX5_mixEntries_54 : decode cX5_mixEntries 54 = .ok (.i2l, 1) := by decide +kernel
theorem dX5_mixEntries_55 : decode cX5_mixEntries 55 = .ok (.invokestatic 250, 3) := by decide +kernel
theorem dX5_mixEntries_58 : decode cX5_mixEntries 58 = .ok (.lstore_n 3, 1) := by decide +kernel
theorem dX5_mixEntries_59 : decode cX5_mixEntries 59 = .ok (.iinc 6 1, 3) := by decide +kernel
theorem dX5_mixEntries_62 : decode cX5_mixEntries 62 = .ok (.goto (-24), 3) := by decide +kernel
theorem dX5_mixEntries_65 : decode cX5_mixEntries 65 = .ok (.iinc 5 1, 3) := by decide +kernel
theorem dX5_mixEntries_68 : decode cX5_mixEntries 68 = .ok (.goto (-63), 3) := by decide +kernel
theorem dX5_mixEntries_71 : decode cX5_mixEntries 71 = .ok (.lload_n 3, 1) := by decide +kernel
theorem dX5_mixEntries_72 : decode cX5_mixEntries 72 = .ok (.lreturn, 1) := by decide +kernel
set_option maxRecDepth 20000 in
theorem ggX5_mixShelf_X5_ledger : GoodIn wsX5_mixShelf wsX5_ledger := goodIn_r _ [8, 9, 1, 2, 10, 11, 12, 13, 14, 15, 16, 17, 18, 19, 20, 21, 22, 23, 24, 25, 26, 27, 28, 29, 30, 31, 32, 33, 34, 35, 36, 37, 38, 39, 40, 41, 42, 43, 44, 154, 155, 156, 157, 158, 159, 160, 161, 162, 163, 164, 165, 166, 167, 168, 169, 170, 171, 172, 173, 174, 175, 176, 177, 178, 179, 180] (by decide +kernel) (by decide +kernel)
set_option maxRecDepth 20000 in
theorem gX5_mixShelf_X5_ledger : GoodIn wsX5_mixShelf (wsV RX5 263 RX5 yX5_ledger wsX5_ledger) := goodIn_app (goodIn_of _ (by decide +kernel)) ggX5_mixShelf_X5_ledger
set_option maxRecDepth 20000 in
theorem ggX5_mixShelf_X5_mix : GoodIn wsX5_mixShelf wsX5_mix := goodIn_r _ [47, 48] (by decide +kernel) (by decide +kernel)
set_option maxRecDepth 20000 in
theorem gX5_mixShelf_X5_mix : GoodIn wsX5_mixShelf (va_wsS RX5 250 yX5_mix wsX5_mix) := goodIn_app (goodIn_of _ (by decide +kernel)) ggX5_mixShelf_X5_mix
set_option maxRecDepth 20000 in
theorem ggX5_mixShelf_X4_isFull : GoodIn wsX5_mixShelf wsX4_isFull := goodIn_r _ [52, 53, 169, 170, 171, 172, 173, 174, 175, 176, 177, 178, 179, 180] (by decide +kernel) (by decide +kernel)
set_option maxRecDepth 20000 in
theorem gX5_mixShelf_X4_isFull : GoodIn wsX5_mixShelf (wsV RX5 127 RX4 yX4_isFull wsX4_isFull) := goodIn_app (goodIn_of _ (by decide +kernel)) ggX5_mixShelf_X4_isFull
set_option maxRecDepth 20000 in
theorem ggX5_mixShelf_X5_would : GoodIn wsX5_mixShelf wsX5_would := goodIn_r _ [57, 9, 1, 2, 58, 59, 7, 60, 49, 50, 51, 20, 52, 53, 61, 27, 28, 29, 30, 62, 63, 64, 65, 36, 31, 32, 33, 34, 35, 37, 38, 26, 66, 67, 68, 69, 70, 71, 24, 72, 43, 22, 23, 25, 44, 73, 40, 41, 42, 154, 155, 156, 157, 158, 159, 160, 161, 162, 163, 164, 165, 166, 167, 168, 169, 170, 171, 172, 173, 174, 175, 176, 177, 178, 179, 180] (by decide +kernel) (by decide +kernel)
set_option maxRecDepth 20000 in
theorem gX5_mixShelf_X5_would : GoodIn wsX5_mixShelf (wsV RX5 268 RX5 yX5_would wsX5_would) := goodIn_app (goodIn_of _ (by decide +kernel)) ggX5_mixShelf_X5_would
set_option maxRecDepth 20000 in
theorem ggX5_mixShelf_X5_ahead : GoodIn wsX5_mixShelf wsX5_ahead := goodIn_r _ [77, 9, 1, 2, 10, 78, 79, 80, 20, 81, 43, 44, 82, 154, 155, 156, 157, 158, 159, 160, 161, 162, 163, 164, 165, 166, 167, 168, 169, 170, 171, 172, 173, 174, 175, 176, 177, 178, 179, 180] (by decide +kernel) (by decide +kernel)
set_option maxRecDepth 20000 in
theorem gX5_mixShelf_X5_ahead : GoodIn wsX5_mixShelf (wsV RX5 271 RX5 yX5_ahead wsX5_ahead) := goodIn_app (goodIn_of _ (by decide +kernel)) ggX5_mixShelf_X5_ahead
set_option maxRecDepth 20000 in
theorem ggX5_mixShelf_X5_replay : GoodIn wsX5_mixShelf wsX5_replay := goodIn_r _ [86, 9, 87, 1, 88, 89, 90, 16, 91, 92, 7, 93, 94, 95, 96, 20, 97, 30, 35, 44, 43, 53, 82, 98, 99, 100, 101, 102, 103, 104, 105, 106, 107, 26, 27, 28, 29, 108, 109, 110, 111, 31, 32, 33, 34, 36, 37, 38, 112, 113, 114, 115, 116, 117, 118, 119, 120, 121, 122, 123, 124, 125, 126, 127, 128, 129, 130, 131, 132, 79, 80, 81, 133, 134, 135, 136, 137, 138, 139, 140, 141, 142, 143, 144, 145, 146, 147, 148, 149, 50, 51, 52, 150, 151, 152, 153, 22, 23, 24, 25, 66, 67, 68, 69, 70, 71, 72, 73, 40, 41, 42, 17, 18, 19, 21, 154, 155, 156, 157, 158, 159, 160, 161, 162, 163, 164, 165, 166, 167, 168, 181, 182, 169, 170, 171, 172, 173, 174, 175, 176, 177, 178, 179, 180] (by decide +kernel) (by decide +kernel)
set_option maxRecDepth 20000 in
theorem gX5_mixShelf_X5_replay : GoodIn wsX5_mixShelf (wsV RX5 274 RX5 yX5_replay wsX5_replay) := goodIn_app (goodIn_of _ (by decide +kernel)) ggX5_mixShelf_X5_replay
theorem dX5_mixShelf_0 : decode cX5_mixShelf 0 = .ok (.lload_n 1, 1) := by decide +kernel
theorem dX5_mixShelf_1 : decode cX5_mixShelf 1 = .ok (.lstore_n 3, 1) := by decide +kernel
theorem dX5_mixShelf_2 : decode cX5_mixShelf 2 = .ok (.iconst 0, 1) := by decide +kernel
theorem dX5_mixShelf_3 : decode cX5_mixShelf 3 = .ok (.istore 5, 2) := by decide +kernel
theorem dX5_mixShelf_5 : decode cX5_mixShelf 5 = .ok (.iload 5, 2) := by decide +kernel
theorem dX5_mixShelf_7 : decode cX5_mixShelf 7 = .ok (.bipush 6, 2) := by decide +kernel
theorem dX5_mixShelf_9 : decode cX5_mixShelf 9 = .ok (.if_icmp .gt 21, 3) := by decide +kernel
theorem dX5_mixShelf_12 : decode cX5_mixShelf 12 = .ok (.lload_n 3, 1) := by decide +kernel
theorem dX5_mixShelf_13 : decode cX5_mixShelf 13 = .ok (.aload_n 0, 1) := by decide +kernel
theorem dX5_mixShelf_14 : decode cX5_mixShelf 14 = .ok (.iload 5, 2) := by decide +kernel
theorem dX5_mixShelf_16 : decode cX5_mixShelf 16 = .ok (.invokevirtual 263, 3) := by decide +kernel
theorem dX5_mixShelf_19 : decode cX5_mixShelf 19 = .ok (.i2l, 1) := by decide +kernel
theorem dX5_mixShelf_20 : decode cX5_mixShelf 20 = .ok (.invokestatic 250, 3) := by decide +kernel
theorem dX5_mixShelf_23 : decode cX5_mixShelf 23 = .ok (.lstore_n 3, 1) := by decide +kernel
theorem dX5_mixShelf_24 : decode cX5_mixShelf 24 = .ok (.iinc 5 1, 3) := by decide +kernel
theorem dX5_mixShelf_27 : decode cX5_mixShelf 27 = .ok (.goto (-22), 3) := by decide +kernel
theorem dX5_mixShelf_30 : decode cX5_mixShelf 30 = .ok (.lload_n 3, 1) := by decide +kernel
theorem dX5_mixShelf_31 : decode cX5_mixShelf 31 = .ok (.aload_n 0, 1) := by decide +kernel
theorem dX5_mixShelf_32 : decode cX5_mixShelf 32 = .ok (.getfield 19, 3) := by decide +kernel
theorem dX5_mixShelf_35 : decode cX5_mixShelf 35 = .ok (.getfield 83, 3) := by decide +kernel
theorem dX5_mixShelf_38 : decode cX5_mixShelf 38 = .ok (.invokevirtual 127, 3) := by decide +kernel
theorem dX5_mixShelf_41 : decode cX5_mixShelf 41 = .ok (.ifCond .eq 9, 3) := by decide +kernel
theorem dX5_mixShelf_44 : decode cX5_mixShelf 44 = .ok (.ldc2_w 266, 3) := by decide +kernel
theorem dX5_mixShelf_47 : decode cX5_mixShelf 47 = .ok (.goto 10, 3) := by decide +kernel
theorem dX5_mixShelf_50 : decode cX5_mixShelf 50 = .ok (.aload_n 0, 1) := by decide +kernel
theorem dX5_mixShelf_51 : decode cX5_mixShelf 51 = .ok (.bipush 50, 2) := by decide +kernel
theorem dX5_mixShelf_53 : decode cX5_mixShelf 53 = .ok (.invokevirtual 268, 3) := by decide +kernel
theorem dX5_mixShelf_56 : decode cX5_mixShelf 56 = .ok (.i2l, 1) := by decide +kernel
theorem dX5_mixShelf_57 : decode cX5_mixShelf 57 = .ok (.invokestatic 250, 3) := by decide +kernel
theorem dX5_mixShelf_60 : decode cX5_mixShelf 60 = .ok (.lstore_n 3, 1) := by decide +kernel
theorem dX5_mixShelf_61 : decode cX5_mixShelf 61 = .ok (.lload_n 3, 1) := by decide +kernel
theorem dX5_mixShelf_62 : decode cX5_mixShelf 62 = .ok (.aload_n 0, 1) := by decide +kernel
theorem dX5_mixShelf_63 : decode cX5_mixShelf 63 = .ok (.invokevirtual 271, 3) := by decide +kernel
theorem dX5_mixShelf_66 : decode cX5_mixShelf 66 = .ok (.i2l, 1) := by decide +kernel
theorem dX5_mixShelf_67 : decode cX5_mixShelf 67 = .ok (.invokestatic 250, 3) := by decide +kernel
theorem dX5_mixShelf_70 : decode cX5_mixShelf 70 = .ok (.lstore_n 3, 1) := by decide +kernel
theorem dX5_mixShelf_71 : decode cX5_mixShelf 71 = .ok (.lload_n 3, 1) := by decide +kernel
theorem dX5_mixShelf_72 : decode cX5_mixShelf 72 = .ok (.aload_n 0, 1) := by decide +kernel
theorem dX5_mixShelf_73 : decode cX5_mixShelf 73 = .ok (.iconst 2, 1) := by decide +kernel
theorem dX5_mixShelf_74 : decode cX5_mixShelf 74 = .ok (.iconst 3, 1) := by decide +kernel
theorem dX5_mixShelf_75 : decode cX5_mixShelf 75 = .ok (.iconst 0, 1) := by decide +kernel
theorem dX5_mixShelf_76 : decode cX5_mixShelf 76 = .ok (.invokevirtual 274, 3) := by decide +kernel
theorem dX5_mixShelf_79 : decode cX5_mixShelf 79 = .ok (.i2l, 1) := by decide +kernel
theorem dX5_mixShelf_80 : decode cX5_mixShelf 80 = .ok (.invokestatic 250, 3) := by decide +kernel
theorem dX5_mixShelf_83 : decode cX5_mixShelf 83 = .ok (.lstore_n 3, 1) := by decide +kernel
theorem dX5_mixShelf_84 : decode cX5_mixShelf 84 = .ok (.lload_n 3, 1) := by decide +kernel
theorem dX5_mixShelf_85 : decode cX5_mixShelf 85 = .ok (.aload_n 0, 1) := by decide +kernel
theorem dX5_mixShelf_86 : decode cX5_mixShelf 86 = .ok (.iconst 2, 1) := by decide +kernel
theorem dX5_mixShelf_87 : decode cX5_mixShelf 87 = .ok (.iconst 3, 1) := by decide +kernel
theorem dX5_mixShelf_88 : decode cX5_mixShelf 88 = .ok (.iconst 1, 1) := by decide +kernel
theorem dX5_mixShelf_89 : decode cX5_mixShelf 89 = .ok (.invokevirtual 274, 3) := by decide +kernel
theorem dX5_mixShelf_92 : decode cX5_mixShelf 92 = .ok (.i2l, 1) := by decide +kernel
theorem dX5_mixShelf_93 : decode cX5_mixShelf 93 = .ok (.invokestatic 250, 3) := by decide +kernel
theorem dX5_mixShelf_96 : decode cX5_mixShelf 96 = .ok (.lreturn, 1) := by decide +kernel
theorem dX5_mix_0 : decode cX5_mix 0 = .ok (.ldc2_w 277, 3) := by decide +kernel
theorem dX5_mix_3 : decode cX5_mix 3 = .ok (.lload_n 0, 1) := by decide +kernel
theorem dX5_mix_4 : decode cX5_mix 4 = .ok (.lmul, 1) := by decide +kernel
theorem dX5_mix_5 : decode cX5_mix 5 = .ok (.lload_n 2, 1) := by decide +kernel
theorem dX5_mix_6 : decode cX5_mix 6 = .ok (.ladd, 1) := by decide +kernel
theorem dX5_mix_7 : decode cX5_mix 7 = .ok (.lreturn, 1) := by decide +kernel
theorem dX5_isNoKey_0 : decode cX5_isNoKey 0 = .ok (.iload_n 0, 1) := by decide +kernel
theorem dX5_isNoKey_1 : decode cX5_isNoKey 1 = .ok (.ifCond .lt 9, 3) := by decide +kernel
theorem dX5_isNoKey_4 : decode cX5_isNoKey 4 = .ok (.iload_n 0, 1) := by decide +kernel
theorem dX5_isNoKey_5 : decode cX5_isNoKey 5 = .ok (.bipush 100, 2) := by decide +kernel
theorem dX5_isNoKey_7 : decode cX5_isNoKey 7 = .ok (.if_icmp .lt 7, 3) := by decide +kernel
theorem dX5_isNoKey_10 : decode cX5_isNoKey 10 = .ok (.iconst 1, 1) := by decide +kernel
theorem dX5_isNoKey_11 : decode cX5_isNoKey 11 = .ok (.goto 4, 3) := by decide +kernel
theorem dX5_isNoKey_14 : decode cX5_isNoKey 14 = .ok (.iconst 0, 1) := by decide +kernel
theorem dX5_isNoKey_15 : decode cX5_isNoKey 15 = .ok (.ireturn, 1) := by decide +kernel
theorem dX5_isRatio_0 : decode cX5_isRatio 0 = .ok (.iload_n 0, 1) := by decide +kernel
theorem dX5_isRatio_1 : decode cX5_isRatio 1 = .ok (.iconst 2, 1) := by decide +kernel
theorem dX5_isRatio_2 : decode cX5_isRatio 2 = .ok (.if_icmp .lt 24, 3) := by decide +kernel
theorem dX5_isRatio_5 : decode cX5_isRatio 5 = .ok (.iload_n 0, 1) := by decide +kernel
theorem dX5_isRatio_6 : decode cX5_isRatio 6 = .ok (.iload_n 1, 1) := by decide +kernel
theorem dX5_isRatio_7 : decode cX5_isRatio 7 = .ok (.if_icmp .ge 19, 3) := by decide +kernel
theorem dX5_isRatio_10 : decode cX5_isRatio 10 = .ok (.iload_n 1, 1) := by decide +kernel
theorem dX5_isRatio_11 : decode cX5_isRatio 11 = .ok (.iconst 5, 1) := by decide +kernel
theorem dX5_isRatio_12 : decode cX5_isRatio 12 = .ok (.if_icmp .gt 14, 3) := by decide +kernel
theorem dX5_isRatio_15 : decode cX5_isRatio 15 = .ok (.iconst 2, 1) := by decide +kernel
theorem dX5_isRatio_16 : decode cX5_isRatio 16 = .ok (.iload_n 0, 1) := by decide +kernel
theorem dX5_isRatio_17 : decode cX5_isRatio 17 = .ok (.imul, 1) := by decide +kernel
theorem dX5_isRatio_18 : decode cX5_isRatio 18 = .ok (.iload_n 1, 1) := by decide +kernel
theorem dX5_isRatio_19 : decode cX5_isRatio 19 = .ok (.if_icmp .le 7, 3) := by decide +kernel
theorem dX5_isRatio_22 : decode cX5_isRatio 22 = .ok (.iconst 1, 1) := by decide +kernel
theorem dX5_isRatio_23 : decode cX5_isRatio 23 = .ok (.goto 4, 3) := by decide +kernel
theorem dX5_isRatio_26 : decode cX5_isRatio 26 = .ok (.iconst 0, 1) := by decide +kernel
theorem dX5_isRatio_27 : decode cX5_isRatio 27 = .ok (.ireturn, 1) := by decide +kernel
theorem dX5_isOf_0 : decode cX5_isOf 0 = .ok (.iload_n 1, 1) := by decide +kernel
theorem dX5_isOf_1 : decode cX5_isOf 1 = .ok (.ifCond .eq 18, 3) := by decide +kernel
theorem dX5_isOf_4 : decode cX5_isOf 4 = .ok (.iload_n 0, 1) := by decide +kernel
theorem dX5_isOf_5 : decode cX5_isOf 5 = .ok (.iload_n 1, 1) := by decide +kernel
theorem dX5_isOf_6 : decode cX5_isOf 6 = .ok (.if_icmp .eq 13, 3) := by decide +kernel
theorem dX5_isOf_9 : decode cX5_isOf 9 = .ok (.iload_n 0, 1) := by decide +kernel
theorem dX5_isOf_10 : decode cX5_isOf 10 = .ok (.iconst 4, 1) := by decide +kernel
theorem dX5_isOf_11 : decode cX5_isOf 11 = .ok (.if_icmp .ne 12, 3) := by decide +kernel
theorem dX5_isOf_14 : decode cX5_isOf 14 = .ok (.iload_n 1, 1) := by decide +kernel
theorem dX5_isOf_15 : decode cX5_isOf 15 = .ok (.iconst 1, 1) := by decide +kernel
theorem dX5_isOf_16 : decode cX5_isOf 16 = .ok (.if_icmp .ne 7, 3) := by decide +kernel
theorem dX5_isOf_19 : decode cX5_isOf 19 = .ok (.iconst 1, 1) := by decide +kernel
theorem dX5_isOf_20 : decode cX5_isOf 20 = .ok (.goto 4, 3) := by decide +kernel
theorem dX5_isOf_23 : decode cX5_isOf 23 = .ok (.iconst 0, 1) := by decide +kernel
theorem dX5_isOf_24 : decode cX5_isOf 24 = .ok (.ireturn, 1) := by decide +kernel
theorem dX5_isAble_0 : decode cX5_isAble 0 = .ok (.getstatic 193, 3) := by decide +kernel
theorem dX5_isAble_3 : decode cX5_isAble 3 = .ok (.iload_n 1, 1) := by decide +kernel
theorem dX5_isAble_4 : decode cX5_isAble 4 = .ok (.iaload, 1) := by decide +kernel
theorem dX5_isAble_5 : decode cX5_isAble 5 = .ok (.iconst 1, 1) := by decide +kernel
theorem dX5_isAble_6 : decode cX5_isAble 6 = .ok (.iload_n 0, 1) := by decide +kernel
theorem dX5_isAble_7 : decode cX5_isAble 7 = .ok (.ishl, 1) := by decide +kernel
theorem dX5_isAble_8 : decode cX5_isAble 8 = .ok (.iand, 1) := by decide +kernel
theorem dX5_isAble_9 : decode cX5_isAble 9 = .ok (.ifCond .eq 7, 3) := by decide +kernel
theorem dX5_isAble_12 : decode cX5_isAble 12 = .ok (.iconst 1, 1) := by decide +kernel
theorem dX5_isAble_13 : decode cX5_isAble 13 = .ok (.goto 4, 3) := by decide +kernel
theorem dX5_isAble_16 : decode cX5_isAble 16 = .ok (.iconst 0, 1) := by decide +kernel
theorem dX5_isAble_17 : decode cX5_isAble 17 = .ok (.ireturn, 1) := by decide +kernel
set_option maxRecDepth 20000 in
theorem ggX5_bestAsk_J6_bitCount_0f7a4 : GoodIn wsX5_bestAsk wsJ6_bitCount_0f7a4 := goodIn_r _ [9, 10, 11, 12] (by decide +kernel) (by decide +kernel)
set_option maxRecDepth 20000 in
theorem gX5_bestAsk_J6_bitCount_0f7a4 : GoodIn wsX5_bestAsk (va_wsS RX5 279 yJ6_bitCount_0f7a4 wsJ6_bitCount_0f7a4) := goodIn_app (goodIn_of _ (by decide +kernel)) ggX5_bestAsk_J6_bitCount_0f7a4
theorem dX5_bestAsk_0 : decode cX5_bestAsk 0 = .ok (.iload_n 0, 1) := by decide +kernel
theorem dX5_bestAsk_1 : decode cX5_bestAsk 1 = .ok (.ifCond .ne 5, 3) := by decide +kernel
theorem dX5_bestAsk_4 : decode cX5_bestAsk 4 = .ok (.iconst (-1), 1) := by decide +kernel
theorem dX5_bestAsk_5 : decode cX5_bestAsk 5 = .ok (.ireturn, 1) := by decide +kernel
theorem dX5_bestAsk_6 : decode cX5_bestAsk 6 = .ok (.iconst (-1), 1) := by decide +kernel
theorem dX5_bestAsk_7 : decode cX5_bestAsk 7 = .ok (.istore_n 1, 1) := by decide +kernel
theorem dX5_bestAsk_8 : decode cX5_bestAsk 8 = .ok (.bipush 6, 2) := by decide +kernel
theorem dX5_bestAsk_10 : decode cX5_bestAsk 10 = .ok (.istore_n 2, 1) := by decide +kernel
theorem dX5_bestAsk_11 : decode cX5_bestAsk 11 = .ok (.iconst 0, 1) := by decide +kernel
theorem dX5_bestAsk_12 : decode cX5_bestAsk 12 = .ok (.istore_n 3, 1) := by decide +kernel
theorem dX5_bestAsk_13 : decode cX5_bestAsk 13 = .ok (.iload_n 3, 1) := by decide +kernel
theorem dX5_bestAsk_14 : decode cX5_bestAsk 14 = .ok (.getstatic 193, 3) := by decide +kernel
theorem dX5_bestAsk_17 : decode cX5_bestAsk 17 = .ok (.arraylength, 1) := by decide +kernel
theorem dX5_bestAsk_18 : decode cX5_bestAsk 18 = .ok (.if_icmp .ge 47, 3) := by decide +kernel
theorem dX5_bestAsk_21 : decode cX5_bestAsk 21 = .ok (.iload_n 0, 1) := by decide +kernel
theorem dX5_bestAsk_22 : decode cX5_bestAsk 22 = .ok (.getstatic 193, 3) := by decide +kernel
theorem dX5_bestAsk_25 : decode cX5_bestAsk 25 = .ok (.iload_n 3, 1) := by decide +kernel
theorem dX5_bestAsk_26 : decode cX5_bestAsk 26 = .ok (.iaload, 1) := by decide +kernel
theorem dX5_bestAsk_27 : decode cX5_bestAsk 27 = .ok (.iand, 1) := by decide +kernel
theorem dX5_bestAsk_28 : decode cX5_bestAsk 28 = .ok (.invokestatic 279, 3) := by decide +kernel
theorem dX5_bestAsk_31 : decode cX5_bestAsk 31 = .ok (.iload_n 0, 1) := by decide +kernel
theorem dX5_bestAsk_32 : decode cX5_bestAsk 32 = .ok (.getstatic 193, 3) := by decide +kernel
theorem dX5_bestAsk_35 : decode cX5_bestAsk 35 = .ok (.iload_n 3, 1) := by decide +kernel
theorem dX5_bestAsk_36 : decode cX5_bestAsk 36 = .ok (.iaload, 1) := by decide +kernel
theorem dX5_bestAsk_37 : decode cX5_bestAsk 37 = .ok (.iconst (-1), 1) := by decide +kernel
theorem dX5_bestAsk_38 : decode cX5_bestAsk 38 = .ok (.ixor, 1) := by decide +kernel
theorem dX5_bestAsk_39 : decode cX5_bestAsk 39 = .ok (.iand, 1) := by decide +kernel
theorem dX5_bestAsk_40 : decode cX5_bestAsk 40 = .ok (.invokestatic 279, 3) := by decide +kernel
theorem dX5_bestAsk_43 : decode cX5_bestAsk 43 = .ok (.invokestatic 284, 3) := by decide +kernel
theorem dX5_bestAsk_46 : decode cX5_bestAsk 46 = .ok (.istore 4, 2) := by decide +kernel
theorem dX5_bestAsk_48 : decode cX5_bestAsk 48 = .ok (.iload 4, 2) := by decide +kernel
theorem dX5_bestAsk_50 : decode cX5_bestAsk 50 = .ok (.iload_n 2, 1) := by decide +kernel
theorem dX5_bestAsk_51 : decode cX5_bestAsk 51 = .ok (.if_icmp .ge 8, 3) := by decide +kernel
theorem dX5_bestAsk_54 : decode cX5_bestAsk 54 = .ok (.iload_n 3, 1) := by decide +kernel
theorem dX5_bestAsk_55 : decode cX5_bestAsk 55 = .ok (.istore_n 1, 1) := by decide +kernel
theorem dX5_bestAsk_56 : decode cX5_bestAsk 56 = .ok (.iload 4, 2) := by decide +kernel
theorem dX5_bestAsk_58 : decode cX5_bestAsk 58 = .ok (.istore_n 2, 1) := by decide +kernel
theorem dX5_bestAsk_59 : decode cX5_bestAsk 59 = .ok (.iinc 3 1, 3) := by decide +kernel
theorem dX5_bestAsk_62 : decode cX5_bestAsk 62 = .ok (.goto (-49), 3) := by decide +kernel
theorem dX5_bestAsk_65 : decode cX5_bestAsk 65 = .ok (.iload_n 1, 1) := by decide +kernel
theorem dX5_bestAsk_66 : decode cX5_bestAsk 66 = .ok (.ireturn, 1) := by decide +kernel
