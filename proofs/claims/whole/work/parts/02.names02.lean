theorem dX4_tall_18 : decode cX4_tall 18 = .ok (.iload_n 1, 1) := by decide +kernel
theorem dX4_tall_19 : decode cX4_tall 19 = .ok (.aload_n 0, 1) := by decide +kernel
theorem dX4_tall_20 : decode cX4_tall 20 = .ok (.iload_n 2, 1) := by decide +kernel
theorem dX4_tall_21 : decode cX4_tall 21 = .ok (.invokevirtual 65, 3) := by decide +kernel
theorem dX4_tall_24 : decode cX4_tall 24 = .ok (.iconst 1, 1) := by decide +kernel
theorem dX4_tall_25 : decode cX4_tall 25 = .ok (.isub, 1) := by decide +kernel
theorem dX4_tall_26 : decode cX4_tall 26 = .ok (.invokestatic 72, 3) := by decide +kernel
theorem dX4_tall_29 : decode cX4_tall 29 = .ok (.istore_n 1, 1) := by decide +kernel
theorem dX4_tall_30 : decode cX4_tall 30 = .ok (.iinc 2 1, 3) := by decide +kernel
theorem dX4_tall_33 : decode cX4_tall 33 = .ok (.goto (-29), 3) := by decide +kernel
theorem dX4_tall_36 : decode cX4_tall 36 = .ok (.iload_n 1, 1) := by decide +kernel
theorem dX4_tall_37 : decode cX4_tall 37 = .ok (.ireturn, 1) := by decide +kernel
set_option maxRecDepth 20000 in
theorem ggX4_turn_X4_has : GoodIn wsX4_turn wsX4_has := goodIn_r _ [5, 6, 88, 89, 90, 91, 92, 93, 94, 95, 96, 97, 98, 99] (by decide +kernel) (by decide +kernel)
set_option maxRecDepth 20000 in
theorem gX4_turn_X4_has : GoodIn wsX4_turn (wsV RX4 61 RX4 yX4_has wsX4_has) := goodIn_app (goodIn_of _ (by decide +kernel)) ggX4_turn_X4_has
set_option maxRecDepth 20000 in
theorem ggX4_turn_X4_drop : GoodIn wsX4_turn wsX4_drop := goodIn_r _ [10, 6, 11, 12, 13, 14, 15, 4, 16, 17, 18, 19, 20, 1, 2, 3, 5, 21, 22, 23, 24, 25, 26, 27, 28, 29, 30, 31, 32, 33, 34, 35, 36, 37, 38, 39, 40, 41, 42, 43, 44, 45, 46, 47, 48, 49, 50, 51, 52, 53, 54, 55, 56, 57, 58, 59, 60, 61, 62, 63, 64, 88, 89, 90, 91, 92, 93, 94, 95, 96, 97, 98, 99] (by decide +kernel) (by decide +kernel)
set_option maxRecDepth 20000 in
theorem gX4_turn_X4_drop : GoodIn wsX4_turn (wsV RX4 78 RX4 yX4_drop wsX4_drop) := goodIn_app (goodIn_of _ (by decide +kernel)) ggX4_turn_X4_drop
set_option maxRecDepth 20000 in
theorem ggX4_turn_X4_isFull : GoodIn wsX4_turn wsX4_isFull := goodIn_r _ [68, 11, 88, 89, 90, 91, 92, 93, 94, 95, 96, 97, 98, 99] (by decide +kernel) (by decide +kernel)
set_option maxRecDepth 20000 in
theorem gX4_turn_X4_isFull : GoodIn wsX4_turn (wsV RX4 81 RX4 yX4_isFull wsX4_isFull) := goodIn_app (goodIn_of _ (by decide +kernel)) ggX4_turn_X4_isFull
set_option maxRecDepth 20000 in
theorem ggX4_turn_X4_add : GoodIn wsX4_turn wsX4_add := goodIn_r _ [72, 19, 20, 6, 11, 12, 73, 74, 75, 76, 13, 14, 15, 4, 16, 17, 18, 1, 2, 3, 5, 77, 78, 79, 80, 81, 82, 83, 45, 46, 84, 85, 86, 87, 21, 22, 23, 24, 25, 26, 27, 28, 37, 38, 39, 40, 51, 52, 53, 54, 55, 56, 57, 58, 59, 60, 61, 62, 63, 64, 88, 89, 90, 91, 92, 93, 94, 95, 96, 97, 98, 99] (by decide +kernel) (by decide +kernel)
set_option maxRecDepth 20000 in
theorem gX4_turn_X4_add : GoodIn wsX4_turn (wsV RX4 85 RX4 yX4_add wsX4_add) := goodIn_app (goodIn_of _ (by decide +kernel)) ggX4_turn_X4_add
theorem dX4_turn_0 : decode cX4_turn 0 = .ok (.aload_n 0, 1) := by decide +kernel
theorem dX4_turn_1 : decode cX4_turn 1 = .ok (.iload_n 1, 1) := by decide +kernel
theorem dX4_turn_2 : decode cX4_turn 2 = .ok (.invokevirtual 61, 3) := by decide +kernel
theorem dX4_turn_5 : decode cX4_turn 5 = .ok (.ifCond .eq 12, 3) := by decide +kernel
theorem dX4_turn_8 : decode cX4_turn 8 = .ok (.aload_n 0, 1) := by decide +kernel
theorem dX4_turn_9 : decode cX4_turn 9 = .ok (.iload_n 1, 1) := by decide +kernel
theorem dX4_turn_10 : decode cX4_turn 10 = .ok (.invokevirtual 78, 3) := by decide +kernel
theorem dX4_turn_13 : decode cX4_turn 13 = .ok (.pop, 1) := by decide +kernel
theorem dX4_turn_14 : decode cX4_turn 14 = .ok (.goto 16, 3) := by decide +kernel
theorem dX4_turn_17 : decode cX4_turn 17 = .ok (.aload_n 0, 1) := by decide +kernel
theorem dX4_turn_18 : decode cX4_turn 18 = .ok (.invokevirtual 81, 3) := by decide +kernel
theorem dX4_turn_21 : decode cX4_turn 21 = .ok (.ifCond .ne 9, 3) := by decide +kernel
theorem dX4_turn_24 : decode cX4_turn 24 = .ok (.aload_n 0, 1) := by decide +kernel
theorem dX4_turn_25 : decode cX4_turn 25 = .ok (.iload_n 1, 1) := by decide +kernel
theorem dX4_turn_26 : decode cX4_turn 26 = .ok (.invokevirtual 85, 3) := by decide +kernel
theorem dX4_turn_29 : decode cX4_turn 29 = .ok (.pop, 1) := by decide +kernel
theorem dX4_turn_30 : decode cX4_turn 30 = .ok (.return_, 1) := by decide +kernel
set_option maxRecDepth 20000 in
theorem ggX4_wouldBuild_X4_walk : GoodIn wsX4_wouldBuild wsX4_walk := goodIn_r _ [7, 8, 2, 9, 10, 11, 12, 13, 6, 14, 1, 33, 34, 35, 36, 37, 38, 39, 40, 41, 42, 43, 44] (by decide +kernel) (by decide +kernel)
set_option maxRecDepth 20000 in
theorem gX4_wouldBuild_X4_walk : GoodIn wsX4_wouldBuild (wsV RX4 65 RX4 yX4_walk wsX4_walk) := goodIn_app (goodIn_of _ (by decide +kernel)) ggX4_wouldBuild_X4_walk
set_option maxRecDepth 20000 in
theorem ggX4_wouldBuild_X4_heavyPlace : GoodIn wsX4_wouldBuild wsX4_heavyPlace := goodIn_r _ [18, 19, 2, 20, 21, 22, 23, 1, 24, 25, 26, 27, 28, 29, 30, 31, 6, 32, 33, 34, 35, 36, 37, 38, 39, 40, 41, 42, 43, 44] (by decide +kernel) (by decide +kernel)
set_option maxRecDepth 20000 in
theorem gX4_wouldBuild_X4_heavyPlace : GoodIn wsX4_wouldBuild (wsV RX4 88 RX4 yX4_heavyPlace wsX4_heavyPlace) := goodIn_app (goodIn_of _ (by decide +kernel)) ggX4_wouldBuild_X4_heavyPlace
theorem dX4_wouldBuild_0 : decode cX4_wouldBuild 0 = .ok (.aload_n 0, 1) := by decide +kernel
theorem dX4_wouldBuild_1 : decode cX4_wouldBuild 1 = .ok (.aload_n 0, 1) := by decide +kernel
theorem dX4_wouldBuild_2 : decode cX4_wouldBuild 2 = .ok (.iload_n 1, 1) := by decide +kernel
theorem dX4_wouldBuild_3 : decode cX4_wouldBuild 3 = .ok (.invokevirtual 65, 3) := by decide +kernel
theorem dX4_wouldBuild_6 : decode cX4_wouldBuild 6 = .ok (.invokevirtual 88, 3) := by decide +kernel
theorem dX4_wouldBuild_9 : decode cX4_wouldBuild 9 = .ok (.istore_n 2, 1) := by decide +kernel
theorem dX4_wouldBuild_10 : decode cX4_wouldBuild 10 = .ok (.iload_n 2, 1) := by decide +kernel
theorem dX4_wouldBuild_11 : decode cX4_wouldBuild 11 = .ok (.iconst (-1), 1) := by decide +kernel
theorem dX4_wouldBuild_12 : decode cX4_wouldBuild 12 = .ok (.if_icmp .ne 7, 3) := by decide +kernel
theorem dX4_wouldBuild_15 : decode cX4_wouldBuild 15 = .ok (.iconst 0, 1) := by decide +kernel
theorem dX4_wouldBuild_16 : decode cX4_wouldBuild 16 = .ok (.goto 16, 3) := by decide +kernel
theorem dX4_wouldBuild_19 : decode cX4_wouldBuild 19 = .ok (.aload_n 0, 1) := by decide +kernel
theorem dX4_wouldBuild_20 : decode cX4_wouldBuild 20 = .ok (.getfield 18, 3) := by decide +kernel
theorem dX4_wouldBuild_23 : decode cX4_wouldBuild 23 = .ok (.aload_n 0, 1) := by decide +kernel
theorem dX4_wouldBuild_24 : decode cX4_wouldBuild 24 = .ok (.getfield 21, 3) := by decide +kernel
theorem dX4_wouldBuild_27 : decode cX4_wouldBuild 27 = .ok (.iload_n 2, 1) := by decide +kernel
theorem dX4_wouldBuild_28 : decode cX4_wouldBuild 28 = .ok (.iaload, 1) := by decide +kernel
theorem dX4_wouldBuild_29 : decode cX4_wouldBuild 29 = .ok (.iaload, 1) := by decide +kernel
theorem dX4_wouldBuild_30 : decode cX4_wouldBuild 30 = .ok (.iconst 1, 1) := by decide +kernel
theorem dX4_wouldBuild_31 : decode cX4_wouldBuild 31 = .ok (.iadd, 1) := by decide +kernel
theorem dX4_wouldBuild_32 : decode cX4_wouldBuild 32 = .ok (.ireturn, 1) := by decide +kernel
set_option maxRecDepth 20000 in
theorem ggX4_add_X4_walk : GoodIn wsX4_add wsX4_walk := goodIn_r _ [14, 15, 16, 1, 2, 17, 18, 19, 13, 20, 3, 60, 61, 62, 63, 64, 65, 66, 67, 68, 69, 70, 71] (by decide +kernel) (by decide +kernel)
set_option maxRecDepth 20000 in
theorem gX4_add_X4_walk : GoodIn wsX4_add (wsV RX4 65 RX4 yX4_walk wsX4_walk) := goodIn_app (goodIn_of _ (by decide +kernel)) ggX4_add_X4_walk
set_option maxRecDepth 20000 in
theorem ggX4_add_X4_heavyPlace : GoodIn wsX4_add wsX4_heavyPlace := goodIn_r _ [24, 4, 16, 25, 26, 8, 27, 3, 28, 6, 7, 9, 29, 30, 31, 32, 13, 33, 60, 61, 62, 63, 64, 65, 66, 67, 68, 69, 70, 71] (by decide +kernel) (by decide +kernel)
set_option maxRecDepth 20000 in
theorem gX4_add_X4_heavyPlace : GoodIn wsX4_add (wsV RX4 88 RX4 yX4_heavyPlace wsX4_heavyPlace) := goodIn_app (goodIn_of _ (by decide +kernel)) ggX4_add_X4_heavyPlace
set_option maxRecDepth 20000 in
theorem ggX4_add_X4_changeSizes : GoodIn wsX4_add wsX4_changeSizes := goodIn_r _ [37, 16, 3, 60, 61, 62, 63, 64, 65, 66, 67, 68, 69, 70, 71] (by decide +kernel) (by decide +kernel)
set_option maxRecDepth 20000 in
theorem gX4_add_X4_changeSizes : GoodIn wsX4_add (wsV RX4 91 RX4 yX4_changeSizes wsX4_changeSizes) := goodIn_app (goodIn_of _ (by decide +kernel)) ggX4_add_X4_changeSizes
set_option maxRecDepth 20000 in
theorem ggX4_add_X4_onWay : GoodIn wsX4_add wsX4_onWay := goodIn_r _ [41, 16, 60, 61, 62, 63, 64, 65, 66, 67, 68, 69, 70, 71] (by decide +kernel) (by decide +kernel)
set_option maxRecDepth 20000 in
theorem gX4_add_X4_onWay : GoodIn wsX4_add (wsV RX4 69 RX4 yX4_onWay wsX4_onWay) := goodIn_app (goodIn_of _ (by decide +kernel)) ggX4_add_X4_onWay
set_option maxRecDepth 20000 in
theorem ggX4_add_X4_hang : GoodIn wsX4_add wsX4_hang := goodIn_r _ [45, 15, 1, 2, 60, 61, 62, 63, 64, 65, 66, 67, 68, 69, 70, 71] (by decide +kernel) (by decide +kernel)
set_option maxRecDepth 20000 in
theorem gX4_add_X4_hang : GoodIn wsX4_add (wsV RX4 95 RX4 yX4_hang wsX4_hang) := goodIn_app (goodIn_of _ (by decide +kernel)) ggX4_add_X4_hang
set_option maxRecDepth 20000 in
theorem ggX4_add_X4_build : GoodIn wsX4_add wsX4_build := goodIn_r _ [49, 50, 51, 52, 53, 54, 13, 55, 16, 56, 3, 38, 39, 40, 41, 57, 58, 59, 1, 2, 42, 43, 44, 45, 15, 60, 61, 62, 63, 64, 65, 66, 67, 68, 69, 70, 71] (by decide +kernel) (by decide +kernel)
set_option maxRecDepth 20000 in
theorem gX4_add_X4_build : GoodIn wsX4_add (wsV RX4 99 RX4 yX4_build wsX4_build) := goodIn_app (goodIn_of _ (by decide +kernel)) ggX4_add_X4_build
theorem dX4_add_0 : decode cX4_add 0 = .ok (.aload_n 0, 1) := by decide +kernel
theorem dX4_add_1 : decode cX4_add 1 = .ok (.iload_n 1, 1) := by decide +kernel
theorem dX4_add_2 : decode cX4_add 2 = .ok (.invokevirtual 65, 3) := by decide +kernel
theorem dX4_add_5 : decode cX4_add 5 = .ok (.istore_n 2, 1) := by decide +kernel
theorem dX4_add_6 : decode cX4_add 6 = .ok (.aload_n 0, 1) := by decide +kernel
theorem dX4_add_7 : decode cX4_add 7 = .ok (.iload_n 2, 1) := by decide +kernel
theorem dX4_add_8 : decode cX4_add 8 = .ok (.invokevirtual 88, 3) := by decide +kernel
theorem dX4_add_11 : decode cX4_add 11 = .ok (.istore_n 3, 1) := by decide +kernel
theorem dX4_add_12 : decode cX4_add 12 = .ok (.aload_n 0, 1) := by decide +kernel
theorem dX4_add_13 : decode cX4_add 13 = .ok (.iload_n 2, 1) := by decide +kernel
theorem dX4_add_14 : decode cX4_add 14 = .ok (.iconst 1, 1) := by decide +kernel
theorem dX4_add_15 : decode cX4_add 15 = .ok (.invokevirtual 91, 3) := by decide +kernel
theorem dX4_add_18 : decode cX4_add 18 = .ok (.aload_n 0, 1) := by decide +kernel
theorem dX4_add_19 : decode cX4_add 19 = .ok (.getfield 9, 3) := by decide +kernel
theorem dX4_add_22 : decode cX4_add 22 = .ok (.iload_n 1, 1) := by decide +kernel
theorem dX4_add_23 : decode cX4_add 23 = .ok (.iconst (-1), 1) := by decide +kernel
theorem dX4_add_24 : decode cX4_add 24 = .ok (.iastore, 1) := by decide +kernel
theorem dX4_add_25 : decode cX4_add 25 = .ok (.aload_n 0, 1) := by decide +kernel
theorem dX4_add_26 : decode cX4_add 26 = .ok (.getfield 15, 3) := by decide +kernel
theorem dX4_add_29 : decode cX4_add 29 = .ok (.iload_n 1, 1) := by decide +kernel
theorem dX4_add_30 : decode cX4_add 30 = .ok (.iconst (-1), 1) := by decide +kernel
theorem dX4_add_31 : decode cX4_add 31 = .ok (.iastore, 1) := by decide +kernel
theorem dX4_add_32 : decode cX4_add 32 = .ok (.aload_n 0, 1) := by decide +kernel
theorem dX4_add_33 : decode cX4_add 33 = .ok (.getfield 18, 3) := by decide +kernel
theorem dX4_add_36 : decode cX4_add 36 = .ok (.iload_n 1, 1) := by decide +kernel
theorem dX4_add_37 : decode cX4_add 37 = .ok (.iconst 1, 1) := by decide +kernel
theorem dX4_add_38 : decode cX4_add 38 = .ok (.iastore, 1) := by decide +kernel
theorem dX4_add_39 : decode cX4_add 39 = .ok (.aload_n 0, 1) := by decide +kernel
theorem dX4_add_40 : decode cX4_add 40 = .ok (.aload_n 0, 1) := by decide +kernel
theorem dX4_add_41 : decode cX4_add 41 = .ok (.iload_n 2, 1) := by decide +kernel
theorem dX4_add_42 : decode cX4_add 42 = .ok (.iconst 1, 1) := by decide +kernel
theorem dX4_add_43 : decode cX4_add 43 = .ok (.isub, 1) := by decide +kernel
theorem dX4_add_44 : decode cX4_add 44 = .ok (.invokevirtual 69, 3) := by decide +kernel
theorem dX4_add_47 : decode cX4_add 47 = .ok (.iload_n 1, 1) := by decide +kernel
theorem dX4_add_48 : decode cX4_add 48 = .ok (.iload_n 1, 1) := by decide +kernel
theorem dX4_add_49 : decode cX4_add 49 = .ok (.invokevirtual 95, 3) := by decide +kernel
theorem dX4_add_52 : decode cX4_add 52 = .ok (.aload_n 0, 1) := by decide +kernel
theorem dX4_add_53 : decode cX4_add 53 = .ok (.dup, 1) := by decide +kernel
theorem dX4_add_54 : decode cX4_add 54 = .ok (.getfield 43, 3) := by decide +kernel
theorem dX4_add_57 : decode cX4_add 57 = .ok (.iconst 1, 1) := by decide +kernel
theorem dX4_add_58 : decode cX4_add 58 = .ok (.iadd, 1) := by decide +kernel
theorem dX4_add_59 : decode cX4_add 59 = .ok (.putfield 43, 3) := by decide +kernel
theorem dX4_add_62 : decode cX4_add 62 = .ok (.aload_n 0, 1) := by decide +kernel
theorem dX4_add_63 : decode cX4_add 63 = .ok (.aload_n 0, 1) := by decide +kernel
theorem dX4_add_64 : decode cX4_add 64 = .ok (.getfield 46, 3) := by decide +kernel
theorem dX4_add_67 : decode cX4_add 67 = .ok (.aload_n 0, 1) := by decide +kernel
theorem dX4_add_68 : decode cX4_add 68 = .ok (.getfield 43, 3) := by decide +kernel
theorem dX4_add_71 : decode cX4_add 71 = .ok (.invokestatic 72, 3) := by decide +kernel
theorem dX4_add_74 : decode cX4_add 74 = .ok (.putfield 46, 3) := by decide +kernel
theorem dX4_add_77 : decode cX4_add 77 = .ok (.iload_n 3, 1) := by decide +kernel
theorem dX4_add_78 : decode cX4_add 78 = .ok (.iconst (-1), 1) := by decide +kernel
theorem dX4_add_79 : decode cX4_add 79 = .ok (.if_icmp .ne 7, 3) := by decide +kernel
theorem dX4_add_82 : decode cX4_add 82 = .ok (.iconst 0, 1) := by decide +kernel
theorem dX4_add_83 : decode cX4_add 83 = .ok (.goto 8, 3) := by decide +kernel
theorem dX4_add_86 : decode cX4_add 86 = .ok (.aload_n 0, 1) := by decide +kernel
theorem dX4_add_87 : decode cX4_add 87 = .ok (.iload_n 3, 1) := by decide +kernel
theorem dX4_add_88 : decode cX4_add 88 = .ok (.invokevirtual 99, 3) := by decide +kernel
theorem dX4_add_91 : decode cX4_add 91 = .ok (.ireturn, 1) := by decide +kernel
set_option maxRecDepth 20000 in
theorem ggX4_drop_X4_walk : GoodIn wsX4_drop wsX4_walk := goodIn_r _ [8, 9, 10, 11, 12, 13, 14, 15, 7, 16, 1, 61, 62, 63, 64, 65, 66, 67, 68, 69, 70, 71, 72] (by decide +kernel) (by decide +kernel)
set_option maxRecDepth 20000 in
theorem gX4_drop_X4_walk : GoodIn wsX4_drop (wsV RX4 65 RX4 yX4_walk wsX4_walk) := goodIn_app (goodIn_of _ (by decide +kernel)) ggX4_drop_X4_walk
set_option maxRecDepth 20000 in
theorem ggX4_drop_X4_changeSizes : GoodIn wsX4_drop wsX4_changeSizes := goodIn_r _ [20, 10, 1, 61, 62, 63, 64, 65, 66, 67, 68, 69, 70, 71, 72] (by decide +kernel) (by decide +kernel)
set_option maxRecDepth 20000 in
theorem gX4_drop_X4_changeSizes : GoodIn wsX4_drop (wsV RX4 91 RX4 yX4_changeSizes wsX4_changeSizes) := goodIn_app (goodIn_of _ (by decide +kernel)) ggX4_drop_X4_changeSizes
set_option maxRecDepth 20000 in
theorem ggX4_drop_X4_onWay : GoodIn wsX4_drop wsX4_onWay := goodIn_r _ [24, 10, 61, 62, 63, 64, 65, 66, 67, 68, 69, 70, 71, 72] (by decide +kernel) (by decide +kernel)
set_option maxRecDepth 20000 in
theorem gX4_drop_X4_onWay : GoodIn wsX4_drop (wsV RX4 69 RX4 yX4_onWay wsX4_onWay) := goodIn_app (goodIn_of _ (by decide +kernel)) ggX4_drop_X4_onWay
set_option maxRecDepth 20000 in
theorem ggX4_drop_X4_heirOf : GoodIn wsX4_drop wsX4_heirOf := goodIn_r _ [28, 11, 12, 13, 14, 15, 7, 16, 1, 29, 30, 31, 32, 61, 62, 63, 64, 65, 66, 67, 68, 69, 70, 71, 72] (by decide +kernel) (by decide +kernel)
set_option maxRecDepth 20000 in
theorem gX4_drop_X4_heirOf : GoodIn wsX4_drop (wsV RX4 102 RX4 yX4_heirOf wsX4_heirOf) := goodIn_app (goodIn_of _ (by decide +kernel)) ggX4_drop_X4_heirOf
set_option maxRecDepth 20000 in
theorem ggX4_drop_X4_hang : GoodIn wsX4_drop wsX4_hang := goodIn_r _ [36, 9, 11, 12, 61, 62, 63, 64, 65, 66, 67, 68, 69, 70, 71, 72] (by decide +kernel) (by decide +kernel)
set_option maxRecDepth 20000 in
theorem gX4_drop_X4_hang : GoodIn wsX4_drop (wsV RX4 95 RX4 yX4_hang wsX4_hang) := goodIn_app (goodIn_of _ (by decide +kernel)) ggX4_drop_X4_hang
set_option maxRecDepth 20000 in
theorem ggX4_drop_X4_isFew : GoodIn wsX4_drop wsX4_isFew := goodIn_r _ [40, 41, 42, 3, 61, 62, 63, 64, 65, 66, 67, 68, 69, 70, 71, 72] (by decide +kernel) (by decide +kernel)
set_option maxRecDepth 20000 in
theorem gX4_drop_X4_isFew : GoodIn wsX4_drop (wsV RX4 105 RX4 yX4_isFew wsX4_isFew) := goodIn_app (goodIn_of _ (by decide +kernel)) ggX4_drop_X4_isFew
set_option maxRecDepth 20000 in
theorem ggX4_drop_X4_buildAll : GoodIn wsX4_drop wsX4_buildAll := goodIn_r _ [46, 9, 10, 47, 48, 49, 7, 50, 51, 52, 53, 54, 55, 56, 57, 1, 21, 22, 23, 24, 58, 59, 60, 11, 12, 33, 34, 35, 36, 61, 62, 63, 64, 65, 66, 67, 68, 69, 70, 71, 72] (by decide +kernel) (by decide +kernel)
set_option maxRecDepth 20000 in
theorem gX4_drop_X4_buildAll : GoodIn wsX4_drop (wsV RX4 108 RX4 yX4_buildAll wsX4_buildAll) := goodIn_app (goodIn_of _ (by decide +kernel)) ggX4_drop_X4_buildAll
theorem dX4_drop_0 : decode cX4_drop 0 = .ok (.aload_n 0, 1) := by decide +kernel
theorem dX4_drop_1 : decode cX4_drop 1 = .ok (.iload_n 1, 1) := by decide +kernel
theorem dX4_drop_2 : decode cX4_drop 2 = .ok (.invokevirtual 65, 3) := by decide +kernel
theorem dX4_drop_5 : decode cX4_drop 5 = .ok (.istore_n 2, 1) := by decide +kernel
theorem dX4_drop_6 : decode cX4_drop 6 = .ok (.aload_n 0, 1) := by decide +kernel
theorem dX4_drop_7 : decode cX4_drop 7 = .ok (.iload_n 2, 1) := by decide +kernel
theorem dX4_drop_8 : decode cX4_drop 8 = .ok (.iconst (-1), 1) := by decide +kernel
theorem dX4_drop_9 : decode cX4_drop 9 = .ok (.invokevirtual 91, 3) := by decide +kernel
theorem dX4_drop_12 : decode cX4_drop 12 = .ok (.aload_n 0, 1) := by decide +kernel
theorem dX4_drop_13 : decode cX4_drop 13 = .ok (.aload_n 0, 1) := by decide +kernel
theorem dX4_drop_14 : decode cX4_drop 14 = .ok (.iload_n 2, 1) := by decide +kernel
theorem dX4_drop_15 : decode cX4_drop 15 = .ok (.iconst 2, 1) := by decide +kernel
theorem dX4_drop_16 : decode cX4_drop 16 = .ok (.isub, 1) := by decide +kernel
theorem dX4_drop_17 : decode cX4_drop 17 = .ok (.invokevirtual 69, 3) := by decide +kernel
theorem dX4_drop_20 : decode cX4_drop 20 = .ok (.iload_n 1, 1) := by decide +kernel
theorem dX4_drop_21 : decode cX4_drop 21 = .ok (.aload_n 0, 1) := by decide +kernel
theorem dX4_drop_22 : decode cX4_drop 22 = .ok (.iload_n 1, 1) := by decide +kernel
theorem dX4_drop_23 : decode cX4_drop 23 = .ok (.invokevirtual 102, 3) := by decide +kernel
theorem dX4_drop_26 : decode cX4_drop 26 = .ok (.invokevirtual 95, 3) := by decide +kernel
theorem dX4_drop_29 : decode cX4_drop 29 = .ok (.aload_n 0, 1) := by decide +kernel
theorem dX4_drop_30 : decode cX4_drop 30 = .ok (.getfield 18, 3) := by decide +kernel
theorem dX4_drop_33 : decode cX4_drop 33 = .ok (.iload_n 1, 1) := by decide +kernel
theorem dX4_drop_34 : decode cX4_drop 34 = .ok (.iconst 0, 1) := by decide +kernel
theorem dX4_drop_35 : decode cX4_drop 35 = .ok (.iastore, 1) := by decide +kernel
theorem dX4_drop_36 : decode cX4_drop 36 = .ok (.aload_n 0, 1) := by decide +kernel
theorem dX4_drop_37 : decode cX4_drop 37 = .ok (.dup, 1) := by decide +kernel
theorem dX4_drop_38 : decode cX4_drop 38 = .ok (.getfield 43, 3) := by decide +kernel
theorem dX4_drop_41 : decode cX4_drop 41 = .ok (.iconst 1, 1) := by decide +kernel
theorem dX4_drop_42 : decode cX4_drop 42 = .ok (.isub, 1) := by decide +kernel
theorem dX4_drop_43 : decode cX4_drop 43 = .ok (.putfield 43, 3) := by decide +kernel
theorem dX4_drop_46 : decode cX4_drop 46 = .ok (.aload_n 0, 1) := by decide +kernel
theorem dX4_drop_47 : decode cX4_drop 47 = .ok (.getfield 43, 3) := by decide +kernel
theorem dX4_drop_50 : decode cX4_drop 50 = .ok (.ifCond .ne 8, 3) := by decide +kernel
theorem dX4_drop_53 : decode cX4_drop 53 = .ok (.aload_n 0, 1) := by decide +kernel
theorem dX4_drop_54 : decode cX4_drop 54 = .ok (.iconst 0, 1) := by decide +kernel
theorem dX4_drop_55 : decode cX4_drop 55 = .ok (.putfield 46, 3) := by decide +kernel
theorem dX4_drop_58 : decode cX4_drop 58 = .ok (.aload_n 0, 1) := by decide +kernel
theorem dX4_drop_59 : decode cX4_drop 59 = .ok (.aload_n 0, 1) := by decide +kernel
theorem dX4_drop_60 : decode cX4_drop 60 = .ok (.getfield 43, 3) := by decide +kernel
theorem dX4_drop_63 : decode cX4_drop 63 = .ok (.invokevirtual 105, 3) := by decide +kernel
theorem dX4_drop_66 : decode cX4_drop 66 = .ok (.ifCond .ne 5, 3) := by decide +kernel
theorem dX4_drop_69 : decode cX4_drop 69 = .ok (.iconst 0, 1) := by decide +kernel
theorem dX4_drop_70 : decode cX4_drop 70 = .ok (.ireturn, 1) := by decide +kernel
theorem dX4_drop_71 : decode cX4_drop 71 = .ok (.aload_n 0, 1) := by decide +kernel
theorem dX4_drop_72 : decode cX4_drop 72 = .ok (.aload_n 0, 1) := by decide +kernel
theorem dX4_drop_73 : decode cX4_drop 73 = .ok (.getfield 43, 3) := by decide +kernel
theorem dX4_drop_76 : decode cX4_drop 76 = .ok (.putfield 46, 3) := by decide +kernel
theorem dX4_drop_79 : decode cX4_drop 79 = .ok (.aload_n 0, 1) := by decide +kernel
theorem dX4_drop_80 : decode cX4_drop 80 = .ok (.invokevirtual 108, 3) := by decide +kernel
theorem dX4_drop_83 : decode cX4_drop 83 = .ok (.ireturn, 1) := by decide +kernel
set_option maxRecDepth 20000 in
theorem ggX4_buildAll_X4_build : GoodIn wsX4_buildAll wsX4_build := goodIn_r _ [7, 8, 9, 10, 11, 12, 6, 13, 2, 14, 15, 16, 17, 18, 19, 20, 21, 22, 23, 24, 25, 26, 27, 28, 1, 29, 30, 31, 32, 33, 34, 35, 36, 37, 38, 39, 40] (by decide +kernel) (by decide +kernel)
set_option maxRecDepth 20000 in
theorem gX4_buildAll_X4_build : GoodIn wsX4_buildAll (wsV RX4 99 RX4 yX4_build wsX4_build) := goodIn_app (goodIn_of _ (by decide +kernel)) ggX4_buildAll_X4_build
theorem dX4_buildAll_0 : decode cX4_buildAll 0 = .ok (.aload_n 0, 1) := by decide +kernel
theorem dX4_buildAll_1 : decode cX4_buildAll 1 = .ok (.getfield 27, 3) := by decide +kernel
theorem dX4_buildAll_4 : decode cX4_buildAll 4 = .ok (.iconst (-1), 1) := by decide +kernel
theorem dX4_buildAll_5 : decode cX4_buildAll 5 = .ok (.if_icmp .ne 5, 3) := by decide +kernel
theorem dX4_buildAll_8 : decode cX4_buildAll 8 = .ok (.iconst 0, 1) := by decide +kernel
theorem dX4_buildAll_9 : decode cX4_buildAll 9 = .ok (.ireturn, 1) := by decide +kernel
theorem dX4_buildAll_10 : decode cX4_buildAll 10 = .ok (.aload_n 0, 1) := by decide +kernel
theorem dX4_buildAll_11 : decode cX4_buildAll 11 = .ok (.getfield 21, 3) := by decide +kernel
theorem dX4_buildAll_14 : decode cX4_buildAll 14 = .ok (.iconst 0, 1) := by decide +kernel
theorem dX4_buildAll_15 : decode cX4_buildAll 15 = .ok (.aload_n 0, 1) := by decide +kernel
theorem dX4_buildAll_16 : decode cX4_buildAll 16 = .ok (.getfield 27, 3) := by decide +kernel
theorem dX4_buildAll_19 : decode cX4_buildAll 19 = .ok (.iastore, 1) := by decide +kernel
theorem dX4_buildAll_20 : decode cX4_buildAll 20 = .ok (.aload_n 0, 1) := by decide +kernel
theorem dX4_buildAll_21 : decode cX4_buildAll 21 = .ok (.iconst 0, 1) := by decide +kernel
theorem dX4_buildAll_22 : decode cX4_buildAll 22 = .ok (.invokevirtual 99, 3) := by decide +kernel
theorem dX4_buildAll_25 : decode cX4_buildAll 25 = .ok (.ireturn, 1) := by decide +kernel
set_option maxRecDepth 20000 in
theorem ggX4_heavyPlace_X4_limit : GoodIn wsX4_heavyPlace wsX4_limit := goodIn_r _ [17, 8, 12, 18, 19, 20, 21, 22, 23, 24, 25, 26, 27, 28, 29] (by decide +kernel) (by decide +kernel)
set_option maxRecDepth 20000 in
theorem gX4_heavyPlace_X4_limit : GoodIn wsX4_heavyPlace (wsV RX4 112 RX4 yX4_limit wsX4_limit) := goodIn_app (goodIn_of _ (by decide +kernel)) ggX4_heavyPlace_X4_limit
theorem dX4_heavyPlace_0 : decode cX4_heavyPlace 0 = .ok (.iload_n 1, 1) := by decide +kernel
theorem dX4_heavyPlace_1 : decode cX4_heavyPlace 1 = .ok (.aload_n 0, 1) := by decide +kernel
theorem dX4_heavyPlace_2 : decode cX4_heavyPlace 2 = .ok (.aload_n 0, 1) := by decide +kernel
theorem dX4_heavyPlace_3 : decode cX4_heavyPlace 3 = .ok (.getfield 43, 3) := by decide +kernel
theorem dX4_heavyPlace_6 : decode cX4_heavyPlace 6 = .ok (.iconst 1, 1) := by decide +kernel
theorem dX4_heavyPlace_7 : decode cX4_heavyPlace 7 = .ok (.iadd, 1) := by decide +kernel
theorem dX4_heavyPlace_8 : decode cX4_heavyPlace 8 = .ok (.invokevirtual 112, 3) := by decide +kernel
theorem dX4_heavyPlace_11 : decode cX4_heavyPlace 11 = .ok (.if_icmp .gt 5, 3) := by decide +kernel
theorem dX4_heavyPlace_14 : decode cX4_heavyPlace 14 = .ok (.iconst (-1), 1) := by decide +kernel
theorem dX4_heavyPlace_15 : decode cX4_heavyPlace 15 = .ok (.ireturn, 1) := by decide +kernel
theorem dX4_heavyPlace_16 : decode cX4_heavyPlace 16 = .ok (.iconst 1, 1) := by decide +kernel
theorem dX4_heavyPlace_17 : decode cX4_heavyPlace 17 = .ok (.istore_n 2, 1) := by decide +kernel
theorem dX4_heavyPlace_18 : decode cX4_heavyPlace 18 = .ok (.iload_n 1, 1) := by decide +kernel
theorem dX4_heavyPlace_19 : decode cX4_heavyPlace 19 = .ok (.aload_n 0, 1) := by decide +kernel
theorem dX4_heavyPlace_20 : decode cX4_heavyPlace 20 = .ok (.getfield 21, 3) := by decide +kernel
theorem dX4_heavyPlace_23 : decode cX4_heavyPlace 23 = .ok (.arraylength, 1) := by decide +kernel
theorem dX4_heavyPlace_24 : decode cX4_heavyPlace 24 = .ok (.invokestatic 115, 3) := by decide +kernel
theorem dX4_heavyPlace_27 : decode cX4_heavyPlace 27 = .ok (.iconst 1, 1) := by decide +kernel
theorem dX4_heavyPlace_28 : decode cX4_heavyPlace 28 = .ok (.isub, 1) := by decide +kernel
theorem dX4_heavyPlace_29 : decode cX4_heavyPlace 29 = .ok (.istore_n 3, 1) := by decide +kernel
theorem dX4_heavyPlace_30 : decode cX4_heavyPlace 30 = .ok (.iload_n 3, 1) := by decide +kernel
theorem dX4_heavyPlace_31 : decode cX4_heavyPlace 31 = .ok (.ifCond .lt 58, 3) := by decide +kernel
theorem dX4_heavyPlace_34 : decode cX4_heavyPlace 34 = .ok (.aload_n 0, 1) := by decide +kernel
theorem dX4_heavyPlace_35 : decode cX4_heavyPlace 35 = .ok (.getfield 18, 3) := by decide +kernel
theorem dX4_heavyPlace_38 : decode cX4_heavyPlace 38 = .ok (.aload_n 0, 1) := by decide +kernel
theorem dX4_heavyPlace_39 : decode cX4_heavyPlace 39 = .ok (.getfield 21, 3) := by decide +kernel
theorem dX4_heavyPlace_42 : decode cX4_heavyPlace 42 = .ok (.iload_n 3, 1) := by decide +kernel
theorem dX4_heavyPlace_43 : decode cX4_heavyPlace 43 = .ok (.iaload, 1) := by decide +kernel
theorem dX4_heavyPlace_44 : decode cX4_heavyPlace 44 = .ok (.iaload, 1) := by decide +kernel
theorem dX4_heavyPlace_45 : decode cX4_heavyPlace 45 = .ok (.iconst 1, 1) := by decide +kernel
theorem dX4_heavyPlace_46 : decode cX4_heavyPlace 46 = .ok (.iadd, 1) := by decide +kernel
theorem dX4_heavyPlace_47 : decode cX4_heavyPlace 47 = .ok (.istore 4, 2) := by decide +kernel
theorem dX4_heavyPlace_49 : decode cX4_heavyPlace 49 = .ok (.iload 4, 2) := by decide +kernel
theorem dX4_heavyPlace_51 : decode cX4_heavyPlace 51 = .ok (.iconst 1, 1) := by decide +kernel
theorem dX4_heavyPlace_52 : decode cX4_heavyPlace 52 = .ok (.isub, 1) := by decide +kernel
theorem dX4_heavyPlace_53 : decode cX4_heavyPlace 53 = .ok (.iload_n 2, 1) := by decide +kernel
theorem dX4_heavyPlace_54 : decode cX4_heavyPlace 54 = .ok (.isub, 1) := by decide +kernel
theorem dX4_heavyPlace_55 : decode cX4_heavyPlace 55 = .ok (.istore 5, 2) := by decide +kernel
theorem dX4_heavyPlace_57 : decode cX4_heavyPlace 57 = .ok (.aload_n 0, 1) := by decide +kernel
theorem dX4_heavyPlace_58 : decode cX4_heavyPlace 58 = .ok (.getfield 40, 3) := by decide +kernel
theorem dX4_heavyPlace_61 : decode cX4_heavyPlace 61 = .ok (.iload_n 2, 1) := by decide +kernel
theorem dX4_heavyPlace_62 : decode cX4_heavyPlace 62 = .ok (.iload 5, 2) := by decide +kernel
theorem dX4_heavyPlace_64 : decode cX4_heavyPlace 64 = .ok (.invokestatic 72, 3) := by decide +kernel
theorem dX4_heavyPlace_67 : decode cX4_heavyPlace 67 = .ok (.imul, 1) := by decide +kernel
theorem dX4_heavyPlace_68 : decode cX4_heavyPlace 68 = .ok (.aload_n 0, 1) := by decide +kernel
theorem dX4_heavyPlace_69 : decode cX4_heavyPlace 69 = .ok (.getfield 37, 3) := by decide +kernel
theorem dX4_heavyPlace_72 : decode cX4_heavyPlace 72 = .ok (.iload 4, 2) := by decide +kernel
theorem dX4_heavyPlace_74 : decode cX4_heavyPlace 74 = .ok (.imul, 1) := by decide +kernel
theorem dX4_heavyPlace_75 : decode cX4_heavyPlace 75 = .ok (.if_icmp .le 5, 3) := by decide +kernel
theorem dX4_heavyPlace_78 : decode cX4_heavyPlace 78 = .ok (.iload_n 3, 1) := by decide +kernel
theorem dX4_heavyPlace_79 : decode cX4_heavyPlace 79 = .ok (.ireturn, 1) := by decide +kernel
theorem dX4_heavyPlace_80 : decode cX4_heavyPlace 80 = .ok (.iload 4, 2) := by decide +kernel
theorem dX4_heavyPlace_82 : decode cX4_heavyPlace 82 = .ok (.istore_n 2, 1) := by decide +kernel
theorem dX4_heavyPlace_83 : decode cX4_heavyPlace 83 = .ok (.iinc 3 (-1), 3) := by decide +kernel
theorem dX4_heavyPlace_86 : decode cX4_heavyPlace 86 = .ok (.goto (-56), 3) := by decide +kernel
theorem dX4_heavyPlace_89 : decode cX4_heavyPlace 89 = .ok (.iconst (-1), 1) := by decide +kernel
theorem dX4_heavyPlace_90 : decode cX4_heavyPlace 90 = .ok (.ireturn, 1) := by decide +kernel
theorem dX4_onWay_0 : decode cX4_onWay 0 = .ok (.iload_n 1, 1) := by decide +kernel
theorem dX4_onWay_1 : decode cX4_onWay 1 = .ok (.ifCond .lt 21, 3) := by decide +kernel
theorem dX4_onWay_4 : decode cX4_onWay 4 = .ok (.iload_n 1, 1) := by decide +kernel
theorem dX4_onWay_5 : decode cX4_onWay 5 = .ok (.aload_n 0, 1) := by decide +kernel
theorem dX4_onWay_6 : decode cX4_onWay 6 = .ok (.getfield 21, 3) := by decide +kernel
theorem dX4_onWay_9 : decode cX4_onWay 9 = .ok (.arraylength, 1) := by decide +kernel
theorem dX4_onWay_10 : decode cX4_onWay 10 = .ok (.if_icmp .ge 12, 3) := by decide +kernel
theorem dX4_onWay_13 : decode cX4_onWay 13 = .ok (.aload_n 0, 1) := by decide +kernel
theorem dX4_onWay_14 : decode cX4_onWay 14 = .ok (.getfield 21, 3) := by decide +kernel
theorem dX4_onWay_17 : decode cX4_onWay 17 = .ok (.iload_n 1, 1) := by decide +kernel
theorem dX4_onWay_18 : decode cX4_onWay 18 = .ok (.iaload, 1) := by decide +kernel
theorem dX4_onWay_19 : decode cX4_onWay 19 = .ok (.goto 4, 3) := by decide +kernel
theorem dX4_onWay_22 : decode cX4_onWay 22 = .ok (.iconst (-1), 1) := by decide +kernel
theorem dX4_onWay_23 : decode cX4_onWay 23 = .ok (.ireturn, 1) := by decide +kernel
theorem dX4_changeSizes_0 : decode cX4_changeSizes 0 = .ok (.iconst 0, 1) := by decide +kernel
theorem dX4_changeSizes_1 : decode cX4_changeSizes 1 = .ok (.istore_n 3, 1) := by decide +kernel
theorem dX4_changeSizes_2 : decode cX4_changeSizes 2 = .ok (.iload_n 3, 1) := by decide +kernel
theorem dX4_changeSizes_3 : decode cX4_changeSizes 3 = .ok (.iload_n 1, 1) := by decide +kernel
theorem dX4_changeSizes_4 : decode cX4_changeSizes 4 = .ok (.if_icmp .ge 33, 3) := by decide +kernel
theorem dX4_changeSizes_7 : decode cX4_changeSizes 7 = .ok (.iload_n 3, 1) := by decide +kernel
theorem dX4_changeSizes_8 : decode cX4_changeSizes 8 = .ok (.aload_n 0, 1) := by decide +kernel
theorem dX4_changeSizes_9 : decode cX4_changeSizes 9 = .ok (.getfield 21, 3) := by decide +kernel
theorem dX4_changeSizes_12 : decode cX4_changeSizes 12 = .ok (.arraylength, 1) := by decide +kernel
theorem dX4_changeSizes_13 : decode cX4_changeSizes 13 = .ok (.if_icmp .ge 24, 3) := by decide +kernel
theorem dX4_changeSizes_16 : decode cX4_changeSizes 16 = .ok (.aload_n 0, 1) := by decide +kernel
theorem dX4_changeSizes_17 : decode cX4_changeSizes 17 = .ok (.getfield 18, 3) := by decide +kernel
theorem dX4_changeSizes_20 : decode cX4_changeSizes 20 = .ok (.aload_n 0, 1) := by decide +kernel
theorem dX4_changeSizes_21 : decode cX4_changeSizes 21 = .ok (.getfield 21, 3) := by decide +kernel
theorem dX4_changeSizes_24 : decode cX4_changeSizes 24 = .ok (.iload_n 3, 1) := by decide +kernel
theorem dX4_changeSizes_25 : decode cX4_changeSizes 25 = .ok (.iaload, 1) := by decide +kernel
theorem dX4_changeSizes_26 : decode cX4_changeSizes 26 = .ok (.dup2, 1) := by decide +kernel
theorem dX4_changeSizes_27 : decode cX4_changeSizes 27 = .ok (.iaload, 1) := by decide +kernel
theorem dX4_changeSizes_28 : decode cX4_changeSizes 28 = .ok (.iload_n 2, 1) := by decide +kernel
theorem dX4_changeSizes_29 : decode cX4_changeSizes 29 = .ok (.iadd, 1) := by decide +kernel
theorem dX4_changeSizes_30 : decode cX4_changeSizes 30 = .ok (.iastore, 1) := by decide +kernel
theorem dX4_changeSizes_31 : decode cX4_changeSizes 31 = .ok (.iinc 3 1, 3) := by decide +kernel
theorem dX4_changeSizes_34 : decode cX4_changeSizes 34 = .ok (.goto (-32), 3) := by decide +kernel
theorem dX4_changeSizes_37 : decode cX4_changeSizes 37 = .ok (.return_, 1) := by decide +kernel
theorem dX4_hang_0 : decode cX4_hang 0 = .ok (.iload_n 1, 1) := by decide +kernel
theorem dX4_hang_1 : decode cX4_hang 1 = .ok (.iconst (-1), 1) := by decide +kernel
theorem dX4_hang_2 : decode cX4_hang 2 = .ok (.if_icmp .ne 11, 3) := by decide +kernel
theorem dX4_hang_5 : decode cX4_hang 5 = .ok (.aload_n 0, 1) := by decide +kernel
theorem dX4_hang_6 : decode cX4_hang 6 = .ok (.iload_n 3, 1) := by decide +kernel
theorem dX4_hang_7 : decode cX4_hang 7 = .ok (.putfield 27, 3) := by decide +kernel
theorem dX4_hang_10 : decode cX4_hang 10 = .ok (.goto 25, 3) := by decide +kernel
theorem dX4_hang_13 : decode cX4_hang 13 = .ok (.iload_n 2, 1) := by decide +kernel
theorem dX4_hang_14 : decode cX4_hang 14 = .ok (.iload_n 1, 1) := by decide +kernel
theorem dX4_hang_15 : decode cX4_hang 15 = .ok (.if_icmp .ge 13, 3) := by decide +kernel
theorem dX4_hang_18 : decode cX4_hang 18 = .ok (.aload_n 0, 1) := by decide +kernel
theorem dX4_hang_19 : decode cX4_hang 19 = .ok (.getfield 9, 3) := by decide +kernel
theorem dX4_hang_22 : decode cX4_hang 22 = .ok (.iload_n 1, 1) := by decide +kernel
theorem dX4_hang_23 : decode cX4_hang 23 = .ok (.iload_n 3, 1) := by decide +kernel
theorem dX4_hang_24 : decode cX4_hang 24 = .ok (.iastore, 1) := by decide +kernel
theorem dX4_hang_25 : decode cX4_hang 25 = .ok (.goto 10, 3) := by decide +kernel
theorem dX4_hang_28 : decode cX4_hang 28 = .ok (.aload_n 0, 1) := by decide +kernel
theorem dX4_hang_29 : decode cX4_hang 29 = .ok (.getfield 15, 3) := by decide +kernel
theorem dX4_hang_32 : decode cX4_hang 32 = .ok (.iload_n 1, 1) := by decide +kernel
theorem dX4_hang_33 : decode cX4_hang 33 = .ok (.iload_n 3, 1) := by decide +kernel
theorem dX4_hang_34 : decode cX4_hang 34 = .ok (.iastore, 1) := by decide +kernel
theorem dX4_hang_35 : decode cX4_hang 35 = .ok (.return_, 1) := by decide +kernel
set_option maxRecDepth 20000 in
theorem ggX4_heirOf_X4_has : GoodIn wsX4_heirOf wsX4_has := goodIn_r _ [7, 8, 13, 14, 15, 16, 17, 18, 19, 20, 21, 22, 23, 24] (by decide +kernel) (by decide +kernel)
set_option maxRecDepth 20000 in
theorem gX4_heirOf_X4_has : GoodIn wsX4_heirOf (wsV RX4 61 RX4 yX4_has wsX4_has) := goodIn_app (goodIn_of _ (by decide +kernel)) ggX4_heirOf_X4_has
set_option maxRecDepth 20000 in
theorem ggX4_heirOf_X4_liftLeast : GoodIn wsX4_heirOf wsX4_liftLeast := goodIn_r _ [12, 2, 1, 8, 3, 4, 5, 6, 7, 13, 14, 15, 16, 17, 18, 19, 20, 21, 22, 23, 24] (by decide +kernel) (by decide +kernel)
set_option maxRecDepth 20000 in
theorem gX4_heirOf_X4_liftLeast : GoodIn wsX4_heirOf (wsV RX4 118 RX4 yX4_liftLeast wsX4_liftLeast) := goodIn_app (goodIn_of _ (by decide +kernel)) ggX4_heirOf_X4_liftLeast
theorem dX4_heirOf_0 : decode cX4_heirOf 0 = .ok (.aload_n 0, 1) := by decide +kernel
theorem dX4_heirOf_1 : decode cX4_heirOf 1 = .ok (.aload_n 0, 1) := by decide +kernel
theorem dX4_heirOf_2 : decode cX4_heirOf 2 = .ok (.getfield 9, 3) := by decide +kernel
theorem dX4_heirOf_5 : decode cX4_heirOf 5 = .ok (.iload_n 1, 1) := by decide +kernel
theorem dX4_heirOf_6 : decode cX4_heirOf 6 = .ok (.iaload, 1) := by decide +kernel
theorem dX4_heirOf_7 : decode cX4_heirOf 7 = .ok (.invokevirtual 61, 3) := by decide +kernel
theorem dX4_heirOf_10 : decode cX4_heirOf 10 = .ok (.ifCond .ne 10, 3) := by decide +kernel
theorem dX4_heirOf_13 : decode cX4_heirOf 13 = .ok (.aload_n 0, 1) := by decide +kernel
theorem dX4_heirOf_14 : decode cX4_heirOf 14 = .ok (.getfield 15, 3) := by decide +kernel
theorem dX4_heirOf_17 : decode cX4_heirOf 17 = .ok (.iload_n 1, 1) := by decide +kernel
theorem dX4_heirOf_18 : decode cX4_heirOf 18 = .ok (.iaload, 1) := by decide +kernel
theorem dX4_heirOf_19 : decode cX4_heirOf 19 = .ok (.ireturn, 1) := by decide +kernel
theorem dX4_heirOf_20 : decode cX4_heirOf 20 = .ok (.aload_n 0, 1) := by decide +kernel
theorem dX4_heirOf_21 : decode cX4_heirOf 21 = .ok (.aload_n 0, 1) := by decide +kernel
theorem dX4_heirOf_22 : decode cX4_heirOf 22 = .ok (.getfield 15, 3) := by decide +kernel
theorem dX4_heirOf_25 : decode cX4_heirOf 25 = .ok (.iload_n 1, 1) := by decide +kernel
theorem dX4_heirOf_26 : decode cX4_heirOf 26 = .ok (.iaload, 1) := by decide +kernel
theorem dX4_heirOf_27 : decode cX4_heirOf 27 = .ok (.invokevirtual 61, 3) := by decide +kernel
theorem dX4_heirOf_30 : decode cX4_heirOf 30 = .ok (.ifCond .ne 10, 3) := by decide +kernel
theorem dX4_heirOf_33 : decode cX4_heirOf 33 = .ok (.aload_n 0, 1) := by decide +kernel
theorem dX4_heirOf_34 : decode cX4_heirOf 34 = .ok (.getfield 9, 3) := by decide +kernel
theorem dX4_heirOf_37 : decode cX4_heirOf 37 = .ok (.iload_n 1, 1) := by decide +kernel
theorem dX4_heirOf_38 : decode cX4_heirOf 38 = .ok (.iaload, 1) := by decide +kernel
theorem dX4_heirOf_39 : decode cX4_heirOf 39 = .ok (.ireturn, 1) := by decide +kernel
theorem dX4_heirOf_40 : decode cX4_heirOf 40 = .ok (.aload_n 0, 1) := by decide +kernel
theorem dX4_heirOf_41 : decode cX4_heirOf 41 = .ok (.iload_n 1, 1) := by decide +kernel
theorem dX4_heirOf_42 : decode cX4_heirOf 42 = .ok (.invokevirtual 118, 3) := by decide +kernel
theorem dX4_heirOf_45 : decode cX4_heirOf 45 = .ok (.ireturn, 1) := by decide +kernel
set_option maxRecDepth 20000 in
theorem ggX4_liftLeast_X4_has : GoodIn wsX4_liftLeast wsX4_has := goodIn_r _ [8, 3, 9, 10, 11, 12, 13, 14, 15, 16, 17, 18, 19, 20] (by decide +kernel) (by decide +kernel)
set_option maxRecDepth 20000 in
theorem gX4_liftLeast_X4_has : GoodIn wsX4_liftLeast (wsV RX4 61 RX4 yX4_has wsX4_has) := goodIn_app (goodIn_of _ (by decide +kernel)) ggX4_liftLeast_X4_has
theorem dX4_liftLeast_0 : decode cX4_liftLeast 0 = .ok (.iload_n 1, 1) := by decide +kernel
theorem dX4_liftLeast_1 : decode cX4_liftLeast 1 = .ok (.istore_n 2, 1) := by decide +kernel
theorem dX4_liftLeast_2 : decode cX4_liftLeast 2 = .ok (.aload_n 0, 1) := by decide +kernel
theorem dX4_liftLeast_3 : decode cX4_liftLeast 3 = .ok (.getfield 15, 3) := by decide +kernel
theorem dX4_liftLeast_6 : decode cX4_liftLeast 6 = .ok (.iload_n 1, 1) := by decide +kernel
theorem dX4_liftLeast_7 : decode cX4_liftLeast 7 = .ok (.iaload, 1) := by decide +kernel
theorem dX4_liftLeast_8 : decode cX4_liftLeast 8 = .ok (.istore_n 3, 1) := by decide +kernel
theorem dX4_liftLeast_9 : decode cX4_liftLeast 9 = .ok (.iconst 0, 1) := by decide +kernel
theorem dX4_liftLeast_10 : decode cX4_liftLeast 10 = .ok (.istore 4, 2) := by decide +kernel
theorem dX4_liftLeast_12 : decode cX4_liftLeast 12 = .ok (.iload 4, 2) := by decide +kernel
theorem dX4_liftLeast_14 : decode cX4_liftLeast 14 = .ok (.bipush 40, 2) := by decide +kernel
theorem dX4_liftLeast_16 : decode cX4_liftLeast 16 = .ok (.if_icmp .ge 41, 3) := by decide +kernel
theorem dX4_liftLeast_19 : decode cX4_liftLeast 19 = .ok (.aload_n 0, 1) := by decide +kernel
theorem dX4_liftLeast_20 : decode cX4_liftLeast 20 = .ok (.aload_n 0, 1) := by decide +kernel
theorem dX4_liftLeast_21 : decode cX4_liftLeast 21 = .ok (.getfield 9, 3) := by decide +kernel
theorem dX4_liftLeast_24 : decode cX4_liftLeast 24 = .ok (.iload_n 3, 1) := by decide +kernel
theorem dX4_liftLeast_25 : decode cX4_liftLeast 25 = .ok (.iaload, 1) := by decide +kernel
theorem dX4_liftLeast_26 : decode cX4_liftLeast 26 = .ok (.invokevirtual 61, 3) := by decide +kernel
theorem dX4_liftLeast_29 : decode cX4_liftLeast 29 = .ok (.ifCond .eq 28, 3) := by decide +kernel
theorem dX4_liftLeast_32 : decode cX4_liftLeast 32 = .ok (.aload_n 0, 1) := by decide +kernel
theorem dX4_liftLeast_33 : decode cX4_liftLeast 33 = .ok (.getfield 18, 3) := by decide +kernel
theorem dX4_liftLeast_36 : decode cX4_liftLeast 36 = .ok (.iload_n 3, 1) := by decide +kernel
theorem dX4_liftLeast_37 : decode cX4_liftLeast 37 = .ok (.dup2, 1) := by decide +kernel
theorem dX4_liftLeast_38 : decode cX4_liftLeast 38 = .ok (.iaload, 1) := by decide +kernel
theorem dX4_liftLeast_39 : decode cX4_liftLeast 39 = .ok (.iconst 1, 1) := by decide +kernel
theorem dX4_liftLeast_40 : decode cX4_liftLeast 40 = .ok (.isub, 1) := by decide +kernel
theorem dX4_liftLeast_41 : decode cX4_liftLeast 41 = .ok (.iastore, 1) := by decide +kernel
theorem dX4_liftLeast_42 : decode cX4_liftLeast 42 = .ok (.iload_n 3, 1) := by decide +kernel
theorem dX4_liftLeast_43 : decode cX4_liftLeast 43 = .ok (.istore_n 2, 1) := by decide +kernel
theorem dX4_liftLeast_44 : decode cX4_liftLeast 44 = .ok (.aload_n 0, 1) := by decide +kernel
theorem dX4_liftLeast_45 : decode cX4_liftLeast 45 = .ok (.getfield 9, 3) := by decide +kernel
theorem dX4_liftLeast_48 : decode cX4_liftLeast 48 = .ok (.iload_n 3, 1) := by decide +kernel
theorem dX4_liftLeast_49 : decode cX4_liftLeast 49 = .ok (.iaload, 1) := by decide +kernel
theorem dX4_liftLeast_50 : decode cX4_liftLeast 50 = .ok (.istore_n 3, 1) := by decide +kernel
theorem dX4_liftLeast_51 : decode cX4_liftLeast 51 = .ok (.iinc 4 1, 3) := by decide +kernel
theorem dX4_liftLeast_54 : decode cX4_liftLeast 54 = .ok (.goto (-42), 3) := by decide +kernel
theorem dX4_liftLeast_57 : decode cX4_liftLeast 57 = .ok (.iload_n 2, 1) := by decide +kernel
theorem dX4_liftLeast_58 : decode cX4_liftLeast 58 = .ok (.iload_n 1, 1) := by decide +kernel
theorem dX4_liftLeast_59 : decode cX4_liftLeast 59 = .ok (.if_icmp .eq 27, 3) := by decide +kernel
theorem dX4_liftLeast_62 : decode cX4_liftLeast 62 = .ok (.aload_n 0, 1) := by decide +kernel
theorem dX4_liftLeast_63 : decode cX4_liftLeast 63 = .ok (.getfield 9, 3) := by decide +kernel
theorem dX4_liftLeast_66 : decode cX4_liftLeast 66 = .ok (.iload_n 2, 1) := by decide +kernel
theorem dX4_liftLeast_67 : decode cX4_liftLeast 67 = .ok (.aload_n 0, 1) := by decide +kernel
theorem dX4_liftLeast_68 : decode cX4_liftLeast 68 = .ok (.getfield 15, 3) := by decide +kernel
theorem dX4_liftLeast_71 : decode cX4_liftLeast 71 = .ok (.iload_n 3, 1) := by decide +kernel
theorem dX4_liftLeast_72 : decode cX4_liftLeast 72 = .ok (.iaload, 1) := by decide +kernel
theorem dX4_liftLeast_73 : decode cX4_liftLeast 73 = .ok (.iastore, 1) := by decide +kernel
theorem dX4_liftLeast_74 : decode cX4_liftLeast 74 = .ok (.aload_n 0, 1) := by decide +kernel
theorem dX4_liftLeast_75 : decode cX4_liftLeast 75 = .ok (.getfield 15, 3) := by decide +kernel
theorem dX4_liftLeast_78 : decode cX4_liftLeast 78 = .ok (.iload_n 3, 1) := by decide +kernel
theorem dX4_liftLeast_79 : decode cX4_liftLeast 79 = .ok (.aload_n 0, 1) := by decide +kernel
theorem dX4_liftLeast_80 : decode cX4_liftLeast 80 = .ok (.getfield 15, 3) := by decide +kernel
theorem dX4_liftLeast_83 : decode cX4_liftLeast 83 = .ok (.iload_n 1, 1) := by decide +kernel
theorem dX4_liftLeast_84 : decode cX4_liftLeast 84 = .ok (.iaload, 1) := by decide +kernel
theorem dX4_liftLeast_85 : decode cX4_liftLeast 85 = .ok (.iastore, 1) := by decide +kernel
theorem dX4_liftLeast_86 : decode cX4_liftLeast 86 = .ok (.aload_n 0, 1) := by decide +kernel
theorem dX4_liftLeast_87 : decode cX4_liftLeast 87 = .ok (.getfield 9, 3) := by decide +kernel
theorem dX4_liftLeast_90 : decode cX4_liftLeast 90 = .ok (.iload_n 3, 1) := by decide +kernel
theorem dX4_liftLeast_91 : decode cX4_liftLeast 91 = .ok (.aload_n 0, 1) := by decide +kernel
theorem dX4_liftLeast_92 : decode cX4_liftLeast 92 = .ok (.getfield 9, 3) := by decide +kernel
theorem dX4_liftLeast_95 : decode cX4_liftLeast 95 = .ok (.iload_n 1, 1) := by decide +kernel
theorem dX4_liftLeast_96 : decode cX4_liftLeast 96 = .ok (.iaload, 1) := by decide +kernel
theorem dX4_liftLeast_97 : decode cX4_liftLeast 97 = .ok (.iastore, 1) := by decide +kernel
theorem dX4_liftLeast_98 : decode cX4_liftLeast 98 = .ok (.aload_n 0, 1) := by decide +kernel
theorem dX4_liftLeast_99 : decode cX4_liftLeast 99 = .ok (.getfield 18, 3) := by decide +kernel
theorem dX4_liftLeast_102 : decode cX4_liftLeast 102 = .ok (.iload_n 3, 1) := by decide +kernel
theorem dX4_liftLeast_103 : decode cX4_liftLeast 103 = .ok (.aload_n 0, 1) := by decide +kernel
theorem dX4_liftLeast_104 : decode cX4_liftLeast 104 = .ok (.getfield 18, 3) := by decide +kernel
theorem dX4_liftLeast_107 : decode cX4_liftLeast 107 = .ok (.iload_n 1, 1) := by decide +kernel
theorem dX4_liftLeast_108 : decode cX4_liftLeast 108 = .ok (.iaload, 1) := by decide +kernel
theorem dX4_liftLeast_109 : decode cX4_liftLeast 109 = .ok (.iastore, 1) := by decide +kernel
theorem dX4_liftLeast_110 : decode cX4_liftLeast 110 = .ok (.iload_n 3, 1) := by decide +kernel
theorem dX4_liftLeast_111 : decode cX4_liftLeast 111 = .ok (.ireturn, 1) := by decide +kernel
set_option maxRecDepth 20000 in
theorem ggX4_build_X4_gather : GoodIn wsX4_build wsX4_gather := goodIn_r _ [7, 8, 9, 10, 25, 26, 27, 28, 29, 30, 31, 32, 33, 34, 35, 36] (by decide +kernel) (by decide +kernel)
set_option maxRecDepth 20000 in
theorem gX4_build_X4_gather : GoodIn wsX4_build (wsV RX4 121 RX4 yX4_gather wsX4_gather) := goodIn_app (goodIn_of _ (by decide +kernel)) ggX4_build_X4_gather
set_option maxRecDepth 20000 in
theorem ggX4_build_X4_onWay : GoodIn wsX4_build wsX4_onWay := goodIn_r _ [14, 8, 25, 26, 27, 28, 29, 30, 31, 32, 33, 34, 35, 36] (by decide +kernel) (by decide +kernel)
set_option maxRecDepth 20000 in
theorem gX4_build_X4_onWay : GoodIn wsX4_build (wsV RX4 69 RX4 yX4_onWay wsX4_onWay) := goodIn_app (goodIn_of _ (by decide +kernel)) ggX4_build_X4_onWay
set_option maxRecDepth 20000 in
theorem ggX4_build_X4_flat : GoodIn wsX4_build wsX4_flat := goodIn_r _ [17, 9, 18, 19, 10, 15, 16, 6, 25, 26, 27, 28, 29, 30, 31, 32, 33, 34, 35, 36] (by decide +kernel) (by decide +kernel)
set_option maxRecDepth 20000 in
theorem gX4_build_X4_flat : GoodIn wsX4_build (va_wsS RX4 124 yX4_flat wsX4_flat) := goodIn_app (goodIn_of _ (by decide +kernel)) ggX4_build_X4_flat
set_option maxRecDepth 20000 in
theorem ggX4_build_X4_hang : GoodIn wsX4_build wsX4_hang := goodIn_r _ [23, 24, 18, 19, 25, 26, 27, 28, 29, 30, 31, 32, 33, 34, 35, 36] (by decide +kernel) (by decide +kernel)
set_option maxRecDepth 20000 in
theorem gX4_build_X4_hang : GoodIn wsX4_build (wsV RX4 95 RX4 yX4_hang wsX4_hang) := goodIn_app (goodIn_of _ (by decide +kernel)) ggX4_build_X4_hang
theorem dX4_build_0 : decode cX4_build 0 = .ok (.aload_n 0, 1) := by decide +kernel
theorem dX4_build_1 : decode cX4_build 1 = .ok (.iload_n 1, 1) := by decide +kernel
theorem dX4_build_2 : decode cX4_build 2 = .ok (.invokevirtual 121, 3) := by decide +kernel
theorem dX4_build_5 : decode cX4_build 5 = .ok (.istore_n 2, 1) := by decide +kernel
theorem dX4_build_6 : decode cX4_build 6 = .ok (.aload_n 0, 1) := by decide +kernel
theorem dX4_build_7 : decode cX4_build 7 = .ok (.aload_n 0, 1) := by decide +kernel
theorem dX4_build_8 : decode cX4_build 8 = .ok (.iload_n 1, 1) := by decide +kernel
theorem dX4_build_9 : decode cX4_build 9 = .ok (.iconst 1, 1) := by decide +kernel
theorem dX4_build_10 : decode cX4_build 10 = .ok (.isub, 1) := by decide +kernel
theorem dX4_build_11 : decode cX4_build 11 = .ok (.invokevirtual 69, 3) := by decide +kernel
theorem dX4_build_14 : decode cX4_build 14 = .ok (.aload_n 0, 1) := by decide +kernel
theorem dX4_build_15 : decode cX4_build 15 = .ok (.iload_n 1, 1) := by decide +kernel
theorem dX4_build_16 : decode cX4_build 16 = .ok (.invokevirtual 69, 3) := by decide +kernel
theorem dX4_build_19 : decode cX4_build 19 = .ok (.aload_n 0, 1) := by decide +kernel
theorem dX4_build_20 : decode cX4_build 20 = .ok (.iconst 0, 1) := by decide +kernel
theorem dX4_build_21 : decode cX4_build 21 = .ok (.iload_n 2, 1) := by decide +kernel
theorem dX4_build_22 : decode cX4_build 22 = .ok (.iconst 1, 1) := by decide +kernel
theorem dX4_build_23 : decode cX4_build 23 = .ok (.isub, 1) := by decide +kernel
theorem dX4_build_24 : decode cX4_build 24 = .ok (.iconst 0, 1) := by decide +kernel
theorem dX4_build_25 : decode cX4_build 25 = .ok (.invokestatic 124, 3) := by decide +kernel
theorem dX4_build_28 : decode cX4_build 28 = .ok (.invokevirtual 95, 3) := by decide +kernel
theorem dX4_build_31 : decode cX4_build 31 = .ok (.aload_n 0, 1) := by decide +kernel
theorem dX4_build_32 : decode cX4_build 32 = .ok (.dup, 1) := by decide +kernel
theorem dX4_build_33 : decode cX4_build 33 = .ok (.getfield 49, 3) := by decide +kernel
theorem dX4_build_36 : decode cX4_build 36 = .ok (.iconst 1, 1) := by decide +kernel
theorem dX4_build_37 : decode cX4_build 37 = .ok (.iadd, 1) := by decide +kernel
theorem dX4_build_38 : decode cX4_build 38 = .ok (.putfield 49, 3) := by decide +kernel
theorem dX4_build_41 : decode cX4_build 41 = .ok (.aload_n 0, 1) := by decide +kernel
theorem dX4_build_42 : decode cX4_build 42 = .ok (.dup, 1) := by decide +kernel
theorem dX4_build_43 : decode cX4_build 43 = .ok (.getfield 52, 3) := by decide +kernel
theorem dX4_build_46 : decode cX4_build 46 = .ok (.iload_n 2, 1) := by decide +kernel
theorem dX4_build_47 : decode cX4_build 47 = .ok (.iadd, 1) := by decide +kernel
theorem dX4_build_48 : decode cX4_build 48 = .ok (.putfield 52, 3) := by decide +kernel
theorem dX4_build_51 : decode cX4_build 51 = .ok (.iload_n 2, 1) := by decide +kernel
theorem dX4_build_52 : decode cX4_build 52 = .ok (.ireturn, 1) := by decide +kernel
theorem dX4_gather_0 : decode cX4_gather 0 = .ok (.iconst (-1), 1) := by decide +kernel
theorem dX4_gather_1 : decode cX4_gather 1 = .ok (.istore_n 2, 1) := by decide +kernel
theorem dX4_gather_2 : decode cX4_gather 2 = .ok (.bipush 100, 2) := by decide +kernel
theorem dX4_gather_4 : decode cX4_gather 4 = .ok (.istore_n 3, 1) := by decide +kernel
theorem dX4_gather_5 : decode cX4_gather 5 = .ok (.iconst 0, 1) := by decide +kernel
theorem dX4_gather_6 : decode cX4_gather 6 = .ok (.istore 4, 2) := by decide +kernel
theorem dX4_gather_8 : decode cX4_gather 8 = .ok (.iload 4, 2) := by decide +kernel
theorem dX4_gather_10 : decode cX4_gather 10 = .ok (.iload_n 1, 1) := by decide +kernel
theorem dX4_gather_11 : decode cX4_gather 11 = .ok (.if_icmp .ge 44, 3) := by decide +kernel
theorem dX4_gather_14 : decode cX4_gather 14 = .ok (.aload_n 0, 1) := by decide +kernel
theorem dX4_gather_15 : decode cX4_gather 15 = .ok (.getfield 21, 3) := by decide +kernel
theorem dX4_gather_18 : decode cX4_gather 18 = .ok (.iload 4, 2) := by decide +kernel
theorem dX4_gather_20 : decode cX4_gather 20 = .ok (.iaload, 1) := by decide +kernel
theorem dX4_gather_21 : decode cX4_gather 21 = .ok (.aload_n 0, 1) := by decide +kernel
theorem dX4_gather_22 : decode cX4_gather 22 = .ok (.getfield 21, 3) := by decide +kernel
theorem dX4_gather_25 : decode cX4_gather 25 = .ok (.iload_n 1, 1) := by decide +kernel
theorem dX4_gather_26 : decode cX4_gather 26 = .ok (.iaload, 1) := by decide +kernel
theorem dX4_gather_27 : decode cX4_gather 27 = .ok (.if_icmp .ge 14, 3) := by decide +kernel
theorem dX4_gather_30 : decode cX4_gather 30 = .ok (.aload_n 0, 1) := by decide +kernel
theorem dX4_gather_31 : decode cX4_gather 31 = .ok (.getfield 21, 3) := by decide +kernel
theorem dX4_gather_34 : decode cX4_gather 34 = .ok (.iload 4, 2) := by decide +kernel
theorem dX4_gather_36 : decode cX4_gather 36 = .ok (.iaload, 1) := by decide +kernel
theorem dX4_gather_37 : decode cX4_gather 37 = .ok (.istore_n 2, 1) := by decide +kernel
theorem dX4_gather_38 : decode cX4_gather 38 = .ok (.goto 11, 3) := by decide +kernel
theorem dX4_gather_41 : decode cX4_gather 41 = .ok (.aload_n 0, 1) := by decide +kernel
theorem dX4_gather_42 : decode cX4_gather 42 = .ok (.getfield 21, 3) := by decide +kernel
theorem dX4_gather_45 : decode cX4_gather 45 = .ok (.iload 4, 2) := by decide +kernel
theorem dX4_gather_47 : decode cX4_gather 47 = .ok (.iaload, 1) := by decide +kernel
theorem dX4_gather_48 : decode cX4_gather 48 = .ok (.istore_n 3, 1) := by decide +kernel
theorem dX4_gather_49 : decode cX4_gather 49 = .ok (.iinc 4 1, 3) := by decide +kernel
theorem dX4_gather_52 : decode cX4_gather 52 = .ok (.goto (-44), 3) := by decide +kernel
theorem dX4_gather_55 : decode cX4_gather 55 = .ok (.iconst 0, 1) := by decide +kernel
theorem dX4_gather_56 : decode cX4_gather 56 = .ok (.istore 4, 2) := by decide +kernel
theorem dX4_gather_58 : decode cX4_gather 58 = .ok (.iload_n 2, 1) := by decide +kernel
theorem dX4_gather_59 : decode cX4_gather 59 = .ok (.iconst 1, 1) := by decide +kernel
theorem dX4_gather_60 : decode cX4_gather 60 = .ok (.iadd, 1) := by decide +kernel
theorem dX4_gather_61 : decode cX4_gather 61 = .ok (.istore 5, 2) := by decide +kernel
theorem dX4_gather_63 : decode cX4_gather 63 = .ok (.iload 5, 2) := by decide +kernel
theorem dX4_gather_65 : decode cX4_gather 65 = .ok (.iload_n 3, 1) := by decide +kernel
theorem dX4_gather_66 : decode cX4_gather 66 = .ok (.if_icmp .ge 41, 3) := by decide +kernel
theorem dX4_gather_69 : decode cX4_gather 69 = .ok (.iload 4, 2) := by decide +kernel
theorem dX4_gather_71 : decode cX4_gather 71 = .ok (.aload_n 0, 1) := by decide +kernel
theorem dX4_gather_72 : decode cX4_gather 72 = .ok (.getfield 24, 3) := by decide +kernel
theorem dX4_gather_75 : decode cX4_gather 75 = .ok (.arraylength, 1) := by decide +kernel
theorem dX4_gather_76 : decode cX4_gather 76 = .ok (.if_icmp .ge 31, 3) := by decide +kernel
theorem dX4_gather_79 : decode cX4_gather 79 = .ok (.aload_n 0, 1) := by decide +kernel
theorem dX4_gather_80 : decode cX4_gather 80 = .ok (.getfield 18, 3) := by decide +kernel
theorem dX4_gather_83 : decode cX4_gather 83 = .ok (.iload 5, 2) := by decide +kernel
theorem dX4_gather_85 : decode cX4_gather 85 = .ok (.iaload, 1) := by decide +kernel
theorem dX4_gather_86 : decode cX4_gather 86 = .ok (.ifCond .le 15, 3) := by decide +kernel
theorem dX4_gather_89 : decode cX4_gather 89 = .ok (.aload_n 0, 1) := by decide +kernel
theorem dX4_gather_90 : decode cX4_gather 90 = .ok (.getfield 24, 3) := by decide +kernel
theorem dX4_gather_93 : decode cX4_gather 93 = .ok (.iload 4, 2) := by decide +kernel
theorem dX4_gather_95 : decode cX4_gather 95 = .ok (.iload 5, 2) := by decide +kernel
theorem dX4_gather_97 : decode cX4_gather 97 = .ok (.iastore, 1) := by decide +kernel
theorem dX4_gather_98 : decode cX4_gather 98 = .ok (.iinc 4 1, 3) := by decide +kernel
theorem dX4_gather_101 : decode cX4_gather 101 = .ok (.iinc 5 1, 3) := by decide +kernel
theorem dX4_gather_104 : decode cX4_gather 104 = .ok (.goto (-41), 3) := by decide +kernel
theorem dX4_gather_107 : decode cX4_gather 107 = .ok (.iload 4, 2) := by decide +kernel
theorem dX4_gather_109 : decode cX4_gather 109 = .ok (.ireturn, 1) := by decide +kernel
set_option maxRecDepth 20000 in
theorem ggX4_flat_X4_flat : GoodIn wsX4_flat wsX4_flat := goodIn_r _ [0, 1, 2, 3, 4, 5, 6, 7, 8, 9, 10, 11, 12, 13, 14, 15, 16, 17, 18, 19] (by decide +kernel) (by decide +kernel)
set_option maxRecDepth 20000 in
theorem gX4_flat_X4_flat : GoodIn wsX4_flat (va_wsS RX4 124 yX4_flat wsX4_flat) := goodIn_app (goodIn_of _ (by decide +kernel)) ggX4_flat_X4_flat
theorem dX4_flat_0 : decode cX4_flat 0 = .ok (.iload_n 1, 1) := by decide +kernel
theorem dX4_flat_1 : decode cX4_flat 1 = .ok (.ifCond .lt 20, 3) := by decide +kernel
theorem dX4_flat_4 : decode cX4_flat 4 = .ok (.iload_n 2, 1) := by decide +kernel
theorem dX4_flat_5 : decode cX4_flat 5 = .ok (.bipush 40, 2) := by decide +kernel
theorem dX4_flat_7 : decode cX4_flat 7 = .ok (.if_icmp .ge 14, 3) := by decide +kernel
theorem dX4_flat_10 : decode cX4_flat 10 = .ok (.iload_n 1, 1) := by decide +kernel
theorem dX4_flat_11 : decode cX4_flat 11 = .ok (.iload_n 2, 1) := by decide +kernel
theorem dX4_flat_12 : decode cX4_flat 12 = .ok (.if_icmp .gt 9, 3) := by decide +kernel
theorem dX4_flat_15 : decode cX4_flat 15 = .ok (.iload_n 3, 1) := by decide +kernel
theorem dX4_flat_16 : decode cX4_flat 16 = .ok (.bipush 40, 2) := by decide +kernel
theorem dX4_flat_18 : decode cX4_flat 18 = .ok (.if_icmp .le 5, 3) := by decide +kernel
theorem dX4_flat_21 : decode cX4_flat 21 = .ok (.iconst (-1), 1) := by decide +kernel
theorem dX4_flat_22 : decode cX4_flat 22 = .ok (.ireturn, 1) := by decide +kernel
theorem dX4_flat_23 : decode cX4_flat 23 = .ok (.iload_n 1, 1) := by decide +kernel
theorem dX4_flat_24 : decode cX4_flat 24 = .ok (.iload_n 2, 1) := by decide +kernel
theorem dX4_flat_25 : decode cX4_flat 25 = .ok (.iadd, 1) := by decide +kernel
theorem dX4_flat_26 : decode cX4_flat 26 = .ok (.iconst 2, 1) := by decide +kernel
theorem dX4_flat_27 : decode cX4_flat 27 = .ok (.idiv, 1) := by decide +kernel
theorem dX4_flat_28 : decode cX4_flat 28 = .ok (.istore 4, 2) := by decide +kernel
theorem dX4_flat_30 : decode cX4_flat 30 = .ok (.aload_n 0, 1) := by decide +kernel
theorem dX4_flat_31 : decode cX4_flat 31 = .ok (.getfield 24, 3) := by decide +kernel
theorem dX4_flat_34 : decode cX4_flat 34 = .ok (.iload 4, 2) := by decide +kernel
theorem dX4_flat_36 : decode cX4_flat 36 = .ok (.iaload, 1) := by decide +kernel
theorem dX4_flat_37 : decode cX4_flat 37 = .ok (.istore 5, 2) := by decide +kernel
theorem dX4_flat_39 : decode cX4_flat 39 = .ok (.aload_n 0, 1) := by decide +kernel
theorem dX4_flat_40 : decode cX4_flat 40 = .ok (.getfield 9, 3) := by decide +kernel
theorem dX4_flat_43 : decode cX4_flat 43 = .ok (.iload 5, 2) := by decide +kernel
theorem dX4_flat_45 : decode cX4_flat 45 = .ok (.aload_n 0, 1) := by decide +kernel
theorem dX4_flat_46 : decode cX4_flat 46 = .ok (.iload_n 1, 1) := by decide +kernel
theorem dX4_flat_47 : decode cX4_flat 47 = .ok (.iload 4, 2) := by decide +kernel
theorem dX4_flat_49 : decode cX4_flat 49 = .ok (.iconst 1, 1) := by decide +kernel
theorem dX4_flat_50 : decode cX4_flat 50 = .ok (.isub, 1) := by decide +kernel
theorem dX4_flat_51 : decode cX4_flat 51 = .ok (.iload_n 3, 1) := by decide +kernel
theorem dX4_flat_52 : decode cX4_flat 52 = .ok (.iconst 1, 1) := by decide +kernel
theorem dX4_flat_53 : decode cX4_flat 53 = .ok (.iadd, 1) := by decide +kernel
theorem dX4_flat_54 : decode cX4_flat 54 = .ok (.invokestatic 124, 3) := by decide +kernel
theorem dX4_flat_57 : decode cX4_flat 57 = .ok (.iastore, 1) := by decide +kernel
theorem dX4_flat_58 : decode cX4_flat 58 = .ok (.aload_n 0, 1) := by decide +kernel
theorem dX4_flat_59 : decode cX4_flat 59 = .ok (.getfield 15, 3) := by decide +kernel
theorem dX4_flat_62 : decode cX4_flat 62 = .ok (.iload 5, 2) := by decide +kernel
theorem dX4_flat_64 : decode cX4_flat 64 = .ok (.aload_n 0, 1) := by decide +kernel
theorem dX4_flat_65 : decode cX4_flat 65 = .ok (.iload 4, 2) := by decide +kernel
theorem dX4_flat_67 : decode cX4_flat 67 = .ok (.iconst 1, 1) := by decide +kernel
theorem dX4_flat_68 : decode cX4_flat 68 = .ok (.iadd, 1) := by decide +kernel
theorem dX4_flat_69 : decode cX4_flat 69 = .ok (.iload_n 2, 1) := by decide +kernel
theorem dX4_flat_70 : decode cX4_flat 70 = .ok (.iload_n 3, 1) := by decide +kernel
theorem dX4_flat_71 : decode cX4_flat 71 = .ok (.iconst 1, 1) := by decide +kernel
theorem dX4_flat_72 : decode cX4_flat 72 = .ok (.iadd, 1) := by decide +kernel
theorem dX4_flat_73 : decode cX4_flat 73 = .ok (.invokestatic 124, 3) := by decide +kernel
theorem dX4_flat_76 : decode cX4_flat 76 = .ok (.iastore, 1) := by decide +kernel
theorem dX4_flat_77 : decode cX4_flat 77 = .ok (.aload_n 0, 1) := by decide +kernel
theorem dX4_flat_78 : decode cX4_flat 78 = .ok (.getfield 18, 3) := by decide +kernel
theorem dX4_flat_81 : decode cX4_flat 81 = .ok (.iload 5, 2) := by decide +kernel
theorem dX4_flat_83 : decode cX4_flat 83 = .ok (.iload_n 2, 1) := by decide +kernel
theorem dX4_flat_84 : decode cX4_flat 84 = .ok (.iload_n 1, 1) := by decide +kernel
theorem dX4_flat_85 : decode cX4_flat 85 = .ok (.isub, 1) := by decide +kernel
theorem dX4_flat_86 : decode cX4_flat 86 = .ok (.iconst 1, 1) := by decide +kernel
theorem dX4_flat_87 : decode cX4_flat 87 = .ok (.iadd, 1) := by decide +kernel
theorem dX4_flat_88 : decode cX4_flat 88 = .ok (.iastore, 1) := by decide +kernel
theorem dX4_flat_89 : decode cX4_flat 89 = .ok (.iload 5, 2) := by decide +kernel
theorem dX4_flat_91 : decode cX4_flat 91 = .ok (.ireturn, 1) := by decide +kernel
set_option maxRecDepth 20000 in
theorem ggX5_init_X1_init : GoodIn wsX5_init wsX1_init := goodIn_r _ [18, 19, 2, 3, 20, 21, 55, 56] (by decide +kernel) (by decide +kernel)
set_option maxRecDepth 20000 in
theorem gX5_init_X1_init_n11 : GoodIn wsX5_init (wsX1_init) := ggX5_init_X1_init
set_option maxRecDepth 20000 in
theorem ggX5_init_X3_init : GoodIn wsX5_init wsX3_init := goodIn_r _ [23, 24, 2, 3, 25, 14, 15, 26, 20, 27, 28, 29, 30, 31, 32, 33, 34, 35, 36, 37, 38, 39, 40, 41, 42, 43, 44, 45, 46, 47, 48, 49, 50, 51, 52, 53, 54, 72, 73, 74, 75, 76, 77, 78, 79, 80, 81, 82, 83, 64, 65, 66, 67, 68, 69, 70, 71, 84, 85, 86, 87, 88] (by decide +kernel) (by decide +kernel)
set_option maxRecDepth 20000 in
theorem gX5_init_X3_init_n18 : GoodIn wsX5_init (wsX3_init) := ggX5_init_X3_init
set_option maxRecDepth 20000 in
theorem ggX5_init_X4_init : GoodIn wsX5_init wsX4_init := goodIn_r _ [38, 39, 2, 3, 20, 40, 41, 42, 43, 44, 45, 72, 73, 74, 75, 76, 77, 78, 79, 80, 81, 82, 83] (by decide +kernel) (by decide +kernel)
set_option maxRecDepth 20000 in
theorem gX5_init_X4_init_n28 : GoodIn wsX5_init (wsX4_init) := ggX5_init_X4_init
theorem dX5_init_0 : decode cX5_init 0 = .ok (.aload_n 0, 1) := by decide +kernel
theorem dX5_init_1 : decode cX5_init 1 = .ok (.invokespecial 3, 3) := by decide +kernel
theorem dX5_init_4 : decode cX5_init 4 = .ok (.aload_n 0, 1) := by decide +kernel
theorem dX5_init_5 : decode cX5_init 5 = .ok (.new 9, 3) := by decide +kernel
theorem dX5_init_8 : decode cX5_init 8 = .ok (.dup, 1) := by decide +kernel
theorem dX5_init_9 : decode cX5_init 9 = .ok (.invokespecial 11, 3) := by decide +kernel
theorem dX5_init_12 : decode cX5_init 12 = .ok (.putfield 12, 3) := by decide +kernel
theorem dX5_init_15 : decode cX5_init 15 = .ok (.aload_n 0, 1) := by decide +kernel
theorem dX5_init_16 : decode cX5_init 16 = .ok (.new 16, 3) := by decide +kernel
theorem dX5_init_19 : decode cX5_init 19 = .ok (.dup, 1) := by decide +kernel
theorem dX5_init_20 : decode cX5_init 20 = .ok (.invokespecial 18, 3) := by decide +kernel
theorem dX5_init_23 : decode cX5_init 23 = .ok (.putfield 19, 3) := by decide +kernel
theorem dX5_init_26 : decode cX5_init 26 = .ok (.aload_n 0, 1) := by decide +kernel
theorem dX5_init_27 : decode cX5_init 27 = .ok (.new 16, 3) := by decide +kernel
theorem dX5_init_30 : decode cX5_init 30 = .ok (.dup, 1) := by decide +kernel
theorem dX5_init_31 : decode cX5_init 31 = .ok (.invokespecial 18, 3) := by decide +kernel
theorem dX5_init_34 : decode cX5_init 34 = .ok (.putfield 23, 3) := by decide +kernel
theorem dX5_init_37 : decode cX5_init 37 = .ok (.aload_n 0, 1) := by decide +kernel
theorem dX5_init_38 : decode cX5_init 38 = .ok (.new 26, 3) := by decide +kernel
theorem dX5_init_41 : decode cX5_init 41 = .ok (.dup, 1) := by decide +kernel
theorem dX5_init_42 : decode cX5_init 42 = .ok (.invokespecial 28, 3) := by decide +kernel
theorem dX5_init_45 : decode cX5_init 45 = .ok (.putfield 29, 3) := by decide +kernel
theorem dX5_init_48 : decode cX5_init 48 = .ok (.return_, 1) := by decide +kernel
set_option maxRecDepth 20000 in
theorem ggX5_letter_X1_append : GoodIn wsX5_letter wsX1_append := goodIn_r _ [7, 8, 9, 17, 18] (by decide +kernel) (by decide +kernel)
set_option maxRecDepth 20000 in
theorem gX5_letter_X1_append : GoodIn wsX5_letter (wsV RX5 33 RX1 yX1_append wsX1_append) := goodIn_app (goodIn_of _ (by decide +kernel)) ggX5_letter_X1_append
theorem dX5_letter_0 : decode cX5_letter 0 = .ok (.iload_n 1, 1) := by decide +kernel
theorem dX5_letter_1 : decode cX5_letter 1 = .ok (.iconst 1, 1) := by decide +kernel
theorem dX5_letter_2 : decode cX5_letter 2 = .ok (.if_icmp .lt 9, 3) := by decide +kernel
theorem dX5_letter_5 : decode cX5_letter 5 = .ok (.iload_n 1, 1) := by decide +kernel
theorem dX5_letter_6 : decode cX5_letter 6 = .ok (.bipush 126, 2) := by decide +kernel
theorem dX5_letter_8 : decode cX5_letter 8 = .ok (.if_icmp .le 6, 3) := by decide +kernel
theorem dX5_letter_11 : decode cX5_letter 11 = .ok (.bipush (-102), 2) := by decide +kernel
theorem dX5_letter_13 : decode cX5_letter 13 = .ok (.ireturn, 1) := by decide +kernel
theorem dX5_letter_14 : decode cX5_letter 14 = .ok (.aload_n 0, 1) := by decide +kernel
theorem dX5_letter_15 : decode cX5_letter 15 = .ok (.getfield 12, 3) := by decide +kernel
theorem dX5_letter_18 : decode cX5_letter 18 = .ok (.iload_n 1, 1) := by decide +kernel
theorem dX5_letter_19 : decode cX5_letter 19 = .ok (.invokevirtual 33, 3) := by decide +kernel
theorem dX5_letter_22 : decode cX5_letter 22 = .ok (.ifCond .eq 13, 3) := by decide +kernel
theorem dX5_letter_25 : decode cX5_letter 25 = .ok (.aload_n 0, 1) := by decide +kernel
theorem dX5_letter_26 : decode cX5_letter 26 = .ok (.getfield 12, 3) := by decide +kernel
theorem dX5_letter_29 : decode cX5_letter 29 = .ok (.getfield 37, 3) := by decide +kernel
theorem dX5_letter_32 : decode cX5_letter 32 = .ok (.goto 5, 3) := by decide +kernel
theorem dX5_letter_35 : decode cX5_letter 35 = .ok (.bipush (-104), 2) := by decide +kernel
theorem dX5_letter_37 : decode cX5_letter 37 = .ok (.ireturn, 1) := by decide +kernel
theorem dX5_blank_0 : decode cX5_blank 0 = .ok (.aload_n 0, 1) := by decide +kernel
theorem dX5_blank_1 : decode cX5_blank 1 = .ok (.getfield 12, 3) := by decide +kernel
theorem dX5_blank_4 : decode cX5_blank 4 = .ok (.getfield 37, 3) := by decide +kernel
theorem dX5_blank_7 : decode cX5_blank 7 = .ok (.istore_n 1, 1) := by decide +kernel
theorem dX5_blank_8 : decode cX5_blank 8 = .ok (.aload_n 0, 1) := by decide +kernel
theorem dX5_blank_9 : decode cX5_blank 9 = .ok (.getfield 12, 3) := by decide +kernel
theorem dX5_blank_12 : decode cX5_blank 12 = .ok (.iconst 0, 1) := by decide +kernel
theorem dX5_blank_13 : decode cX5_blank 13 = .ok (.putfield 37, 3) := by decide +kernel
theorem dX5_blank_16 : decode cX5_blank 16 = .ok (.iload_n 1, 1) := by decide +kernel
theorem dX5_blank_17 : decode cX5_blank 17 = .ok (.ireturn, 1) := by decide +kernel
set_option maxRecDepth 20000 in
theorem ggX5_fault_X1_firstWrong : GoodIn wsX5_fault wsX1_firstWrong := goodIn_r _ [6, 7, 8, 9, 10, 5, 11, 12, 13, 14, 15, 16, 17, 18, 19, 20, 21, 22, 23, 24, 25, 26, 27, 28, 29, 30, 31, 32, 33, 34, 35, 36, 37, 38, 39, 40, 41, 42, 43, 44, 45, 46, 47, 48, 49, 50, 51, 52, 53, 54, 55, 56, 57, 58, 59, 60, 61, 62, 63, 64, 65, 66, 67, 68, 69, 70, 71, 72, 73, 74, 75, 76, 77, 78, 79, 80, 81, 82, 83, 84, 85, 86, 87, 88, 89, 90, 91, 92, 93, 94, 95, 96, 97, 98, 99, 100, 101, 102, 103, 104, 105, 106, 107, 108, 109, 110, 111, 112, 113, 114, 115, 116, 117, 118, 119, 120, 121, 122, 123, 124, 125, 126, 127, 128, 136, 137] (by decide +kernel) (by decide +kernel)
set_option maxRecDepth 20000 in
theorem gX5_fault_X1_firstWrong : GoodIn wsX5_fault (wsV RX5 41 RX1 yX1_firstWrong wsX1_firstWrong) := goodIn_app (goodIn_of _ (by decide +kernel)) ggX5_fault_X1_firstWrong
theorem dX5_fault_0 : decode cX5_fault 0 = .ok (.aload_n 0, 1) := by decide +kernel
theorem dX5_fault_1 : decode cX5_fault 1 = .ok (.getfield 12, 3) := by decide +kernel
theorem dX5_fault_4 : decode cX5_fault 4 = .ok (.invokevirtual 41, 3) := by decide +kernel
theorem dX5_fault_7 : decode cX5_fault 7 = .ok (.ireturn, 1) := by decide +kernel
set_option maxRecDepth 20000 in
theorem ggX5_shelf_X1_isShelf : GoodIn wsX5_shelf wsX1_isShelf := goodIn_r _ [13, 14, 15, 16, 17, 12, 18, 19, 20, 21, 22, 23, 24, 25, 26, 27, 28, 29, 30, 31, 32, 33, 34, 35, 36, 37, 38, 39, 40, 41, 42, 43, 44, 45, 46, 47, 48, 49, 50, 51, 52, 53, 54, 55, 56, 57, 58, 59, 60, 61, 62, 63, 64, 65, 66, 67, 68, 69, 70, 71, 72, 73, 74, 75, 76, 77, 78, 79, 80, 81, 82, 83, 84, 85, 86, 87, 88, 89, 90, 91, 92, 93, 94, 95, 96, 97, 98, 99, 100, 101, 102, 103, 104, 105, 106, 107, 108, 109, 110, 111, 112, 113, 114, 115, 116, 117, 118, 119, 120, 121, 122, 123, 124, 125, 126, 127, 128, 129, 130, 131, 132, 133, 134, 135, 136, 137, 138, 139, 260, 261] (by decide +kernel) (by decide +kernel)
set_option maxRecDepth 20000 in
theorem gX5_shelf_X1_isShelf : GoodIn wsX5_shelf (wsV RX5 45 RX1 yX1_isShelf wsX1_isShelf) := goodIn_app (goodIn_of _ (by decide +kernel)) ggX5_shelf_X1_isShelf
set_option maxRecDepth 20000 in
theorem ggX5_shelf_X1_digit : GoodIn wsX5_shelf wsX1_digit := goodIn_r _ [26, 27, 28, 29, 12, 30, 14, 31, 260, 261] (by decide +kernel) (by decide +kernel)
set_option maxRecDepth 20000 in
theorem gX5_shelf_X1_digit : GoodIn wsX5_shelf (wsV RX5 49 RX1 yX1_digit wsX1_digit) := goodIn_app (goodIn_of _ (by decide +kernel)) ggX5_shelf_X1_digit
set_option maxRecDepth 20000 in
theorem ggX5_shelf_X3_begin : GoodIn wsX5_shelf wsX3_begin := goodIn_r _ [145, 146, 147, 148, 149, 150, 151, 152, 153, 154, 155, 156, 157, 158, 159, 160, 161, 162, 163, 164, 165, 166, 167, 168, 169, 170, 262, 263, 264, 265, 266, 267, 268, 269, 282, 283, 284, 285, 286, 270, 271, 272, 273, 274, 275, 276, 277, 278, 279, 280, 281] (by decide +kernel) (by decide +kernel)
set_option maxRecDepth 20000 in
theorem gX5_shelf_X3_begin : GoodIn wsX5_shelf (wsV RX5 53 RX3 yX3_begin wsX3_begin) := goodIn_app (goodIn_of _ (by decide +kernel)) ggX5_shelf_X3_begin
set_option maxRecDepth 20000 in
theorem ggX5_shelf_X1_entries : GoodIn wsX5_shelf wsX1_entries := goodIn_r _ [174, 14, 260, 261] (by decide +kernel) (by decide +kernel)
set_option maxRecDepth 20000 in
theorem gX5_shelf_X1_entries : GoodIn wsX5_shelf (wsV RX5 57 RX1 yX1_entries wsX1_entries) := goodIn_app (goodIn_of _ (by decide +kernel)) ggX5_shelf_X1_entries
set_option maxRecDepth 20000 in
theorem ggX5_shelf_X1_kindOf : GoodIn wsX5_shelf wsX1_kindOf := goodIn_r _ [46, 27, 28, 29, 12, 30, 14, 31, 47, 48, 49, 50, 51, 52, 53, 54, 55, 56, 57, 58, 59, 60, 61, 62, 63, 64, 65, 66, 67, 68, 69, 70, 71, 72, 73, 74, 75, 76, 77, 78, 79, 80, 81, 82, 83, 84, 85, 86, 87, 88, 89, 90, 91, 92, 93, 94, 95, 96, 97, 98, 99, 100, 101, 102, 103, 104, 105, 106, 107, 108, 109, 110, 111, 112, 113, 114, 115, 116, 117, 118, 119, 120, 121, 122, 123, 124, 125, 126, 127, 128, 129, 130, 131, 132, 133, 134, 135, 260, 261] (by decide +kernel) (by decide +kernel)
set_option maxRecDepth 20000 in
theorem gX5_shelf_X1_kindOf : GoodIn wsX5_shelf (wsV RX5 60 RX1 yX1_kindOf wsX1_kindOf) := goodIn_app (goodIn_of _ (by decide +kernel)) ggX5_shelf_X1_kindOf
set_option maxRecDepth 20000 in
theorem ggX5_shelf_X1_keyOf : GoodIn wsX5_shelf wsX1_keyOf := goodIn_r _ [179, 23, 24, 25, 12, 26, 27, 28, 29, 30, 14, 31, 260, 261] (by decide +kernel) (by decide +kernel)
set_option maxRecDepth 20000 in
theorem gX5_shelf_X1_keyOf : GoodIn wsX5_shelf (wsV RX5 63 RX1 yX1_keyOf wsX1_keyOf) := goodIn_app (goodIn_of _ (by decide +kernel)) ggX5_shelf_X1_keyOf
set_option maxRecDepth 20000 in
theorem ggX5_shelf_X1_valueOf : GoodIn wsX5_shelf wsX1_valueOf := goodIn_r _ [183, 23, 24, 25, 12, 26, 27, 28, 29, 30, 14, 31, 260, 261] (by decide +kernel) (by decide +kernel)
set_option maxRecDepth 20000 in
theorem gX5_shelf_X1_valueOf : GoodIn wsX5_shelf (wsV RX5 66 RX1 yX1_valueOf wsX1_valueOf) := goodIn_app (goodIn_of _ (by decide +kernel)) ggX5_shelf_X1_valueOf
set_option maxRecDepth 20000 in
theorem ggX5_shelf_X3_place : GoodIn wsX5_shelf wsX3_place := goodIn_r _ [187, 188, 189, 146, 147, 152, 151, 190, 191, 192, 157, 193, 159, 194, 195, 196, 197, 198, 199, 200, 201, 202, 203, 204, 160, 205, 206, 207, 208, 209, 210, 211, 212, 163, 164, 213, 76, 77, 78, 214, 215, 216, 217, 218, 219, 80, 81, 162, 161, 220, 221, 222, 223, 224, 225, 226, 227, 228, 229, 230, 231, 232, 233, 234, 235, 236, 237, 238, 239, 165, 166, 240, 241, 242, 243, 244, 245, 246, 247, 248, 249, 250, 144, 251, 153, 252, 262, 263, 264, 265, 266, 267, 268, 269, 270, 271, 272, 273, 274, 275, 276, 277, 278, 279, 280, 281, 282, 283] (by decide +kernel) (by decide +kernel)
set_option maxRecDepth 20000 in
theorem gX5_shelf_X3_place : GoodIn wsX5_shelf (wsV RX5 69 RX3 yX3_place wsX3_place) := goodIn_app (goodIn_of _ (by decide +kernel)) ggX5_shelf_X3_place
theorem dX5_shelf_0 : decode cX5_shelf 0 = .ok (.aload_n 0, 1) := by decide +kernel
theorem dX5_shelf_1 : decode cX5_shelf 1 = .ok (.getfield 12, 3) := by decide +kernel
theorem dX5_shelf_4 : decode cX5_shelf 4 = .ok (.invokevirtual 45, 3) := by decide +kernel
theorem dX5_shelf_7 : decode cX5_shelf 7 = .ok (.ifCond .ne 6, 3) := by decide +kernel
theorem dX5_shelf_10 : decode cX5_shelf 10 = .ok (.bipush (-103), 2) := by decide +kernel
theorem dX5_shelf_12 : decode cX5_shelf 12 = .ok (.ireturn, 1) := by decide +kernel
theorem dX5_shelf_13 : decode cX5_shelf 13 = .ok (.aload_n 0, 1) := by decide +kernel
theorem dX5_shelf_14 : decode cX5_shelf 14 = .ok (.getfield 19, 3) := by decide +kernel
theorem dX5_shelf_17 : decode cX5_shelf 17 = .ok (.aload_n 0, 1) := by decide +kernel
theorem dX5_shelf_18 : decode cX5_shelf 18 = .ok (.getfield 12, 3) := by decide +kernel
theorem dX5_shelf_21 : decode cX5_shelf 21 = .ok (.iconst 0, 1) := by decide +kernel
theorem dX5_shelf_22 : decode cX5_shelf 22 = .ok (.invokevirtual 49, 3) := by decide +kernel
theorem dX5_shelf_25 : decode cX5_shelf 25 = .ok (.aload_n 0, 1) := by decide +kernel
theorem dX5_shelf_26 : decode cX5_shelf 26 = .ok (.getfield 12, 3) := by decide +kernel
theorem dX5_shelf_29 : decode cX5_shelf 29 = .ok (.iconst 1, 1) := by decide +kernel
theorem dX5_shelf_30 : decode cX5_shelf 30 = .ok (.invokevirtual 49, 3) := by decide +kernel
theorem dX5_shelf_33 : decode cX5_shelf 33 = .ok (.aload_n 0, 1) := by decide +kernel
theorem dX5_shelf_34 : decode cX5_shelf 34 = .ok (.getfield 12, 3) := by decide +kernel
theorem dX5_shelf_37 : decode cX5_shelf 37 = .ok (.iconst 3, 1) := by decide +kernel
theorem dX5_shelf_38 : decode cX5_shelf 38 = .ok (.invokevirtual 49, 3) := by decide +kernel
theorem dX5_shelf_41 : decode cX5_shelf 41 = .ok (.invokevirtual 53, 3) := by decide +kernel
theorem dX5_shelf_44 : decode cX5_shelf 44 = .ok (.aload_n 0, 1) := by decide +kernel
theorem dX5_shelf_45 : decode cX5_shelf 45 = .ok (.getfield 12, 3) := by decide +kernel
theorem dX5_shelf_48 : decode cX5_shelf 48 = .ok (.invokevirtual 57, 3) := by decide +kernel
theorem dX5_shelf_51 : decode cX5_shelf 51 = .ok (.istore_n 1, 1) := by decide +kernel
theorem dX5_shelf_52 : decode cX5_shelf 52 = .ok (.iconst 0, 1) := by decide +kernel
theorem dX5_shelf_53 : decode cX5_shelf 53 = .ok (.istore_n 2, 1) := by decide +kernel
theorem dX5_shelf_54 : decode cX5_shelf 54 = .ok (.iload_n 2, 1) := by decide +kernel
theorem dX5_shelf_55 : decode cX5_shelf 55 = .ok (.iload_n 1, 1) := by decide +kernel
theorem dX5_shelf_56 : decode cX5_shelf 56 = .ok (.if_icmp .ge 41, 3) := by decide +kernel
theorem dX5_shelf_59 : decode cX5_shelf 59 = .ok (.aload_n 0, 1) := by decide +kernel
theorem dX5_shelf_60 : decode cX5_shelf 60 = .ok (.getfield 19, 3) := by decide +kernel
theorem dX5_shelf_63 : decode cX5_shelf 63 = .ok (.aload_n 0, 1) := by decide +kernel
theorem dX5_shelf_64 : decode cX5_shelf 64 = .ok (.getfield 12, 3) := by decide +kernel
theorem dX5_shelf_67 : decode cX5_shelf 67 = .ok (.iload_n 2, 1) := by decide +kernel
theorem dX5_shelf_68 : decode cX5_shelf 68 = .ok (.invokevirtual 60, 3) := by decide +kernel
theorem dX5_shelf_71 : decode cX5_shelf 71 = .ok (.aload_n 0, 1) := by decide +kernel
theorem dX5_shelf_72 : decode cX5_shelf 72 = .ok (.getfield 12, 3) := by decide +kernel
theorem dX5_shelf_75 : decode cX5_shelf 75 = .ok (.iload_n 2, 1) := by decide +kernel
theorem dX5_shelf_76 : decode cX5_shelf 76 = .ok (.invokevirtual 63, 3) := by decide +kernel
theorem dX5_shelf_79 : decode cX5_shelf 79 = .ok (.aload_n 0, 1) := by decide +kernel
theorem dX5_shelf_80 : decode cX5_shelf 80 = .ok (.getfield 12, 3) := by decide +kernel
theorem dX5_shelf_83 : decode cX5_shelf 83 = .ok (.iload_n 2, 1) := by decide +kernel
theorem dX5_shelf_84 : decode cX5_shelf 84 = .ok (.invokevirtual 66, 3) := by decide +kernel
theorem dX5_shelf_87 : decode cX5_shelf 87 = .ok (.invokevirtual 69, 3) := by decide +kernel
theorem dX5_shelf_90 : decode cX5_shelf 90 = .ok (.pop, 1) := by decide +kernel
theorem dX5_shelf_91 : decode cX5_shelf 91 = .ok (.iinc 2 1, 3) := by decide +kernel
theorem dX5_shelf_94 : decode cX5_shelf 94 = .ok (.goto (-40), 3) := by decide +kernel
theorem dX5_shelf_97 : decode cX5_shelf 97 = .ok (.aload_n 0, 1) := by decide +kernel
theorem dX5_shelf_98 : decode cX5_shelf 98 = .ok (.getfield 12, 3) := by decide +kernel
theorem dX5_shelf_101 : decode cX5_shelf 101 = .ok (.iconst 0, 1) := by decide +kernel
theorem dX5_shelf_102 : decode cX5_shelf 102 = .ok (.putfield 37, 3) := by decide +kernel
theorem dX5_shelf_105 : decode cX5_shelf 105 = .ok (.aload_n 0, 1) := by decide +kernel
theorem dX5_shelf_106 : decode cX5_shelf 106 = .ok (.iconst 1, 1) := by decide +kernel
theorem dX5_shelf_107 : decode cX5_shelf 107 = .ok (.putfield 73, 3) := by decide +kernel
theorem dX5_shelf_110 : decode cX5_shelf 110 = .ok (.aload_n 0, 1) := by decide +kernel
theorem dX5_shelf_111 : decode cX5_shelf 111 = .ok (.iconst 0, 1) := by decide +kernel
theorem dX5_shelf_112 : decode cX5_shelf 112 = .ok (.putfield 77, 3) := by decide +kernel
theorem dX5_shelf_115 : decode cX5_shelf 115 = .ok (.aload_n 0, 1) := by decide +kernel
theorem dX5_shelf_116 : decode cX5_shelf 116 = .ok (.dup, 1) := by decide +kernel
theorem dX5_shelf_117 : decode cX5_shelf 117 = .ok (.getfield 80, 3) := by decide +kernel
theorem dX5_shelf_120 : decode cX5_shelf 120 = .ok (.iconst 1, 1) := by decide +kernel
theorem dX5_shelf_121 : decode cX5_shelf 121 = .ok (.iadd, 1) := by decide +kernel
theorem dX5_shelf_122 : decode cX5_shelf 122 = .ok (.putfield 80, 3) := by decide +kernel
theorem dX5_shelf_125 : decode cX5_shelf 125 = .ok (.aload_n 0, 1) := by decide +kernel
theorem dX5_shelf_126 : decode cX5_shelf 126 = .ok (.getfield 19, 3) := by decide +kernel
theorem dX5_shelf_129 : decode cX5_shelf 129 = .ok (.getfield 83, 3) := by decide +kernel
theorem dX5_shelf_132 : decode cX5_shelf 132 = .ok (.getfield 86, 3) := by decide +kernel
theorem dX5_shelf_135 : decode cX5_shelf 135 = .ok (.ireturn, 1) := by decide +kernel
set_option maxRecDepth 20000 in
theorem ggX5_entry_X4_has : GoodIn wsX5_entry wsX4_has := goodIn_r _ [12, 13, 51, 52, 53, 54, 55, 56, 57, 58, 59, 60, 61, 62] (by decide +kernel) (by decide +kernel)
set_option maxRecDepth 20000 in
theorem gX5_entry_X4_has : GoodIn wsX5_entry (wsV RX5 89 RX4 yX4_has wsX4_has) := goodIn_app (goodIn_of _ (by decide +kernel)) ggX5_entry_X4_has
set_option maxRecDepth 20000 in
theorem ggX5_entry_X4_walk : GoodIn wsX5_entry wsX4_walk := goodIn_r _ [17, 18, 19, 20, 21, 22, 9, 10, 11, 12, 13, 51, 52, 53, 54, 55, 56, 57, 58, 59, 60, 61, 62] (by decide +kernel) (by decide +kernel)
set_option maxRecDepth 20000 in
theorem gX5_entry_X4_walk : GoodIn wsX5_entry (wsV RX5 99 RX4 yX4_walk wsX4_walk) := goodIn_app (goodIn_of _ (by decide +kernel)) ggX5_entry_X4_walk
set_option maxRecDepth 20000 in
theorem ggX5_entry_X4_above : GoodIn wsX5_entry wsX4_above := goodIn_r _ [26, 27, 15, 16, 11, 17, 18, 19, 20, 21, 22, 9, 10, 12, 13, 28, 29, 30, 31, 51, 52, 53, 54, 55, 56, 57, 58, 59, 60, 61, 62] (by decide +kernel) (by decide +kernel)
set_option maxRecDepth 20000 in
theorem gX5_entry_X4_above : GoodIn wsX5_entry (wsV RX5 111 RX4 yX4_above wsX4_above) := goodIn_app (goodIn_of _ (by decide +kernel)) ggX5_entry_X4_above
set_option maxRecDepth 20000 in
theorem ggX5_entry_X4_lesser : GoodIn wsX5_entry wsX4_lesser := goodIn_r _ [35, 22, 9, 10, 11, 12, 13, 51, 52, 53, 54, 55, 56, 57, 58, 59, 60, 61, 62] (by decide +kernel) (by decide +kernel)
set_option maxRecDepth 20000 in
theorem gX5_entry_X4_lesser : GoodIn wsX5_entry (wsV RX5 114 RX4 yX4_lesser wsX4_lesser) := goodIn_app (goodIn_of _ (by decide +kernel)) ggX5_entry_X4_lesser
theorem dX5_entry_0 : decode cX5_entry 0 = .ok (.aload_n 0, 1) := by decide +kernel
theorem dX5_entry_1 : decode cX5_entry 1 = .ok (.getfield 19, 3) := by decide +kernel
theorem dX5_entry_4 : decode cX5_entry 4 = .ok (.getfield 83, 3) := by decide +kernel
theorem dX5_entry_7 : decode cX5_entry 7 = .ok (.astore_n 3, 1) := by decide +kernel
theorem dX5_entry_8 : decode cX5_entry 8 = .ok (.aload_n 3, 1) := by decide +kernel
theorem dX5_entry_9 : decode cX5_entry 9 = .ok (.iload_n 1, 1) := by decide +kernel
theorem dX5_entry_10 : decode cX5_entry 10 = .ok (.invokevirtual 89, 3) := by decide +kernel
theorem dX5_entry_13 : decode cX5_entry 13 = .ok (.ifCond .ne 6, 3) := by decide +kernel
theorem dX5_entry_16 : decode cX5_entry 16 = .ok (.bipush (-101), 2) := by decide +kernel
theorem dX5_entry_18 : decode cX5_entry 18 = .ok (.ireturn, 1) := by decide +kernel
theorem dX5_entry_19 : decode cX5_entry 19 = .ok (.iload_n 2, 1) := by decide +kernel
theorem dX5_entry_20 : decode cX5_entry 20 = .ok (.tableswitch 109 0 7 #[48, 58, 68, 76, 83, 90, 97, 103], 48) := by decide +kernel
theorem dX5_entry_68 : decode cX5_entry 68 = .ok (.aload_n 0, 1) := by decide +kernel
theorem dX5_entry_69 : decode cX5_entry 69 = .ok (.getfield 19, 3) := by decide +kernel
theorem dX5_entry_72 : decode cX5_entry 72 = .ok (.getfield 92, 3) := by decide +kernel
theorem dX5_entry_75 : decode cX5_entry 75 = .ok (.iload_n 1, 1) := by decide +kernel
theorem dX5_entry_76 : decode cX5_entry 76 = .ok (.iaload, 1) := by decide +kernel
theorem dX5_entry_77 : decode cX5_entry 77 = .ok (.ireturn, 1) := by decide +kernel
theorem dX5_entry_78 : decode cX5_entry 78 = .ok (.aload_n 0, 1) := by decide +kernel
theorem dX5_entry_79 : decode cX5_entry 79 = .ok (.getfield 19, 3) := by decide +kernel
theorem dX5_entry_82 : decode cX5_entry 82 = .ok (.getfield 96, 3) := by decide +kernel
theorem dX5_entry_85 : decode cX5_entry 85 = .ok (.iload_n 1, 1) := by decide +kernel
theorem dX5_entry_86 : decode cX5_entry 86 = .ok (.iaload, 1) := by decide +kernel
theorem dX5_entry_87 : decode cX5_entry 87 = .ok (.ireturn, 1) := by decide +kernel
theorem dX5_entry_88 : decode cX5_entry 88 = .ok (.aload_n 3, 1) := by decide +kernel
theorem dX5_entry_89 : decode cX5_entry 89 = .ok (.iload_n 1, 1) := by decide +kernel
theorem dX5_entry_90 : decode cX5_entry 90 = .ok (.invokevirtual 99, 3) := by decide +kernel
theorem dX5_entry_93 : decode cX5_entry 93 = .ok (.iconst 1, 1) := by decide +kernel
theorem dX5_entry_94 : decode cX5_entry 94 = .ok (.isub, 1) := by decide +kernel
theorem dX5_entry_95 : decode cX5_entry 95 = .ok (.ireturn, 1) := by decide +kernel
theorem dX5_entry_96 : decode cX5_entry 96 = .ok (.aload_n 3, 1) := by decide +kernel
theorem dX5_entry_97 : decode cX5_entry 97 = .ok (.getfield 102, 3) := by decide +kernel
theorem dX5_entry_100 : decode cX5_entry 100 = .ok (.iload_n 1, 1) := by decide +kernel
theorem dX5_entry_101 : decode cX5_entry 101 = .ok (.iaload, 1) := by decide +kernel
theorem dX5_entry_102 : decode cX5_entry 102 = .ok (.ireturn, 1) := by decide +kernel
theorem dX5_entry_103 : decode cX5_entry 103 = .ok (.aload_n 3, 1) := by decide +kernel
theorem dX5_entry_104 : decode cX5_entry 104 = .ok (.getfield 105, 3) := by decide +kernel
theorem dX5_entry_107 : decode cX5_entry 107 = .ok (.iload_n 1, 1) := by decide +kernel
theorem dX5_entry_108 : decode cX5_entry 108 = .ok (.iaload, 1) := by decide +kernel
theorem dX5_entry_109 : decode cX5_entry 109 = .ok (.ireturn, 1) := by decide +kernel
theorem dX5_entry_110 : decode cX5_entry 110 = .ok (.aload_n 3, 1) := by decide +kernel
theorem dX5_entry_111 : decode cX5_entry 111 = .ok (.getfield 108, 3) := by decide +kernel
theorem dX5_entry_114 : decode cX5_entry 114 = .ok (.iload_n 1, 1) := by decide +kernel
theorem dX5_entry_115 : decode cX5_entry 115 = .ok (.iaload, 1) := by decide +kernel
theorem dX5_entry_116 : decode cX5_entry 116 = .ok (.ireturn, 1) := by decide +kernel
theorem dX5_entry_117 : decode cX5_entry 117 = .ok (.aload_n 3, 1) := by decide +kernel
theorem dX5_entry_118 : decode cX5_entry 118 = .ok (.iload_n 1, 1) := by decide +kernel
theorem dX5_entry_119 : decode cX5_entry 119 = .ok (.invokevirtual 111, 3) := by decide +kernel
theorem dX5_entry_122 : decode cX5_entry 122 = .ok (.ireturn, 1) := by decide +kernel
theorem dX5_entry_123 : decode cX5_entry 123 = .ok (.aload_n 3, 1) := by decide +kernel
theorem dX5_entry_124 : decode cX5_entry 124 = .ok (.iload_n 1, 1) := by decide +kernel
theorem dX5_entry_125 : decode cX5_entry 125 = .ok (.invokevirtual 114, 3) := by decide +kernel
theorem dX5_entry_128 : decode cX5_entry 128 = .ok (.ireturn, 1) := by decide +kernel
theorem dX5_entry_129 : decode cX5_entry 129 = .ok (.bipush (-102), 2) := by decide +kernel
theorem dX5_entry_131 : decode cX5_entry 131 = .ok (.ireturn, 1) := by decide +kernel
set_option maxRecDepth 20000 in
theorem ggX5_as_X4_has : GoodIn wsX5_as wsX4_has := goodIn_r _ [8, 9, 29, 30, 31, 32, 33, 34, 35, 36, 37, 38, 39, 40] (by decide +kernel) (by decide +kernel)
set_option maxRecDepth 20000 in
theorem gX5_as_X4_has : GoodIn wsX5_as (wsV RX5 89 RX4 yX4_has wsX4_has) := goodIn_app (goodIn_of _ (by decide +kernel)) ggX5_as_X4_has
set_option maxRecDepth 20000 in
theorem ggX5_as_X5_isOf : GoodIn wsX5_as wsX5_isOf := goodIn_r _ [13] (by decide +kernel) (by decide +kernel)
set_option maxRecDepth 20000 in
theorem gX5_as_X5_isOf : GoodIn wsX5_as (va_wsS RX5 117 yX5_isOf wsX5_isOf) := goodIn_app (goodIn_of _ (by decide +kernel)) ggX5_as_X5_isOf
theorem dX5_as_0 : decode cX5_as 0 = .ok (.aload_n 0, 1) := by decide +kernel
theorem dX5_as_1 : decode cX5_as 1 = .ok (.getfield 19, 3) := by decide +kernel
theorem dX5_as_4 : decode cX5_as 4 = .ok (.getfield 83, 3) := by decide +kernel
theorem dX5_as_7 : decode cX5_as 7 = .ok (.iload_n 1, 1) := by decide +kernel
theorem dX5_as_8 : decode cX5_as 8 = .ok (.invokevirtual 89, 3) := by decide +kernel
theorem dX5_as_11 : decode cX5_as 11 = .ok (.ifCond .ne 6, 3) := by decide +kernel
theorem dX5_as_14 : decode cX5_as 14 = .ok (.bipush (-101), 2) := by decide +kernel
theorem dX5_as_16 : decode cX5_as 16 = .ok (.ireturn, 1) := by decide +kernel
theorem dX5_as_17 : decode cX5_as 17 = .ok (.iload_n 2, 1) := by decide +kernel
theorem dX5_as_18 : decode cX5_as 18 = .ok (.ifCond .lt 8, 3) := by decide +kernel
theorem dX5_as_21 : decode cX5_as 21 = .ok (.iload_n 2, 1) := by decide +kernel
theorem dX5_as_22 : decode cX5_as 22 = .ok (.iconst 5, 1) := by decide +kernel
theorem dX5_as_23 : decode cX5_as 23 = .ok (.if_icmp .lt 6, 3) := by decide +kernel
theorem dX5_as_26 : decode cX5_as 26 = .ok (.bipush (-102), 2) := by decide +kernel
theorem dX5_as_28 : decode cX5_as 28 = .ok (.ireturn, 1) := by decide +kernel
theorem dX5_as_29 : decode cX5_as 29 = .ok (.aload_n 0, 1) := by decide +kernel
theorem dX5_as_30 : decode cX5_as 30 = .ok (.getfield 19, 3) := by decide +kernel
theorem dX5_as_33 : decode cX5_as 33 = .ok (.getfield 92, 3) := by decide +kernel
theorem dX5_as_36 : decode cX5_as 36 = .ok (.iload_n 1, 1) := by decide +kernel
theorem dX5_as_37 : decode cX5_as 37 = .ok (.iaload, 1) := by decide +kernel
theorem dX5_as_38 : decode cX5_as 38 = .ok (.iload_n 2, 1) := by decide +kernel
theorem dX5_as_39 : decode cX5_as 39 = .ok (.invokestatic 117, 3) := by decide +kernel
theorem dX5_as_42 : decode cX5_as 42 = .ok (.ifCond .eq 7, 3) := by decide +kernel
theorem dX5_as_45 : decode cX5_as 45 = .ok (.iload_n 1, 1) := by decide +kernel
theorem dX5_as_46 : decode cX5_as 46 = .ok (.goto 4, 3) := by decide +kernel
theorem dX5_as_49 : decode cX5_as 49 = .ok (.iconst (-1), 1) := by decide +kernel
theorem dX5_as_50 : decode cX5_as 50 = .ok (.ireturn, 1) := by decide +kernel
set_option maxRecDepth 20000 in
theorem ggX5_at_X4_has : GoodIn wsX5_at wsX4_has := goodIn_r _ [7, 8, 24, 25, 26, 27, 28, 29, 30, 31, 32, 33, 34, 35] (by decide +kernel) (by decide +kernel)
set_option maxRecDepth 20000 in
theorem gX5_at_X4_has : GoodIn wsX5_at (wsV RX5 89 RX4 yX4_has wsX4_has) := goodIn_app (goodIn_of _ (by decide +kernel)) ggX5_at_X4_has
theorem dX5_at_0 : decode cX5_at 0 = .ok (.iload_n 1, 1) := by decide +kernel
theorem dX5_at_1 : decode cX5_at 1 = .ok (.istore_n 2, 1) := by decide +kernel
theorem dX5_at_2 : decode cX5_at 2 = .ok (.iconst 0, 1) := by decide +kernel
theorem dX5_at_3 : decode cX5_at 3 = .ok (.istore_n 3, 1) := by decide +kernel
theorem dX5_at_4 : decode cX5_at 4 = .ok (.iload_n 3, 1) := by decide +kernel
theorem dX5_at_5 : decode cX5_at 5 = .ok (.bipush 100, 2) := by decide +kernel
theorem dX5_at_7 : decode cX5_at 7 = .ok (.if_icmp .ge 36, 3) := by decide +kernel
theorem dX5_at_10 : decode cX5_at 10 = .ok (.iload_n 2, 1) := by decide +kernel
theorem dX5_at_11 : decode cX5_at 11 = .ok (.ifCond .lt 32, 3) := by decide +kernel
theorem dX5_at_14 : decode cX5_at 14 = .ok (.aload_n 0, 1) := by decide +kernel
theorem dX5_at_15 : decode cX5_at 15 = .ok (.getfield 19, 3) := by decide +kernel
theorem dX5_at_18 : decode cX5_at 18 = .ok (.getfield 83, 3) := by decide +kernel
theorem dX5_at_21 : decode cX5_at 21 = .ok (.iload_n 3, 1) := by decide +kernel
theorem dX5_at_22 : decode cX5_at 22 = .ok (.invokevirtual 89, 3) := by decide +kernel
theorem dX5_at_25 : decode cX5_at 25 = .ok (.ifCond .eq 12, 3) := by decide +kernel
theorem dX5_at_28 : decode cX5_at 28 = .ok (.iload_n 2, 1) := by decide +kernel
theorem dX5_at_29 : decode cX5_at 29 = .ok (.ifCond .ne 5, 3) := by decide +kernel
theorem dX5_at_32 : decode cX5_at 32 = .ok (.iload_n 3, 1) := by decide +kernel
theorem dX5_at_33 : decode cX5_at 33 = .ok (.ireturn, 1) := by decide +kernel
theorem dX5_at_34 : decode cX5_at 34 = .ok (.iinc 2 (-1), 3) := by decide +kernel
theorem dX5_at_37 : decode cX5_at 37 = .ok (.iinc 3 1, 3) := by decide +kernel
theorem dX5_at_40 : decode cX5_at 40 = .ok (.goto (-36), 3) := by decide +kernel
theorem dX5_at_43 : decode cX5_at 43 = .ok (.bipush (-101), 2) := by decide +kernel
theorem dX5_at_45 : decode cX5_at 45 = .ok (.ireturn, 1) := by decide +kernel
set_option maxRecDepth 20000 in
theorem ggX5_next_X4_has : GoodIn wsX5_next wsX4_has := goodIn_r _ [8, 9, 25, 26, 27, 28, 29, 30, 31, 32, 33, 34, 35, 36] (by decide +kernel) (by decide +kernel)
set_option maxRecDepth 20000 in
theorem gX5_next_X4_has : GoodIn wsX5_next (wsV RX5 89 RX4 yX4_has wsX4_has) := goodIn_app (goodIn_of _ (by decide +kernel)) ggX5_next_X4_has
theorem dX5_next_0 : decode cX5_next 0 = .ok (.aload_n 0, 1) := by decide +kernel
theorem dX5_next_1 : decode cX5_next 1 = .ok (.getfield 73, 3) := by decide +kernel
theorem dX5_next_4 : decode cX5_next 4 = .ok (.ifCond .ne 6, 3) := by decide +kernel
theorem dX5_next_7 : decode cX5_next 7 = .ok (.bipush (-103), 2) := by decide +kernel
theorem dX5_next_9 : decode cX5_next 9 = .ok (.ireturn, 1) := by decide +kernel
theorem dX5_next_10 : decode cX5_next 10 = .ok (.iconst 0, 1) := by decide +kernel
theorem dX5_next_11 : decode cX5_next 11 = .ok (.istore_n 2, 1) := by decide +kernel
theorem dX5_next_12 : decode cX5_next 12 = .ok (.iload_n 2, 1) := by decide +kernel
theorem dX5_next_13 : decode cX5_next 13 = .ok (.bipush 100, 2) := by decide +kernel
theorem dX5_next_15 : decode cX5_next 15 = .ok (.if_icmp .ge 30, 3) := by decide +kernel
theorem dX5_next_18 : decode cX5_next 18 = .ok (.iload_n 2, 1) := by decide +kernel
theorem dX5_next_19 : decode cX5_next 19 = .ok (.iload_n 1, 1) := by decide +kernel
theorem dX5_next_20 : decode cX5_next 20 = .ok (.if_icmp .le 19, 3) := by decide +kernel
theorem dX5_next_23 : decode cX5_next 23 = .ok (.aload_n 0, 1) := by decide +kernel
theorem dX5_next_24 : decode cX5_next 24 = .ok (.getfield 19, 3) := by decide +kernel
theorem dX5_next_27 : decode cX5_next 27 = .ok (.getfield 83, 3) := by decide +kernel
theorem dX5_next_30 : decode cX5_next 30 = .ok (.iload_n 2, 1) := by decide +kernel
theorem dX5_next_31 : decode cX5_next 31 = .ok (.invokevirtual 89, 3) := by decide +kernel
theorem dX5_next_34 : decode cX5_next 34 = .ok (.ifCond .eq 5, 3) := by decide +kernel
theorem dX5_next_37 : decode cX5_next 37 = .ok (.iload_n 2, 1) := by decide +kernel
theorem dX5_next_38 : decode cX5_next 38 = .ok (.ireturn, 1) := by decide +kernel
theorem dX5_next_39 : decode cX5_next 39 = .ok (.iinc 2 1, 3) := by decide +kernel
theorem dX5_next_42 : decode cX5_next 42 = .ok (.goto (-30), 3) := by decide +kernel
theorem dX5_next_45 : decode cX5_next 45 = .ok (.iconst (-1), 1) := by decide +kernel
theorem dX5_next_46 : decode cX5_next 46 = .ok (.ireturn, 1) := by decide +kernel
set_option maxRecDepth 20000 in
theorem ggX5_put_X5_isNoKey : GoodIn wsX5_put wsX5_isNoKey := goodIn_r _ [8] (by decide +kernel) (by decide +kernel)
set_option maxRecDepth 20000 in
theorem gX5_put_X5_isNoKey : GoodIn wsX5_put (va_wsS RX5 121 yX5_isNoKey wsX5_isNoKey) := goodIn_app (goodIn_of _ (by decide +kernel)) ggX5_put_X5_isNoKey
set_option maxRecDepth 20000 in
theorem ggX5_put_X4_has : GoodIn wsX5_put wsX4_has := goodIn_r _ [13, 14, 122, 123, 124, 125, 126, 127, 128, 129, 130, 131, 132, 133] (by decide +kernel) (by decide +kernel)
set_option maxRecDepth 20000 in
theorem gX5_put_X4_has : GoodIn wsX5_put (wsV RX5 89 RX4 yX4_has wsX4_has) := goodIn_app (goodIn_of _ (by decide +kernel)) ggX5_put_X4_has
set_option maxRecDepth 20000 in
theorem ggX5_put_X5_isAble : GoodIn wsX5_put wsX5_isAble := goodIn_r _ [17, 18] (by decide +kernel) (by decide +kernel)
set_option maxRecDepth 20000 in
theorem gX5_put_X5_isAble : GoodIn wsX5_put (va_wsS RX5 124 yX5_isAble wsX5_isAble) := goodIn_app (goodIn_of _ (by decide +kernel)) ggX5_put_X5_isAble
set_option maxRecDepth 20000 in
theorem ggX5_put_X4_isFull : GoodIn wsX5_put wsX4_isFull := goodIn_r _ [22, 23, 122, 123, 124, 125, 126, 127, 128, 129, 130, 131, 132, 133] (by decide +kernel) (by decide +kernel)
set_option maxRecDepth 20000 in
theorem gX5_put_X4_isFull : GoodIn wsX5_put (wsV RX5 127 RX4 yX4_isFull wsX4_isFull) := goodIn_app (goodIn_of _ (by decide +kernel)) ggX5_put_X4_isFull
set_option maxRecDepth 20000 in
theorem ggX5_put_X3_place : GoodIn wsX5_put wsX3_place := goodIn_r _ [28, 29, 30, 31, 32, 33, 34, 35, 10, 11, 12, 13, 14, 36, 37, 38, 39, 40, 41, 42, 43, 44, 45, 46, 47, 48, 49, 50, 51, 52, 53, 54, 55, 23, 56, 57, 58, 59, 60, 61, 62, 63, 64, 65, 66, 67, 68, 69, 70, 71, 72, 73, 74, 75, 76, 77, 78, 79, 80, 81, 82, 83, 84, 85, 86, 87, 88, 89, 90, 91, 92, 93, 94, 95, 96, 97, 98, 99, 100, 101, 102, 103, 27, 104, 105, 106, 114, 115, 116, 117, 118, 119, 120, 121, 122, 123, 124, 125, 126, 127, 128, 129, 130, 131, 132, 133, 134, 135] (by decide +kernel) (by decide +kernel)
set_option maxRecDepth 20000 in
theorem gX5_put_X3_place : GoodIn wsX5_put (wsV RX5 69 RX3 yX3_place wsX3_place) := goodIn_app (goodIn_of _ (by decide +kernel)) ggX5_put_X3_place
theorem dX5_put_0 : decode cX5_put 0 = .ok (.iload_n 1, 1) := by decide +kernel
theorem dX5_put_1 : decode cX5_put 1 = .ok (.ifCond .lt 26, 3) := by decide +kernel
theorem dX5_put_4 : decode cX5_put 4 = .ok (.iload_n 1, 1) := by decide +kernel
theorem dX5_put_5 : decode cX5_put 5 = .ok (.iconst 5, 1) := by decide +kernel
theorem dX5_put_6 : decode cX5_put 6 = .ok (.if_icmp .ge 21, 3) := by decide +kernel
theorem dX5_put_9 : decode cX5_put 9 = .ok (.iload_n 2, 1) := by decide +kernel
theorem dX5_put_10 : decode cX5_put 10 = .ok (.invokestatic 121, 3) := by decide +kernel
theorem dX5_put_13 : decode cX5_put 13 = .ok (.ifCond .ne 14, 3) := by decide +kernel
theorem dX5_put_16 : decode cX5_put 16 = .ok (.iload_n 3, 1) := by decide +kernel
theorem dX5_put_17 : decode cX5_put 17 = .ok (.ifCond .lt 10, 3) := by decide +kernel
theorem dX5_put_20 : decode cX5_put 20 = .ok (.iload_n 3, 1) := by decide +kernel
theorem dX5_put_21 : decode cX5_put 21 = .ok (.sipush 999, 3) := by decide +kernel
theorem dX5_put_24 : decode cX5_put 24 = .ok (.if_icmp .le 6, 3) := by decide +kernel
theorem dX5_put_27 : decode cX5_put 27 = .ok (.bipush (-102), 2) := by decide +kernel
theorem dX5_put_29 : decode cX5_put 29 = .ok (.ireturn, 1) := by decide +kernel
theorem dX5_put_30 : decode cX5_put 30 = .ok (.aload_n 0, 1) := by decide +kernel
theorem dX5_put_31 : decode cX5_put 31 = .ok (.getfield 73, 3) := by decide +kernel
theorem dX5_put_34 : decode cX5_put 34 = .ok (.ifCond .ne 6, 3) := by decide +kernel
theorem dX5_put_37 : decode cX5_put 37 = .ok (.bipush (-103), 2) := by decide +kernel
theorem dX5_put_39 : decode cX5_put 39 = .ok (.ireturn, 1) := by decide +kernel
theorem dX5_put_40 : decode cX5_put 40 = .ok (.aload_n 0, 1) := by decide +kernel
theorem dX5_put_41 : decode cX5_put 41 = .ok (.getfield 19, 3) := by decide +kernel
theorem dX5_put_44 : decode cX5_put 44 = .ok (.getfield 83, 3) := by decide +kernel
theorem dX5_put_47 : decode cX5_put 47 = .ok (.iload_n 2, 1) := by decide +kernel
theorem dX5_put_48 : decode cX5_put 48 = .ok (.invokevirtual 89, 3) := by decide +kernel
theorem dX5_put_51 : decode cX5_put 51 = .ok (.ifCond .eq 22, 3) := by decide +kernel
theorem dX5_put_54 : decode cX5_put 54 = .ok (.aload_n 0, 1) := by decide +kernel
theorem dX5_put_55 : decode cX5_put 55 = .ok (.getfield 19, 3) := by decide +kernel
theorem dX5_put_58 : decode cX5_put 58 = .ok (.getfield 92, 3) := by decide +kernel
theorem dX5_put_61 : decode cX5_put 61 = .ok (.iload_n 2, 1) := by decide +kernel
theorem dX5_put_62 : decode cX5_put 62 = .ok (.iaload, 1) := by decide +kernel
theorem dX5_put_63 : decode cX5_put 63 = .ok (.iconst 1, 1) := by decide +kernel
theorem dX5_put_64 : decode cX5_put 64 = .ok (.invokestatic 124, 3) := by decide +kernel
theorem dX5_put_67 : decode cX5_put 67 = .ok (.ifCond .ne 22, 3) := by decide +kernel
theorem dX5_put_70 : decode cX5_put 70 = .ok (.bipush (-103), 2) := by decide +kernel
theorem dX5_put_72 : decode cX5_put 72 = .ok (.ireturn, 1) := by decide +kernel
theorem dX5_put_73 : decode cX5_put 73 = .ok (.aload_n 0, 1) := by decide +kernel
theorem dX5_put_74 : decode cX5_put 74 = .ok (.getfield 19, 3) := by decide +kernel
theorem dX5_put_77 : decode cX5_put 77 = .ok (.getfield 83, 3) := by decide +kernel
theorem dX5_put_80 : decode cX5_put 80 = .ok (.invokevirtual 127, 3) := by decide +kernel
theorem dX5_put_83 : decode cX5_put 83 = .ok (.ifCond .eq 6, 3) := by decide +kernel
theorem dX5_put_86 : decode cX5_put 86 = .ok (.bipush (-104), 2) := by decide +kernel
theorem dX5_put_88 : decode cX5_put 88 = .ok (.ireturn, 1) := by decide +kernel
theorem dX5_put_89 : decode cX5_put 89 = .ok (.aload_n 0, 1) := by decide +kernel
theorem dX5_put_90 : decode cX5_put 90 = .ok (.getfield 19, 3) := by decide +kernel
theorem dX5_put_93 : decode cX5_put 93 = .ok (.iload_n 1, 1) := by decide +kernel
theorem dX5_put_94 : decode cX5_put 94 = .ok (.iload_n 2, 1) := by decide +kernel
theorem dX5_put_95 : decode cX5_put 95 = .ok (.iload_n 3, 1) := by decide +kernel
theorem dX5_put_96 : decode cX5_put 96 = .ok (.invokevirtual 69, 3) := by decide +kernel
theorem dX5_put_99 : decode cX5_put 99 = .ok (.ireturn, 1) := by decide +kernel
set_option maxRecDepth 20000 in
theorem ggX5_take_X4_has : GoodIn wsX5_take wsX4_has := goodIn_r _ [9, 10, 116, 117, 118, 119, 120, 121, 122, 123, 124, 125, 126, 127] (by decide +kernel) (by decide +kernel)
set_option maxRecDepth 20000 in
theorem gX5_take_X4_has : GoodIn wsX5_take (wsV RX5 89 RX4 yX4_has wsX4_has) := goodIn_app (goodIn_of _ (by decide +kernel)) ggX5_take_X4_has
set_option maxRecDepth 20000 in
theorem ggX5_take_X5_isAble : GoodIn wsX5_take wsX5_isAble := goodIn_r _ [14, 15] (by decide +kernel) (by decide +kernel)
set_option maxRecDepth 20000 in
theorem gX5_take_X5_isAble : GoodIn wsX5_take (va_wsS RX5 124 yX5_isAble wsX5_isAble) := goodIn_app (goodIn_of _ (by decide +kernel)) ggX5_take_X5_isAble
set_option maxRecDepth 20000 in
theorem ggX5_take_X3_remove : GoodIn wsX5_take wsX3_remove := goodIn_r _ [20, 21, 22, 23, 24, 25, 26, 27, 28, 29, 30, 31, 32, 33, 34, 8, 35, 36, 37, 38, 39, 40, 6, 7, 9, 10, 41, 42, 43, 44, 45, 46, 47, 48, 49, 50, 51, 52, 53, 54, 55, 56, 57, 58, 59, 60, 61, 62, 63, 64, 65, 66, 67, 68, 69, 70, 71, 72, 73, 74, 75, 76, 77, 78, 79, 80, 81, 82, 83, 84, 85, 86, 87, 88, 89, 90, 91, 92, 93, 94, 19, 95, 96, 97, 98, 99, 100, 108, 109, 110, 111, 112, 113, 114, 115, 128, 129, 116, 117, 118, 119, 120, 121, 122, 123, 124, 125, 126, 127] (by decide +kernel) (by decide +kernel)
set_option maxRecDepth 20000 in
theorem gX5_take_X3_remove : GoodIn wsX5_take (wsV RX5 130 RX3 yX3_remove wsX3_remove) := goodIn_app (goodIn_of _ (by decide +kernel)) ggX5_take_X3_remove
theorem dX5_take_0 : decode cX5_take 0 = .ok (.aload_n 0, 1) := by decide +kernel
theorem dX5_take_1 : decode cX5_take 1 = .ok (.getfield 19, 3) := by decide +kernel
theorem dX5_take_4 : decode cX5_take 4 = .ok (.getfield 83, 3) := by decide +kernel
theorem dX5_take_7 : decode cX5_take 7 = .ok (.iload_n 1, 1) := by decide +kernel
theorem dX5_take_8 : decode cX5_take 8 = .ok (.invokevirtual 89, 3) := by decide +kernel
theorem dX5_take_11 : decode cX5_take 11 = .ok (.ifCond .ne 6, 3) := by decide +kernel
theorem dX5_take_14 : decode cX5_take 14 = .ok (.bipush (-101), 2) := by decide +kernel
theorem dX5_take_16 : decode cX5_take 16 = .ok (.ireturn, 1) := by decide +kernel
theorem dX5_take_17 : decode cX5_take 17 = .ok (.aload_n 0, 1) := by decide +kernel
theorem dX5_take_18 : decode cX5_take 18 = .ok (.getfield 19, 3) := by decide +kernel
theorem dX5_take_21 : decode cX5_take 21 = .ok (.getfield 92, 3) := by decide +kernel
theorem dX5_take_24 : decode cX5_take 24 = .ok (.iload_n 1, 1) := by decide +kernel
theorem dX5_take_25 : decode cX5_take 25 = .ok (.iaload, 1) := by decide +kernel
theorem dX5_take_26 : decode cX5_take 26 = .ok (.iconst 0, 1) := by decide +kernel
