theorem dX4_init_0 : decode cX4_init 0 = .ok (.aload_n 0, 1) := by decide +kernel
theorem dX4_init_1 : decode cX4_init 1 = .ok (.invokespecial 3, 3) := by decide +kernel
theorem dX4_init_4 : decode cX4_init 4 = .ok (.aload_n 0, 1) := by decide +kernel
theorem dX4_init_5 : decode cX4_init 5 = .ok (.bipush 100, 2) := by decide +kernel
theorem dX4_init_7 : decode cX4_init 7 = .ok (.newarray .int, 2) := by decide +kernel
theorem dX4_init_9 : decode cX4_init 9 = .ok (.putfield 9, 3) := by decide +kernel
theorem dX4_init_12 : decode cX4_init 12 = .ok (.aload_n 0, 1) := by decide +kernel
theorem dX4_init_13 : decode cX4_init 13 = .ok (.bipush 100, 2) := by decide +kernel
theorem dX4_init_15 : decode cX4_init 15 = .ok (.newarray .int, 2) := by decide +kernel
theorem dX4_init_17 : decode cX4_init 17 = .ok (.putfield 15, 3) := by decide +kernel
theorem dX4_init_20 : decode cX4_init 20 = .ok (.aload_n 0, 1) := by decide +kernel
theorem dX4_init_21 : decode cX4_init 21 = .ok (.bipush 100, 2) := by decide +kernel
theorem dX4_init_23 : decode cX4_init 23 = .ok (.newarray .int, 2) := by decide +kernel
theorem dX4_init_25 : decode cX4_init 25 = .ok (.putfield 18, 3) := by decide +kernel
theorem dX4_init_28 : decode cX4_init 28 = .ok (.aload_n 0, 1) := by decide +kernel
theorem dX4_init_29 : decode cX4_init 29 = .ok (.bipush 40, 2) := by decide +kernel
theorem dX4_init_31 : decode cX4_init 31 = .ok (.newarray .int, 2) := by decide +kernel
theorem dX4_init_33 : decode cX4_init 33 = .ok (.putfield 21, 3) := by decide +kernel
theorem dX4_init_36 : decode cX4_init 36 = .ok (.aload_n 0, 1) := by decide +kernel
theorem dX4_init_37 : decode cX4_init 37 = .ok (.bipush 40, 2) := by decide +kernel
theorem dX4_init_39 : decode cX4_init 39 = .ok (.newarray .int, 2) := by decide +kernel
theorem dX4_init_41 : decode cX4_init 41 = .ok (.putfield 24, 3) := by decide +kernel
theorem dX4_init_44 : decode cX4_init 44 = .ok (.aload_n 0, 1) := by decide +kernel
theorem dX4_init_45 : decode cX4_init 45 = .ok (.iconst (-1), 1) := by decide +kernel
theorem dX4_init_46 : decode cX4_init 46 = .ok (.putfield 27, 3) := by decide +kernel
theorem dX4_init_49 : decode cX4_init 49 = .ok (.return_, 1) := by decide +kernel
set_option maxRecDepth 20000 in
theorem ggX4_begin_J7_fill_53178 : GoodIn wsX4_begin wsJ7_fill_53178 := goodIn_r _ [12] (by decide +kernel) (by decide +kernel)
set_option maxRecDepth 20000 in
theorem gX4_begin_J7_fill_53178 : GoodIn wsX4_begin (va_wsS RX4 31 yJ7_fill_53178 wsJ7_fill_53178) := goodIn_app (goodIn_of _ (by decide +kernel)) ggX4_begin_J7_fill_53178
theorem dX4_begin_0 : decode cX4_begin 0 = .ok (.aload_n 0, 1) := by decide +kernel
theorem dX4_begin_1 : decode cX4_begin 1 = .ok (.getfield 18, 3) := by decide +kernel
theorem dX4_begin_4 : decode cX4_begin 4 = .ok (.iconst 0, 1) := by decide +kernel
theorem dX4_begin_5 : decode cX4_begin 5 = .ok (.invokestatic 31, 3) := by decide +kernel
theorem dX4_begin_8 : decode cX4_begin 8 = .ok (.aload_n 0, 1) := by decide +kernel
theorem dX4_begin_9 : decode cX4_begin 9 = .ok (.iconst (-1), 1) := by decide +kernel
theorem dX4_begin_10 : decode cX4_begin 10 = .ok (.putfield 27, 3) := by decide +kernel
theorem dX4_begin_13 : decode cX4_begin 13 = .ok (.aload_n 0, 1) := by decide +kernel
theorem dX4_begin_14 : decode cX4_begin 14 = .ok (.iload_n 1, 1) := by decide +kernel
theorem dX4_begin_15 : decode cX4_begin 15 = .ok (.putfield 37, 3) := by decide +kernel
theorem dX4_begin_18 : decode cX4_begin 18 = .ok (.aload_n 0, 1) := by decide +kernel
theorem dX4_begin_19 : decode cX4_begin 19 = .ok (.iload_n 2, 1) := by decide +kernel
theorem dX4_begin_20 : decode cX4_begin 20 = .ok (.putfield 40, 3) := by decide +kernel
theorem dX4_begin_23 : decode cX4_begin 23 = .ok (.aload_n 0, 1) := by decide +kernel
theorem dX4_begin_24 : decode cX4_begin 24 = .ok (.iconst 0, 1) := by decide +kernel
theorem dX4_begin_25 : decode cX4_begin 25 = .ok (.putfield 43, 3) := by decide +kernel
theorem dX4_begin_28 : decode cX4_begin 28 = .ok (.aload_n 0, 1) := by decide +kernel
theorem dX4_begin_29 : decode cX4_begin 29 = .ok (.iconst 0, 1) := by decide +kernel
theorem dX4_begin_30 : decode cX4_begin 30 = .ok (.putfield 46, 3) := by decide +kernel
theorem dX4_begin_33 : decode cX4_begin 33 = .ok (.aload_n 0, 1) := by decide +kernel
theorem dX4_begin_34 : decode cX4_begin 34 = .ok (.iconst 0, 1) := by decide +kernel
theorem dX4_begin_35 : decode cX4_begin 35 = .ok (.putfield 49, 3) := by decide +kernel
theorem dX4_begin_38 : decode cX4_begin 38 = .ok (.aload_n 0, 1) := by decide +kernel
theorem dX4_begin_39 : decode cX4_begin 39 = .ok (.iconst 0, 1) := by decide +kernel
theorem dX4_begin_40 : decode cX4_begin 40 = .ok (.putfield 52, 3) := by decide +kernel
theorem dX4_begin_43 : decode cX4_begin 43 = .ok (.return_, 1) := by decide +kernel
theorem dX4_copy_0 : decode cX4_copy 0 = .ok (.aload_n 1, 1) := by decide +kernel
theorem dX4_copy_1 : decode cX4_copy 1 = .ok (.getfield 9, 3) := by decide +kernel
theorem dX4_copy_4 : decode cX4_copy 4 = .ok (.iconst 0, 1) := by decide +kernel
theorem dX4_copy_5 : decode cX4_copy 5 = .ok (.aload_n 0, 1) := by decide +kernel
theorem dX4_copy_6 : decode cX4_copy 6 = .ok (.getfield 9, 3) := by decide +kernel
theorem dX4_copy_9 : decode cX4_copy 9 = .ok (.iconst 0, 1) := by decide +kernel
theorem dX4_copy_10 : decode cX4_copy 10 = .ok (.bipush 100, 2) := by decide +kernel
theorem dX4_copy_12 : decode cX4_copy 12 = .ok (.invokestatic 55, 3) := by decide +kernel
theorem dX4_copy_15 : decode cX4_copy 15 = .ok (.aload_n 1, 1) := by decide +kernel
theorem dX4_copy_16 : decode cX4_copy 16 = .ok (.getfield 15, 3) := by decide +kernel
theorem dX4_copy_19 : decode cX4_copy 19 = .ok (.iconst 0, 1) := by decide +kernel
theorem dX4_copy_20 : decode cX4_copy 20 = .ok (.aload_n 0, 1) := by decide +kernel
theorem dX4_copy_21 : decode cX4_copy 21 = .ok (.getfield 15, 3) := by decide +kernel
theorem dX4_copy_24 : decode cX4_copy 24 = .ok (.iconst 0, 1) := by decide +kernel
theorem dX4_copy_25 : decode cX4_copy 25 = .ok (.bipush 100, 2) := by decide +kernel
theorem dX4_copy_27 : decode cX4_copy 27 = .ok (.invokestatic 55, 3) := by decide +kernel
theorem dX4_copy_30 : decode cX4_copy 30 = .ok (.aload_n 1, 1) := by decide +kernel
theorem dX4_copy_31 : decode cX4_copy 31 = .ok (.getfield 18, 3) := by decide +kernel
theorem dX4_copy_34 : decode cX4_copy 34 = .ok (.iconst 0, 1) := by decide +kernel
theorem dX4_copy_35 : decode cX4_copy 35 = .ok (.aload_n 0, 1) := by decide +kernel
theorem dX4_copy_36 : decode cX4_copy 36 = .ok (.getfield 18, 3) := by decide +kernel
theorem dX4_copy_39 : decode cX4_copy 39 = .ok (.iconst 0, 1) := by decide +kernel
theorem dX4_copy_40 : decode cX4_copy 40 = .ok (.bipush 100, 2) := by decide +kernel
theorem dX4_copy_42 : decode cX4_copy 42 = .ok (.invokestatic 55, 3) := by decide +kernel
theorem dX4_copy_45 : decode cX4_copy 45 = .ok (.aload_n 0, 1) := by decide +kernel
theorem dX4_copy_46 : decode cX4_copy 46 = .ok (.aload_n 1, 1) := by decide +kernel
theorem dX4_copy_47 : decode cX4_copy 47 = .ok (.getfield 27, 3) := by decide +kernel
theorem dX4_copy_50 : decode cX4_copy 50 = .ok (.putfield 27, 3) := by decide +kernel
theorem dX4_copy_53 : decode cX4_copy 53 = .ok (.aload_n 0, 1) := by decide +kernel
theorem dX4_copy_54 : decode cX4_copy 54 = .ok (.aload_n 1, 1) := by decide +kernel
theorem dX4_copy_55 : decode cX4_copy 55 = .ok (.getfield 37, 3) := by decide +kernel
theorem dX4_copy_58 : decode cX4_copy 58 = .ok (.putfield 37, 3) := by decide +kernel
theorem dX4_copy_61 : decode cX4_copy 61 = .ok (.aload_n 0, 1) := by decide +kernel
theorem dX4_copy_62 : decode cX4_copy 62 = .ok (.aload_n 1, 1) := by decide +kernel
theorem dX4_copy_63 : decode cX4_copy 63 = .ok (.getfield 40, 3) := by decide +kernel
theorem dX4_copy_66 : decode cX4_copy 66 = .ok (.putfield 40, 3) := by decide +kernel
theorem dX4_copy_69 : decode cX4_copy 69 = .ok (.aload_n 0, 1) := by decide +kernel
theorem dX4_copy_70 : decode cX4_copy 70 = .ok (.aload_n 1, 1) := by decide +kernel
theorem dX4_copy_71 : decode cX4_copy 71 = .ok (.getfield 43, 3) := by decide +kernel
theorem dX4_copy_74 : decode cX4_copy 74 = .ok (.putfield 43, 3) := by decide +kernel
theorem dX4_copy_77 : decode cX4_copy 77 = .ok (.aload_n 0, 1) := by decide +kernel
theorem dX4_copy_78 : decode cX4_copy 78 = .ok (.aload_n 1, 1) := by decide +kernel
theorem dX4_copy_79 : decode cX4_copy 79 = .ok (.getfield 46, 3) := by decide +kernel
theorem dX4_copy_82 : decode cX4_copy 82 = .ok (.putfield 46, 3) := by decide +kernel
theorem dX4_copy_85 : decode cX4_copy 85 = .ok (.aload_n 0, 1) := by decide +kernel
theorem dX4_copy_86 : decode cX4_copy 86 = .ok (.aload_n 1, 1) := by decide +kernel
theorem dX4_copy_87 : decode cX4_copy 87 = .ok (.getfield 49, 3) := by decide +kernel
theorem dX4_copy_90 : decode cX4_copy 90 = .ok (.putfield 49, 3) := by decide +kernel
theorem dX4_copy_93 : decode cX4_copy 93 = .ok (.aload_n 0, 1) := by decide +kernel
theorem dX4_copy_94 : decode cX4_copy 94 = .ok (.aload_n 1, 1) := by decide +kernel
theorem dX4_copy_95 : decode cX4_copy 95 = .ok (.getfield 52, 3) := by decide +kernel
theorem dX4_copy_98 : decode cX4_copy 98 = .ok (.putfield 52, 3) := by decide +kernel
theorem dX4_copy_101 : decode cX4_copy 101 = .ok (.return_, 1) := by decide +kernel
theorem dX4_has_0 : decode cX4_has 0 = .ok (.iload_n 1, 1) := by decide +kernel
theorem dX4_has_1 : decode cX4_has 1 = .ok (.ifCond .lt 22, 3) := by decide +kernel
theorem dX4_has_4 : decode cX4_has 4 = .ok (.iload_n 1, 1) := by decide +kernel
theorem dX4_has_5 : decode cX4_has 5 = .ok (.bipush 100, 2) := by decide +kernel
theorem dX4_has_7 : decode cX4_has 7 = .ok (.if_icmp .ge 16, 3) := by decide +kernel
theorem dX4_has_10 : decode cX4_has 10 = .ok (.aload_n 0, 1) := by decide +kernel
theorem dX4_has_11 : decode cX4_has 11 = .ok (.getfield 18, 3) := by decide +kernel
theorem dX4_has_14 : decode cX4_has 14 = .ok (.iload_n 1, 1) := by decide +kernel
theorem dX4_has_15 : decode cX4_has 15 = .ok (.iaload, 1) := by decide +kernel
theorem dX4_has_16 : decode cX4_has 16 = .ok (.ifCond .le 7, 3) := by decide +kernel
theorem dX4_has_19 : decode cX4_has 19 = .ok (.iconst 1, 1) := by decide +kernel
theorem dX4_has_20 : decode cX4_has 20 = .ok (.goto 4, 3) := by decide +kernel
theorem dX4_has_23 : decode cX4_has 23 = .ok (.iconst 0, 1) := by decide +kernel
theorem dX4_has_24 : decode cX4_has 24 = .ok (.ireturn, 1) := by decide +kernel
theorem dX4_isFull_0 : decode cX4_isFull 0 = .ok (.aload_n 0, 1) := by decide +kernel
theorem dX4_isFull_1 : decode cX4_isFull 1 = .ok (.getfield 43, 3) := by decide +kernel
theorem dX4_isFull_4 : decode cX4_isFull 4 = .ok (.bipush 40, 2) := by decide +kernel
theorem dX4_isFull_6 : decode cX4_isFull 6 = .ok (.if_icmp .lt 7, 3) := by decide +kernel
theorem dX4_isFull_9 : decode cX4_isFull 9 = .ok (.iconst 1, 1) := by decide +kernel
theorem dX4_isFull_10 : decode cX4_isFull 10 = .ok (.goto 4, 3) := by decide +kernel
theorem dX4_isFull_13 : decode cX4_isFull 13 = .ok (.iconst 0, 1) := by decide +kernel
theorem dX4_isFull_14 : decode cX4_isFull 14 = .ok (.ireturn, 1) := by decide +kernel
theorem dX4_isFew_0 : decode cX4_isFew 0 = .ok (.iload_n 1, 1) := by decide +kernel
theorem dX4_isFew_1 : decode cX4_isFew 1 = .ok (.ifCond .le 25, 3) := by decide +kernel
theorem dX4_isFew_4 : decode cX4_isFew 4 = .ok (.aload_n 0, 1) := by decide +kernel
theorem dX4_isFew_5 : decode cX4_isFew 5 = .ok (.getfield 40, 3) := by decide +kernel
theorem dX4_isFew_8 : decode cX4_isFew 8 = .ok (.iload_n 1, 1) := by decide +kernel
theorem dX4_isFew_9 : decode cX4_isFew 9 = .ok (.imul, 1) := by decide +kernel
theorem dX4_isFew_10 : decode cX4_isFew 10 = .ok (.aload_n 0, 1) := by decide +kernel
theorem dX4_isFew_11 : decode cX4_isFew 11 = .ok (.getfield 37, 3) := by decide +kernel
theorem dX4_isFew_14 : decode cX4_isFew 14 = .ok (.aload_n 0, 1) := by decide +kernel
theorem dX4_isFew_15 : decode cX4_isFew 15 = .ok (.getfield 46, 3) := by decide +kernel
theorem dX4_isFew_18 : decode cX4_isFew 18 = .ok (.imul, 1) := by decide +kernel
theorem dX4_isFew_19 : decode cX4_isFew 19 = .ok (.if_icmp .ge 7, 3) := by decide +kernel
theorem dX4_isFew_22 : decode cX4_isFew 22 = .ok (.iconst 1, 1) := by decide +kernel
theorem dX4_isFew_23 : decode cX4_isFew 23 = .ok (.goto 4, 3) := by decide +kernel
theorem dX4_isFew_26 : decode cX4_isFew 26 = .ok (.iconst 0, 1) := by decide +kernel
theorem dX4_isFew_27 : decode cX4_isFew 27 = .ok (.ireturn, 1) := by decide +kernel
theorem dX4_limit_0 : decode cX4_limit 0 = .ok (.iconst 0, 1) := by decide +kernel
theorem dX4_limit_1 : decode cX4_limit 1 = .ok (.istore_n 2, 1) := by decide +kernel
theorem dX4_limit_2 : decode cX4_limit 2 = .ok (.aload_n 0, 1) := by decide +kernel
theorem dX4_limit_3 : decode cX4_limit 3 = .ok (.getfield 40, 3) := by decide +kernel
theorem dX4_limit_6 : decode cX4_limit 6 = .ok (.i2l, 1) := by decide +kernel
theorem dX4_limit_7 : decode cX4_limit 7 = .ok (.lstore_n 3, 1) := by decide +kernel
theorem dX4_limit_8 : decode cX4_limit 8 = .ok (.iload_n 1, 1) := by decide +kernel
theorem dX4_limit_9 : decode cX4_limit 9 = .ok (.i2l, 1) := by decide +kernel
theorem dX4_limit_10 : decode cX4_limit 10 = .ok (.aload_n 0, 1) := by decide +kernel
theorem dX4_limit_11 : decode cX4_limit 11 = .ok (.getfield 37, 3) := by decide +kernel
theorem dX4_limit_14 : decode cX4_limit 14 = .ok (.i2l, 1) := by decide +kernel
theorem dX4_limit_15 : decode cX4_limit 15 = .ok (.lmul, 1) := by decide +kernel
theorem dX4_limit_16 : decode cX4_limit 16 = .ok (.lstore 5, 2) := by decide +kernel
theorem dX4_limit_18 : decode cX4_limit 18 = .ok (.iload_n 2, 1) := by decide +kernel
theorem dX4_limit_19 : decode cX4_limit 19 = .ok (.bipush 20, 2) := by decide +kernel
theorem dX4_limit_21 : decode cX4_limit 21 = .ok (.if_icmp .ge 34, 3) := by decide +kernel
theorem dX4_limit_24 : decode cX4_limit 24 = .ok (.lload_n 3, 1) := by decide +kernel
theorem dX4_limit_25 : decode cX4_limit 25 = .ok (.lload 5, 2) := by decide +kernel
theorem dX4_limit_27 : decode cX4_limit 27 = .ok (.lcmp, 1) := by decide +kernel
theorem dX4_limit_28 : decode cX4_limit 28 = .ok (.ifCond .gt 27, 3) := by decide +kernel
theorem dX4_limit_31 : decode cX4_limit 31 = .ok (.iinc 2 1, 3) := by decide +kernel
theorem dX4_limit_34 : decode cX4_limit 34 = .ok (.lload_n 3, 1) := by decide +kernel
theorem dX4_limit_35 : decode cX4_limit 35 = .ok (.aload_n 0, 1) := by decide +kernel
theorem dX4_limit_36 : decode cX4_limit 36 = .ok (.getfield 40, 3) := by decide +kernel
theorem dX4_limit_39 : decode cX4_limit 39 = .ok (.i2l, 1) := by decide +kernel
theorem dX4_limit_40 : decode cX4_limit 40 = .ok (.lmul, 1) := by decide +kernel
theorem dX4_limit_41 : decode cX4_limit 41 = .ok (.lstore_n 3, 1) := by decide +kernel
theorem dX4_limit_42 : decode cX4_limit 42 = .ok (.lload 5, 2) := by decide +kernel
theorem dX4_limit_44 : decode cX4_limit 44 = .ok (.aload_n 0, 1) := by decide +kernel
theorem dX4_limit_45 : decode cX4_limit 45 = .ok (.getfield 37, 3) := by decide +kernel
theorem dX4_limit_48 : decode cX4_limit 48 = .ok (.i2l, 1) := by decide +kernel
theorem dX4_limit_49 : decode cX4_limit 49 = .ok (.lmul, 1) := by decide +kernel
theorem dX4_limit_50 : decode cX4_limit 50 = .ok (.lstore 5, 2) := by decide +kernel
theorem dX4_limit_52 : decode cX4_limit 52 = .ok (.goto (-34), 3) := by decide +kernel
theorem dX4_limit_55 : decode cX4_limit 55 = .ok (.iload_n 2, 1) := by decide +kernel
theorem dX4_limit_56 : decode cX4_limit 56 = .ok (.ireturn, 1) := by decide +kernel
set_option maxRecDepth 20000 in
theorem ggX4_walk_X4_has : GoodIn wsX4_walk wsX4_has := goodIn_r _ [9, 10, 11, 12, 13, 14, 15, 16, 17, 18, 19, 20, 21, 22] (by decide +kernel) (by decide +kernel)
set_option maxRecDepth 20000 in
theorem gX4_walk_X4_has : GoodIn wsX4_walk (wsV RX4 61 RX4 yX4_has wsX4_has) := goodIn_app (goodIn_of _ (by decide +kernel)) ggX4_walk_X4_has
theorem dX4_walk_0 : decode cX4_walk 0 = .ok (.iconst 0, 1) := by decide +kernel
theorem dX4_walk_1 : decode cX4_walk 1 = .ok (.istore_n 2, 1) := by decide +kernel
theorem dX4_walk_2 : decode cX4_walk 2 = .ok (.aload_n 0, 1) := by decide +kernel
theorem dX4_walk_3 : decode cX4_walk 3 = .ok (.getfield 27, 3) := by decide +kernel
theorem dX4_walk_6 : decode cX4_walk 6 = .ok (.istore_n 3, 1) := by decide +kernel
theorem dX4_walk_7 : decode cX4_walk 7 = .ok (.aload_n 0, 1) := by decide +kernel
theorem dX4_walk_8 : decode cX4_walk 8 = .ok (.iload_n 3, 1) := by decide +kernel
theorem dX4_walk_9 : decode cX4_walk 9 = .ok (.invokevirtual 61, 3) := by decide +kernel
theorem dX4_walk_12 : decode cX4_walk 12 = .ok (.ifCond .eq 55, 3) := by decide +kernel
theorem dX4_walk_15 : decode cX4_walk 15 = .ok (.iload_n 2, 1) := by decide +kernel
theorem dX4_walk_16 : decode cX4_walk 16 = .ok (.aload_n 0, 1) := by decide +kernel
theorem dX4_walk_17 : decode cX4_walk 17 = .ok (.getfield 21, 3) := by decide +kernel
theorem dX4_walk_20 : decode cX4_walk 20 = .ok (.arraylength, 1) := by decide +kernel
theorem dX4_walk_21 : decode cX4_walk 21 = .ok (.if_icmp .ge 46, 3) := by decide +kernel
theorem dX4_walk_24 : decode cX4_walk 24 = .ok (.aload_n 0, 1) := by decide +kernel
theorem dX4_walk_25 : decode cX4_walk 25 = .ok (.getfield 21, 3) := by decide +kernel
theorem dX4_walk_28 : decode cX4_walk 28 = .ok (.iload_n 2, 1) := by decide +kernel
theorem dX4_walk_29 : decode cX4_walk 29 = .ok (.iload_n 3, 1) := by decide +kernel
theorem dX4_walk_30 : decode cX4_walk 30 = .ok (.iastore, 1) := by decide +kernel
theorem dX4_walk_31 : decode cX4_walk 31 = .ok (.iinc 2 1, 3) := by decide +kernel
theorem dX4_walk_34 : decode cX4_walk 34 = .ok (.iload_n 1, 1) := by decide +kernel
theorem dX4_walk_35 : decode cX4_walk 35 = .ok (.iload_n 3, 1) := by decide +kernel
theorem dX4_walk_36 : decode cX4_walk 36 = .ok (.if_icmp .ne 7, 3) := by decide +kernel
theorem dX4_walk_39 : decode cX4_walk 39 = .ok (.iconst (-1), 1) := by decide +kernel
theorem dX4_walk_40 : decode cX4_walk 40 = .ok (.goto 23, 3) := by decide +kernel
theorem dX4_walk_43 : decode cX4_walk 43 = .ok (.iload_n 1, 1) := by decide +kernel
theorem dX4_walk_44 : decode cX4_walk 44 = .ok (.iload_n 3, 1) := by decide +kernel
theorem dX4_walk_45 : decode cX4_walk 45 = .ok (.if_icmp .ge 12, 3) := by decide +kernel
theorem dX4_walk_48 : decode cX4_walk 48 = .ok (.aload_n 0, 1) := by decide +kernel
theorem dX4_walk_49 : decode cX4_walk 49 = .ok (.getfield 9, 3) := by decide +kernel
theorem dX4_walk_52 : decode cX4_walk 52 = .ok (.iload_n 3, 1) := by decide +kernel
theorem dX4_walk_53 : decode cX4_walk 53 = .ok (.iaload, 1) := by decide +kernel
theorem dX4_walk_54 : decode cX4_walk 54 = .ok (.goto 9, 3) := by decide +kernel
theorem dX4_walk_57 : decode cX4_walk 57 = .ok (.aload_n 0, 1) := by decide +kernel
theorem dX4_walk_58 : decode cX4_walk 58 = .ok (.getfield 15, 3) := by decide +kernel
theorem dX4_walk_61 : decode cX4_walk 61 = .ok (.iload_n 3, 1) := by decide +kernel
theorem dX4_walk_62 : decode cX4_walk 62 = .ok (.iaload, 1) := by decide +kernel
theorem dX4_walk_63 : decode cX4_walk 63 = .ok (.istore_n 3, 1) := by decide +kernel
theorem dX4_walk_64 : decode cX4_walk 64 = .ok (.goto (-57), 3) := by decide +kernel
theorem dX4_walk_67 : decode cX4_walk 67 = .ok (.iload_n 2, 1) := by decide +kernel
theorem dX4_walk_68 : decode cX4_walk 68 = .ok (.ireturn, 1) := by decide +kernel
set_option maxRecDepth 20000 in
theorem ggX4_above_X4_walk : GoodIn wsX4_above wsX4_walk := goodIn_r _ [5, 6, 7, 8, 9, 10, 11, 12, 4, 13, 14, 19, 20, 21, 22, 23, 24, 25, 26, 27, 28, 29, 30] (by decide +kernel) (by decide +kernel)
set_option maxRecDepth 20000 in
theorem gX4_above_X4_walk : GoodIn wsX4_above (wsV RX4 65 RX4 yX4_walk wsX4_walk) := goodIn_app (goodIn_of _ (by decide +kernel)) ggX4_above_X4_walk
set_option maxRecDepth 20000 in
theorem ggX4_above_X4_onWay : GoodIn wsX4_above wsX4_onWay := goodIn_r _ [18, 7, 19, 20, 21, 22, 23, 24, 25, 26, 27, 28, 29, 30] (by decide +kernel) (by decide +kernel)
set_option maxRecDepth 20000 in
theorem gX4_above_X4_onWay : GoodIn wsX4_above (wsV RX4 69 RX4 yX4_onWay wsX4_onWay) := goodIn_app (goodIn_of _ (by decide +kernel)) ggX4_above_X4_onWay
theorem dX4_above_0 : decode cX4_above 0 = .ok (.aload_n 0, 1) := by decide +kernel
theorem dX4_above_1 : decode cX4_above 1 = .ok (.aload_n 0, 1) := by decide +kernel
theorem dX4_above_2 : decode cX4_above 2 = .ok (.iload_n 1, 1) := by decide +kernel
theorem dX4_above_3 : decode cX4_above 3 = .ok (.invokevirtual 65, 3) := by decide +kernel
theorem dX4_above_6 : decode cX4_above 6 = .ok (.iconst 2, 1) := by decide +kernel
theorem dX4_above_7 : decode cX4_above 7 = .ok (.isub, 1) := by decide +kernel
theorem dX4_above_8 : decode cX4_above 8 = .ok (.invokevirtual 69, 3) := by decide +kernel
theorem dX4_above_11 : decode cX4_above 11 = .ok (.ireturn, 1) := by decide +kernel
set_option maxRecDepth 20000 in
theorem ggX4_lesser_X4_has : GoodIn wsX4_lesser wsX4_has := goodIn_r _ [5, 6, 7, 8, 9, 10, 11, 12, 13, 14, 15, 16, 17, 18] (by decide +kernel) (by decide +kernel)
set_option maxRecDepth 20000 in
theorem gX4_lesser_X4_has : GoodIn wsX4_lesser (wsV RX4 61 RX4 yX4_has wsX4_has) := goodIn_app (goodIn_of _ (by decide +kernel)) ggX4_lesser_X4_has
theorem dX4_lesser_0 : decode cX4_lesser 0 = .ok (.iconst 0, 1) := by decide +kernel
theorem dX4_lesser_1 : decode cX4_lesser 1 = .ok (.istore_n 2, 1) := by decide +kernel
theorem dX4_lesser_2 : decode cX4_lesser 2 = .ok (.iconst 0, 1) := by decide +kernel
theorem dX4_lesser_3 : decode cX4_lesser 3 = .ok (.istore_n 3, 1) := by decide +kernel
theorem dX4_lesser_4 : decode cX4_lesser 4 = .ok (.iload_n 3, 1) := by decide +kernel
theorem dX4_lesser_5 : decode cX4_lesser 5 = .ok (.iload_n 1, 1) := by decide +kernel
theorem dX4_lesser_6 : decode cX4_lesser 6 = .ok (.if_icmp .ge 26, 3) := by decide +kernel
theorem dX4_lesser_9 : decode cX4_lesser 9 = .ok (.iload_n 3, 1) := by decide +kernel
theorem dX4_lesser_10 : decode cX4_lesser 10 = .ok (.bipush 100, 2) := by decide +kernel
theorem dX4_lesser_12 : decode cX4_lesser 12 = .ok (.if_icmp .ge 20, 3) := by decide +kernel
theorem dX4_lesser_15 : decode cX4_lesser 15 = .ok (.aload_n 0, 1) := by decide +kernel
theorem dX4_lesser_16 : decode cX4_lesser 16 = .ok (.iload_n 3, 1) := by decide +kernel
theorem dX4_lesser_17 : decode cX4_lesser 17 = .ok (.invokevirtual 61, 3) := by decide +kernel
theorem dX4_lesser_20 : decode cX4_lesser 20 = .ok (.ifCond .eq 6, 3) := by decide +kernel
theorem dX4_lesser_23 : decode cX4_lesser 23 = .ok (.iinc 2 1, 3) := by decide +kernel
theorem dX4_lesser_26 : decode cX4_lesser 26 = .ok (.iinc 3 1, 3) := by decide +kernel
theorem dX4_lesser_29 : decode cX4_lesser 29 = .ok (.goto (-25), 3) := by decide +kernel
theorem dX4_lesser_32 : decode cX4_lesser 32 = .ok (.iload_n 2, 1) := by decide +kernel
theorem dX4_lesser_33 : decode cX4_lesser 33 = .ok (.ireturn, 1) := by decide +kernel
set_option maxRecDepth 20000 in
theorem ggX4_tall_X4_has : GoodIn wsX4_tall wsX4_has := goodIn_r _ [9, 10, 19, 20, 21, 22, 23, 24, 25, 26, 27, 28, 29, 30] (by decide +kernel) (by decide +kernel)
set_option maxRecDepth 20000 in
theorem gX4_tall_X4_has : GoodIn wsX4_tall (wsV RX4 61 RX4 yX4_has wsX4_has) := goodIn_app (goodIn_of _ (by decide +kernel)) ggX4_tall_X4_has
set_option maxRecDepth 20000 in
theorem ggX4_tall_X4_walk : GoodIn wsX4_tall wsX4_walk := goodIn_r _ [14, 15, 16, 17, 18, 5, 6, 7, 8, 9, 10, 19, 20, 21, 22, 23, 24, 25, 26, 27, 28, 29, 30] (by decide +kernel) (by decide +kernel)
set_option maxRecDepth 20000 in
theorem gX4_tall_X4_walk : GoodIn wsX4_tall (wsV RX4 65 RX4 yX4_walk wsX4_walk) := goodIn_app (goodIn_of _ (by decide +kernel)) ggX4_tall_X4_walk
theorem dX4_tall_0 : decode cX4_tall 0 = .ok (.iconst (-1), 1) := by decide +kernel
theorem dX4_tall_1 : decode cX4_tall 1 = .ok (.istore_n 1, 1) := by decide +kernel
theorem dX4_tall_2 : decode cX4_tall 2 = .ok (.iconst 0, 1) := by decide +kernel
theorem dX4_tall_3 : decode cX4_tall 3 = .ok (.istore_n 2, 1) := by decide +kernel
theorem dX4_tall_4 : decode cX4_tall 4 = .ok (.iload_n 2, 1) := by decide +kernel
theorem dX4_tall_5 : decode cX4_tall 5 = .ok (.bipush 100, 2) := by decide +kernel
theorem dX4_tall_7 : decode cX4_tall 7 = .ok (.if_icmp .ge 29, 3) := by decide +kernel
theorem dX4_tall_10 : decode cX4_tall 10 = .ok (.aload_n 0, 1) := by decide +kernel
theorem dX4_tall_11 : decode cX4_tall 11 = .ok (.iload_n 2, 1) := by decide +kernel
theorem dX4_tall_12 : decode cX4_tall 12 = .ok (.invokevirtual 61, 3) := by decide +kernel
theorem dX4_tall_15 : decode cX4_tall 15 = .ok (.ifCond .eq 15, 3) := by decide +kernel
theorem dX4_tall_18 : decode cX4_tall 18 = .ok (.iload_n 1, 1) := by decide +kernel
theorem dX4_tall_19 : decode cX4_tall 19 = .ok (.aload_n 0, 1) := by decide +kernel
theorem dX4_tall_20 : decode cX4_tall 20 = .ok (.iload_n 2, 1) := by decide +kernel
theorem dX4_tall_21 : decode cX4_tall 21 = .ok (.invokevirtual 65, 3) := by decide +kernel
theorem dX4_tall_24 : decode cX4_tall 24 = .ok (.iconst 1, 1) := by decide +kernel
theorem dX4_tall_25 : decode cX4_tall 25 = .ok (.isub, 1) := by decide +kernel
theorem dX4_tall_26 : decode cX4_tall 26 = .ok (.invokestatic 72, 3) := by decide +kernel
theorem dX4_tall_29 : decode cX4_tall 29 = .ok (.istore_n 1, 1) := by decide +kernel
theorem dX4_tall_30 : decode cX4_tall 30 = .ok (.iinc 2 1, 3) := by decide +kernel
theorem dX4_tall_33 : decode cX4_tall 33 = .ok (.goto (-29), 3) := by decide +kernel
theorem dX4_tall_36 : decode cX4_tall 36 = .ok (.iload_n 1, 1) := by decide +kernel
theorem dX4_tall_37 : decode cX4_tall 37 = .ok (.ireturn, 1) := by decide +kernel
set_option maxRecDepth 20000 in
theorem ggX4_turn_X4_has : GoodIn wsX4_turn wsX4_has := goodIn_r _ [5, 6, 88, 89, 90, 91, 92, 93, 94, 95, 96, 97, 98, 99] (by decide +kernel) (by decide +kernel)
set_option maxRecDepth 20000 in
theorem gX4_turn_X4_has : GoodIn wsX4_turn (wsV RX4 61 RX4 yX4_has wsX4_has) := goodIn_app (goodIn_of _ (by decide +kernel)) ggX4_turn_X4_has
set_option maxRecDepth 20000 in
theorem ggX4_turn_X4_drop : GoodIn wsX4_turn wsX4_drop := goodIn_r _ [10, 6, 11, 12, 13, 14, 15, 4, 16, 17, 18, 19, 20, 1, 2, 3, 5, 21, 22, 23, 24, 25, 26, 27, 28, 29, 30, 31, 32, 33, 34, 35, 36, 37, 38, 39, 40, 41, 42, 43, 44, 45, 46, 47, 48, 49, 50, 51, 52, 53, 54, 55, 56, 57, 58, 59, 60, 61, 62, 63, 64, 88, 89, 90, 91, 92, 93, 94, 95, 96, 97, 98, 99] (by decide +kernel) (by decide +kernel)
set_option maxRecDepth 20000 in
theorem gX4_turn_X4_drop : GoodIn wsX4_turn (wsV RX4 78 RX4 yX4_drop wsX4_drop) := goodIn_app (goodIn_of _ (by decide +kernel)) ggX4_turn_X4_drop
set_option maxRecDepth 20000 in
theorem ggX4_turn_X4_isFull : GoodIn wsX4_turn wsX4_isFull := goodIn_r _ [68, 11, 88, 89, 90, 91, 92, 93, 94, 95, 96, 97, 98, 99] (by decide +kernel) (by decide +kernel)
set_option maxRecDepth 20000 in
theorem gX4_turn_X4_isFull : GoodIn wsX4_turn (wsV RX4 81 RX4 yX4_isFull wsX4_isFull) := goodIn_app (goodIn_of _ (by decide +kernel)) ggX4_turn_X4_isFull
set_option maxRecDepth 20000 in
theorem ggX4_turn_X4_add : GoodIn wsX4_turn wsX4_add := goodIn_r _ [72, 19, 20, 6, 11, 12, 73, 74, 75, 76, 13, 14, 15, 4, 16, 17, 18, 1, 2, 3, 5, 77, 78, 79, 80, 81, 82, 83, 45, 46, 84, 85, 86, 87, 21, 22, 23, 24, 25, 26, 27, 28, 37, 38, 39, 40, 51, 52, 53, 54, 55, 56, 57, 58, 59, 60, 61, 62, 63, 64, 88, 89, 90, 91, 92, 93, 94, 95, 96, 97, 98, 99] (by decide +kernel) (by decide +kernel)
set_option maxRecDepth 20000 in
theorem gX4_turn_X4_add : GoodIn wsX4_turn (wsV RX4 85 RX4 yX4_add wsX4_add) := goodIn_app (goodIn_of _ (by decide +kernel)) ggX4_turn_X4_add
theorem dX4_turn_0 : decode cX4_turn 0 = .ok (.aload_n 0, 1) := by decide +kernel
theorem dX4_turn_1 : decode cX4_turn 1 = .ok (.iload_n 1, 1) := by decide +kernel
theorem dX4_turn_2 : decode cX4_turn 2 = .ok (.invokevirtual 61, 3) := by decide +kernel
theorem dX4_turn_5 : decode cX4_turn 5 = .ok (.ifCond .eq 12, 3) := by decide +kernel
theorem dX4_turn_8 : decode cX4_turn 8 = .ok (.aload_n 0, 1) := by decide +kernel
theorem dX4_turn_9 : decode cX4_turn 9 = .ok (.iload_n 1, 1) := by decide +kernel
theorem dX4_turn_10 : decode cX4_turn 10 = .ok (.invokevirtual 78, 3) := by decide +kernel
theorem dX4_turn_13 : decode cX4_turn 13 = .ok (.pop, 1) := by decide +kernel
theorem dX4_turn_14 : decode cX4_turn 14 = .ok (.goto 16, 3) := by decide +kernel
theorem dX4_turn_17 : decode cX4_turn 17 = .ok (.aload_n 0, 1) := by decide +kernel
theorem dX4_turn_18 : decode cX4_turn 18 = .ok (.invokevirtual 81, 3) := by decide +kernel
theorem dX4_turn_21 : decode cX4_turn 21 = .ok (.ifCond .ne 9, 3) := by decide +kernel
theorem dX4_turn_24 : decode cX4_turn 24 = .ok (.aload_n 0, 1) := by decide +kernel
theorem dX4_turn_25 : decode cX4_turn 25 = .ok (.iload_n 1, 1) := by decide +kernel
theorem dX4_turn_26 : decode cX4_turn 26 = .ok (.invokevirtual 85, 3) := by decide +kernel
theorem dX4_turn_29 : decode cX4_turn 29 = .ok (.pop, 1) := by decide +kernel
theorem dX4_turn_30 : decode cX4_turn 30 = .ok (.return_, 1) := by decide +kernel
set_option maxRecDepth 20000 in
theorem ggX4_wouldBuild_X4_walk : GoodIn wsX4_wouldBuild wsX4_walk := goodIn_r _ [7, 8, 2, 9, 10, 11, 12, 13, 6, 14, 1, 33, 34, 35, 36, 37, 38, 39, 40, 41, 42, 43, 44] (by decide +kernel) (by decide +kernel)
set_option maxRecDepth 20000 in
theorem gX4_wouldBuild_X4_walk : GoodIn wsX4_wouldBuild (wsV RX4 65 RX4 yX4_walk wsX4_walk) := goodIn_app (goodIn_of _ (by decide +kernel)) ggX4_wouldBuild_X4_walk
set_option maxRecDepth 20000 in
theorem ggX4_wouldBuild_X4_heavyPlace : GoodIn wsX4_wouldBuild wsX4_heavyPlace := goodIn_r _ [18, 19, 2, 20, 21, 22, 23, 1, 24, 25, 26, 27, 28, 29, 30, 31, 6, 32, 33, 34, 35, 36, 37, 38, 39, 40, 41, 42, 43, 44] (by decide +kernel) (by decide +kernel)
set_option maxRecDepth 20000 in
theorem gX4_wouldBuild_X4_heavyPlace : GoodIn wsX4_wouldBuild (wsV RX4 88 RX4 yX4_heavyPlace wsX4_heavyPlace) := goodIn_app (goodIn_of _ (by decide +kernel)) ggX4_wouldBuild_X4_heavyPlace
theorem dX4_wouldBuild_0 : decode cX4_wouldBuild 0 = .ok (.aload_n 0, 1) := by decide +kernel
theorem dX4_wouldBuild_1 : decode cX4_wouldBuild 1 = .ok (.aload_n 0, 1) := by decide +kernel
theorem dX4_wouldBuild_2 : decode cX4_wouldBuild 2 = .ok (.iload_n 1, 1) := by decide +kernel
theorem dX4_wouldBuild_3 : decode cX4_wouldBuild 3 = .ok (.invokevirtual 65, 3) := by decide +kernel
theorem dX4_wouldBuild_6 : decode cX4_wouldBuild 6 = .ok (.invokevirtual 88, 3) := by decide +kernel
theorem dX4_wouldBuild_9 : decode cX4_wouldBuild 9 = .ok (.istore_n 2, 1) := by decide +kernel
theorem dX4_wouldBuild_10 : decode cX4_wouldBuild 10 = .ok (.iload_n 2, 1) := by decide +kernel
theorem dX4_wouldBuild_11 : decode cX4_wouldBuild 11 = .ok (.iconst (-1), 1) := by decide +kernel
theorem dX4_wouldBuild_12 : decode cX4_wouldBuild 12 = .ok (.if_icmp .ne 7, 3) := by decide +kernel
theorem dX4_wouldBuild_15 : decode cX4_wouldBuild 15 = .ok (.iconst 0, 1) := by decide +kernel
theorem dX4_wouldBuild_16 : decode cX4_wouldBuild 16 = .ok (.goto 16, 3) := by decide +kernel
theorem dX4_wouldBuild_19 : decode cX4_wouldBuild 19 = .ok (.aload_n 0, 1) := by decide +kernel
theorem dX4_wouldBuild_20 : decode cX4_wouldBuild 20 = .ok (.getfield 18, 3) := by decide +kernel
theorem dX4_wouldBuild_23 : decode cX4_wouldBuild 23 = .ok (.aload_n 0, 1) := by decide +kernel
theorem dX4_wouldBuild_24 : decode cX4_wouldBuild 24 = .ok (.getfield 21, 3) := by decide +kernel
theorem dX4_wouldBuild_27 : decode cX4_wouldBuild 27 = .ok (.iload_n 2, 1) := by decide +kernel
theorem dX4_wouldBuild_28 : decode cX4_wouldBuild 28 = .ok (.iaload, 1) := by decide +kernel
theorem dX4_wouldBuild_29 : decode cX4_wouldBuild 29 = .ok (.iaload, 1) := by decide +kernel
theorem dX4_wouldBuild_30 : decode cX4_wouldBuild 30 = .ok (.iconst 1, 1) := by decide +kernel
theorem dX4_wouldBuild_31 : decode cX4_wouldBuild 31 = .ok (.iadd, 1) := by decide +kernel
theorem dX4_wouldBuild_32 : decode cX4_wouldBuild 32 = .ok (.ireturn, 1) := by decide +kernel
set_option maxRecDepth 20000 in
theorem ggX4_add_X4_walk : GoodIn wsX4_add wsX4_walk := goodIn_r _ [14, 15, 16, 1, 2, 17, 18, 19, 13, 20, 3, 60, 61, 62, 63, 64, 65, 66, 67, 68, 69, 70, 71] (by decide +kernel) (by decide +kernel)
set_option maxRecDepth 20000 in
theorem gX4_add_X4_walk : GoodIn wsX4_add (wsV RX4 65 RX4 yX4_walk wsX4_walk) := goodIn_app (goodIn_of _ (by decide +kernel)) ggX4_add_X4_walk
set_option maxRecDepth 20000 in
theorem ggX4_add_X4_heavyPlace : GoodIn wsX4_add wsX4_heavyPlace := goodIn_r _ [24, 4, 16, 25, 26, 8, 27, 3, 28, 6, 7, 9, 29, 30, 31, 32, 13, 33, 60, 61, 62, 63, 64, 65, 66, 67, 68, 69, 70, 71] (by decide +kernel) (by decide +kernel)
set_option maxRecDepth 20000 in
theorem gX4_add_X4_heavyPlace : GoodIn wsX4_add (wsV RX4 88 RX4 yX4_heavyPlace wsX4_heavyPlace) := goodIn_app (goodIn_of _ (by decide +kernel)) ggX4_add_X4_heavyPlace
set_option maxRecDepth 20000 in
theorem ggX4_add_X4_changeSizes : GoodIn wsX4_add wsX4_changeSizes := goodIn_r _ [37, 16, 3, 60, 61, 62, 63, 64, 65, 66, 67, 68, 69, 70, 71] (by decide +kernel) (by decide +kernel)
set_option maxRecDepth 20000 in
theorem gX4_add_X4_changeSizes : GoodIn wsX4_add (wsV RX4 91 RX4 yX4_changeSizes wsX4_changeSizes) := goodIn_app (goodIn_of _ (by decide +kernel)) ggX4_add_X4_changeSizes
set_option maxRecDepth 20000 in
theorem ggX4_add_X4_onWay : GoodIn wsX4_add wsX4_onWay := goodIn_r _ [41, 16, 60, 61, 62, 63, 64, 65, 66, 67, 68, 69, 70, 71] (by decide +kernel) (by decide +kernel)
set_option maxRecDepth 20000 in
theorem gX4_add_X4_onWay : GoodIn wsX4_add (wsV RX4 69 RX4 yX4_onWay wsX4_onWay) := goodIn_app (goodIn_of _ (by decide +kernel)) ggX4_add_X4_onWay
set_option maxRecDepth 20000 in
theorem ggX4_add_X4_hang : GoodIn wsX4_add wsX4_hang := goodIn_r _ [45, 15, 1, 2, 60, 61, 62, 63, 64, 65, 66, 67, 68, 69, 70, 71] (by decide +kernel) (by decide +kernel)
set_option maxRecDepth 20000 in
theorem gX4_add_X4_hang : GoodIn wsX4_add (wsV RX4 95 RX4 yX4_hang wsX4_hang) := goodIn_app (goodIn_of _ (by decide +kernel)) ggX4_add_X4_hang
set_option maxRecDepth 20000 in
theorem ggX4_add_X4_build : GoodIn wsX4_add wsX4_build := goodIn_r _ [49, 50, 51, 52, 53, 54, 13, 55, 16, 56, 3, 38, 39, 40, 41, 57, 58, 59, 1, 2, 42, 43, 44, 45, 15, 60, 61, 62, 63, 64, 65, 66, 67, 68, 69, 70, 71] (by decide +kernel) (by decide +kernel)
set_option maxRecDepth 20000 in
theorem gX4_add_X4_build : GoodIn wsX4_add (wsV RX4 99 RX4 yX4_build wsX4_build) := goodIn_app (goodIn_of _ (by decide +kernel)) ggX4_add_X4_build
theorem dX4_add_0 : decode cX4_add 0 = .ok (.aload_n 0, 1) := by decide +kernel
theorem dX4_add_1 : decode cX4_add 1 = .ok (.iload_n 1, 1) := by decide +kernel
theorem dX4_add_2 : decode cX4_add 2 = .ok (.invokevirtual 65, 3) := by decide +kernel
theorem dX4_add_5 : decode cX4_add 5 = .ok (.istore_n 2, 1) := by decide +kernel
theorem dX4_add_6 : decode cX4_add 6 = .ok (.aload_n 0, 1) := by decide +kernel
theorem dX4_add_7 : decode cX4_add 7 = .ok (.iload_n 2, 1) := by decide +kernel
theorem dX4_add_8 : decode cX4_add 8 = .ok (.invokevirtual 88, 3) := by decide +kernel
theorem dX4_add_11 : decode cX4_add 11 = .ok (.istore_n 3, 1) := by decide +kernel
theorem dX4_add_12 : decode cX4_add 12 = .ok (.aload_n 0, 1) := by decide +kernel
theorem dX4_add_13 : decode cX4_add 13 = .ok (.iload_n 2, 1) := by decide +kernel
theorem dX4_add_14 : decode cX4_add 14 = .ok (.iconst 1, 1) := by decide +kernel
theorem dX4_add_15 : decode cX4_add 15 = .ok (.invokevirtual 91, 3) := by decide +kernel
theorem dX4_add_18 : decode cX4_add 18 = .ok (.aload_n 0, 1) := by decide +kernel
theorem dX4_add_19 : decode cX4_add 19 = .ok (.getfield 9, 3) := by decide +kernel
theorem dX4_add_22 : decode cX4_add 22 = .ok (.iload_n 1, 1) := by decide +kernel
theorem dX4_add_23 : decode cX4_add 23 = .ok (.iconst (-1), 1) := by decide +kernel
theorem dX4_add_24 : decode cX4_add 24 = .ok (.iastore, 1) := by decide +kernel
theorem dX4_add_25 : decode cX4_add 25 = .ok (.aload_n 0, 1) := by decide +kernel
theorem dX4_add_26 : decode cX4_add 26 = .ok (.getfield 15, 3) := by decide +kernel
theorem dX4_add_29 : decode cX4_add 29 = .ok (.iload_n 1, 1) := by decide +kernel
theorem dX4_add_30 : decode cX4_add 30 = .ok (.iconst (-1), 1) := by decide +kernel
theorem dX4_add_31 : decode cX4_add 31 = .ok (.iastore, 1) := by decide +kernel
theorem dX4_add_32 : decode cX4_add 32 = .ok (.aload_n 0, 1) := by decide +kernel
theorem dX4_add_33 : decode cX4_add 33 = .ok (.getfield 18, 3) := by decide +kernel
theorem dX4_add_36 : decode cX4_add 36 = .ok (.iload_n 1, 1) := by decide +kernel
theorem dX4_add_37 : decode cX4_add 37 = .ok (.iconst 1, 1) := by decide +kernel
theorem dX4_add_38 : decode cX4_add 38 = .ok (.iastore, 1) := by decide +kernel
theorem dX4_add_39 : decode cX4_add 39 = .ok (.aload_n 0, 1) := by decide +kernel
theorem dX4_add_40 : decode cX4_add 40 = .ok (.aload_n 0, 1) := by decide +kernel
theorem dX4_add_41 : decode cX4_add 41 = .ok (.iload_n 2, 1) := by decide +kernel
theorem dX4_add_42 : decode cX4_add 42 = .ok (.iconst 1, 1) := by decide +kernel
theorem dX4_add_43 : decode cX4_add 43 = .ok (.isub, 1) := by decide +kernel
theorem dX4_add_44 : decode cX4_add 44 = .ok (.invokevirtual 69, 3) := by decide +kernel
theorem dX4_add_47 : decode cX4_add 47 = .ok (.iload_n 1, 1) := by decide +kernel
theorem dX4_add_48 : decode cX4_add 48 = .ok (.iload_n 1, 1) := by decide +kernel
theorem dX4_add_49 : decode cX4_add 49 = .ok (.invokevirtual 95, 3) := by decide +kernel
theorem dX4_add_52 : decode cX4_add 52 = .ok (.aload_n 0, 1) := by decide +kernel
theorem dX4_add_53 : decode cX4_add 53 = .ok (.dup, 1) := by decide +kernel
theorem dX4_add_54 : decode cX4_add 54 = .ok (.getfield 43, 3) := by decide +kernel
theorem dX4_add_57 : decode cX4_add 57 = .ok (.iconst 1, 1) := by decide +kernel
theorem dX4_add_58 : decode cX4_add 58 = .ok (.iadd, 1) := by decide +kernel
theorem dX4_add_59 : decode cX4_add 59 = .ok (.putfield 43, 3) := by decide +kernel
theorem dX4_add_62 : decode cX4_add 62 = .ok (.aload_n 0, 1) := by decide +kernel
theorem dX4_add_63 : decode cX4_add 63 = .ok (.aload_n 0, 1) := by decide +kernel
theorem dX4_add_64 : decode cX4_add 64 = .ok (.getfield 46, 3) := by decide +kernel
theorem dX4_add_67 : decode cX4_add 67 = .ok (.aload_n 0, 1) := by decide +kernel
theorem dX4_add_68 : decode cX4_add 68 = .ok (.getfield 43, 3) := by decide +kernel
theorem dX4_add_71 : decode cX4_add 71 = .ok (.invokestatic 72, 3) := by decide +kernel
theorem dX4_add_74 : decode cX4_add 74 = .ok (.putfield 46, 3) := by decide +kernel
theorem dX4_add_77 : decode cX4_add 77 = .ok (.iload_n 3, 1) := by decide +kernel
theorem dX4_add_78 : decode cX4_add 78 = .ok (.iconst (-1), 1) := by decide +kernel
theorem dX4_add_79 : decode cX4_add 79 = .ok (.if_icmp .ne 7, 3) := by decide +kernel
theorem dX4_add_82 : decode cX4_add 82 = .ok (.iconst 0, 1) := by decide +kernel
theorem dX4_add_83 : decode cX4_add 83 = .ok (.goto 8, 3) := by decide +kernel
theorem dX4_add_86 : decode cX4_add 86 = .ok (.aload_n 0, 1) := by decide +kernel
theorem dX4_add_87 : decode cX4_add 87 = .ok (.iload_n 3, 1) := by decide +kernel
theorem dX4_add_88 : decode cX4_add 88 = .ok (.invokevirtual 99, 3) := by decide +kernel
theorem dX4_add_91 : decode cX4_add 91 = .ok (.ireturn, 1) := by decide +kernel
set_option maxRecDepth 20000 in
theorem ggX4_drop_X4_walk : GoodIn wsX4_drop wsX4_walk := goodIn_r _ [8, 9, 10, 11, 12, 13, 14, 15, 7, 16, 1, 61, 62, 63, 64, 65, 66, 67, 68, 69, 70, 71, 72] (by decide +kernel) (by decide +kernel)
set_option maxRecDepth 20000 in
theorem gX4_drop_X4_walk : GoodIn wsX4_drop (wsV RX4 65 RX4 yX4_walk wsX4_walk) := goodIn_app (goodIn_of _ (by decide +kernel)) ggX4_drop_X4_walk
set_option maxRecDepth 20000 in
theorem ggX4_drop_X4_changeSizes : GoodIn wsX4_drop wsX4_changeSizes := goodIn_r _ [20, 10, 1, 61, 62, 63, 64, 65, 66, 67, 68, 69, 70, 71, 72] (by decide +kernel) (by decide +kernel)
set_option maxRecDepth 20000 in
theorem gX4_drop_X4_changeSizes : GoodIn wsX4_drop (wsV RX4 91 RX4 yX4_changeSizes wsX4_changeSizes) := goodIn_app (goodIn_of _ (by decide +kernel)) ggX4_drop_X4_changeSizes
set_option maxRecDepth 20000 in
theorem ggX4_drop_X4_onWay : GoodIn wsX4_drop wsX4_onWay := goodIn_r _ [24, 10, 61, 62, 63, 64, 65, 66, 67, 68, 69, 70, 71, 72] (by decide +kernel) (by decide +kernel)
set_option maxRecDepth 20000 in
theorem gX4_drop_X4_onWay : GoodIn wsX4_drop (wsV RX4 69 RX4 yX4_onWay wsX4_onWay) := goodIn_app (goodIn_of _ (by decide +kernel)) ggX4_drop_X4_onWay
set_option maxRecDepth 20000 in
theorem ggX4_drop_X4_heirOf : GoodIn wsX4_drop wsX4_heirOf := goodIn_r _ [28, 11, 12, 13, 14, 15, 7, 16, 1, 29, 30, 31, 32, 61, 62, 63, 64, 65, 66, 67, 68, 69, 70, 71, 72] (by decide +kernel) (by decide +kernel)
set_option maxRecDepth 20000 in
theorem gX4_drop_X4_heirOf : GoodIn wsX4_drop (wsV RX4 102 RX4 yX4_heirOf wsX4_heirOf) := goodIn_app (goodIn_of _ (by decide +kernel)) ggX4_drop_X4_heirOf
set_option maxRecDepth 20000 in
theorem ggX4_drop_X4_hang : GoodIn wsX4_drop wsX4_hang := goodIn_r _ [36, 9, 11, 12, 61, 62, 63, 64, 65, 66, 67, 68, 69, 70, 71, 72] (by decide +kernel) (by decide +kernel)
set_option maxRecDepth 20000 in
theorem gX4_drop_X4_hang : GoodIn wsX4_drop (wsV RX4 95 RX4 yX4_hang wsX4_hang) := goodIn_app (goodIn_of _ (by decide +kernel)) ggX4_drop_X4_hang
set_option maxRecDepth 20000 in
theorem ggX4_drop_X4_isFew : GoodIn wsX4_drop wsX4_isFew := goodIn_r _ [40, 41, 42, 3, 61, 62, 63, 64, 65, 66, 67, 68, 69, 70, 71, 72] (by decide +kernel) (by decide +kernel)
set_option maxRecDepth 20000 in
theorem gX4_drop_X4_isFew : GoodIn wsX4_drop (wsV RX4 105 RX4 yX4_isFew wsX4_isFew) := goodIn_app (goodIn_of _ (by decide +kernel)) ggX4_drop_X4_isFew
set_option maxRecDepth 20000 in
theorem ggX4_drop_X4_buildAll : GoodIn wsX4_drop wsX4_buildAll := goodIn_r _ [46, 9, 10, 47, 48, 49, 7, 50, 51, 52, 53, 54, 55, 56, 57, 1, 21, 22, 23, 24, 58, 59, 60, 11, 12, 33, 34, 35, 36, 61, 62, 63, 64, 65, 66, 67, 68, 69, 70, 71, 72] (by decide +kernel) (by decide +kernel)
set_option maxRecDepth 20000 in
theorem gX4_drop_X4_buildAll : GoodIn wsX4_drop (wsV RX4 108 RX4 yX4_buildAll wsX4_buildAll) := goodIn_app (goodIn_of _ (by decide +kernel)) ggX4_drop_X4_buildAll
theorem dX4_drop_0 : decode cX4_drop 0 = .ok (.aload_n 0, 1) := by decide +kernel
theorem dX4_drop_1 : decode cX4_drop 1 = .ok (.iload_n 1, 1) := by decide +kernel
theorem dX4_drop_2 : decode cX4_drop 2 = .ok (.invokevirtual 65, 3) := by decide +kernel
theorem dX4_drop_5 : decode cX4_drop 5 = .ok (.istore_n 2, 1) := by decide +kernel
theorem dX4_drop_6 : decode cX4_drop 6 = .ok (.aload_n 0, 1) := by decide +kernel
theorem dX4_drop_7 : decode cX4_drop 7 = .ok (.iload_n 2, 1) := by decide +kernel
theorem dX4_drop_8 : decode cX4_drop 8 = .ok (.iconst (-1), 1) := by decide +kernel
theorem dX4_drop_9 : decode cX4_drop 9 = .ok (.invokevirtual 91, 3) := by decide +kernel
theorem dX4_drop_12 : decode cX4_drop 12 = .ok (.aload_n 0, 1) := by decide +kernel
theorem dX4_drop_13 : decode cX4_drop 13 = .ok (.aload_n 0, 1) := by decide +kernel
theorem dX4_drop_14 : decode cX4_drop 14 = .ok (.iload_n 2, 1) := by decide +kernel
theorem dX4_drop_15 : decode cX4_drop 15 = .ok (.iconst 2, 1) := by decide +kernel
theorem dX4_drop_16 : decode cX4_drop 16 = .ok (.isub, 1) := by decide +kernel
theorem dX4_drop_17 : decode cX4_drop 17 = .ok (.invokevirtual 69, 3) := by decide +kernel
theorem dX4_drop_20 : decode cX4_drop 20 = .ok (.iload_n 1, 1) := by decide +kernel
theorem dX4_drop_21 : decode cX4_drop 21 = .ok (.aload_n 0, 1) := by decide +kernel
theorem dX4_drop_22 : decode cX4_drop 22 = .ok (.iload_n 1, 1) := by decide +kernel
theorem dX4_drop_23 : decode cX4_drop 23 = .ok (.invokevirtual 102, 3) := by decide +kernel
theorem dX4_drop_26 : decode cX4_drop 26 = .ok (.invokevirtual 95, 3) := by decide +kernel
theorem dX4_drop_29 : decode cX4_drop 29 = .ok (.aload_n 0, 1) := by decide +kernel
theorem dX4_drop_30 : decode cX4_drop 30 = .ok (.getfield 18, 3) := by decide +kernel
theorem dX4_drop_33 : decode cX4_drop 33 = .ok (.iload_n 1, 1) := by decide +kernel
theorem dX4_drop_34 : decode cX4_drop 34 = .ok (.iconst 0, 1) := by decide +kernel
theorem dX4_drop_35 : decode cX4_drop 35 = .ok (.iastore, 1) := by decide +kernel
theorem dX4_drop_36 : decode cX4_drop 36 = .ok (.aload_n 0, 1) := by decide +kernel
theorem dX4_drop_37 : decode cX4_drop 37 = .ok (.dup, 1) := by decide +kernel
theorem dX4_drop_38 : decode cX4_drop 38 = .ok (.getfield 43, 3) := by decide +kernel
theorem dX4_drop_41 : decode cX4_drop 41 = .ok (.iconst 1, 1) := by decide +kernel
theorem dX4_drop_42 : decode cX4_drop 42 = .ok (.isub, 1) := by decide +kernel
theorem dX4_drop_43 : decode cX4_drop 43 = .ok (.putfield 43, 3) := by decide +kernel
theorem dX4_drop_46 : decode cX4_drop 46 = .ok (.aload_n 0, 1) := by decide +kernel
theorem dX4_drop_47 : decode cX4_drop 47 = .ok (.getfield 43, 3) := by decide +kernel
theorem dX4_drop_50 : decode cX4_drop 50 = .ok (.ifCond .ne 8, 3) := by decide +kernel
theorem dX4_drop_53 : decode cX4_drop 53 = .ok (.aload_n 0, 1) := by decide +kernel
theorem dX4_drop_54 : decode cX4_drop 54 = .ok (.iconst 0, 1) := by decide +kernel
theorem dX4_drop_55 : decode cX4_drop 55 = .ok (.putfield 46, 3) := by decide +kernel
theorem dX4_drop_58 : decode cX4_drop 58 = .ok (.aload_n 0, 1) := by decide +kernel
theorem dX4_drop_59 : decode cX4_drop 59 = .ok (.aload_n 0, 1) := by decide +kernel
theorem dX4_drop_60 : decode cX4_drop 60 = .ok (.getfield 43, 3) := by decide +kernel
theorem dX4_drop_63 : decode cX4_drop 63 = .ok (.invokevirtual 105, 3) := by decide +kernel
theorem dX4_drop_66 : decode cX4_drop 66 = .ok (.ifCond .ne 5, 3) := by decide +kernel
theorem dX4_drop_69 : decode cX4_drop 69 = .ok (.iconst 0, 1) := by decide +kernel
theorem dX4_drop_70 : decode cX4_drop 70 = .ok (.ireturn, 1) := by decide +kernel
theorem dX4_drop_71 : decode cX4_drop 71 = .ok (.aload_n 0, 1) := by decide +kernel
theorem dX4_drop_72 : decode cX4_drop 72 = .ok (.aload_n 0, 1) := by decide +kernel
theorem dX4_drop_73 : decode cX4_drop 73 = .ok (.getfield 43, 3) := by decide +kernel
theorem dX4_drop_76 : decode cX4_drop 76 = .ok (.putfield 46, 3) := by decide +kernel
theorem dX4_drop_79 : decode cX4_drop 79 = .ok (.aload_n 0, 1) := by decide +kernel
theorem dX4_drop_80 : decode cX4_drop 80 = .ok (.invokevirtual 108, 3) := by decide +kernel
theorem dX4_drop_83 : decode cX4_drop 83 = .ok (.ireturn, 1) := by decide +kernel
set_option maxRecDepth 20000 in
theorem ggX4_buildAll_X4_build : GoodIn wsX4_buildAll wsX4_build := goodIn_r _ [7, 8, 9, 10, 11, 12, 6, 13, 2, 14, 15, 16, 17, 18, 19, 20, 21, 22, 23, 24, 25, 26, 27, 28, 1, 29, 30, 31, 32, 33, 34, 35, 36, 37, 38, 39, 40] (by decide +kernel) (by decide +kernel)
set_option maxRecDepth 20000 in
theorem gX4_buildAll_X4_build : GoodIn wsX4_buildAll (wsV RX4 99 RX4 yX4_build wsX4_build) := goodIn_app (goodIn_of _ (by decide +kernel)) ggX4_buildAll_X4_build
theorem dX4_buildAll_0 : decode cX4_buildAll 0 = .ok (.aload_n 0, 1) := by decide +kernel
theorem dX4_buildAll_1 : decode cX4_buildAll 1 = .ok (.getfield 27, 3) := by decide +kernel
theorem dX4_buildAll_4 : decode cX4_buildAll 4 = .ok (.iconst (-1), 1) := by decide +kernel
theorem dX4_buildAll_5 : decode cX4_buildAll 5 = .ok (.if_icmp .ne 5, 3) := by decide +kernel
theorem dX4_buildAll_8 : decode cX4_buildAll 8 = .ok (.iconst 0, 1) := by decide +kernel
theorem dX4_buildAll_9 : decode cX4_buildAll 9 = .ok (.ireturn, 1) := by decide +kernel
theorem dX4_buildAll_10 : decode cX4_buildAll 10 = .ok (.aload_n 0, 1) := by decide +kernel
theorem dX4_buildAll_11 : decode cX4_buildAll 11 = .ok (.getfield 21, 3) := by decide +kernel
theorem dX4_buildAll_14 : decode cX4_buildAll 14 = .ok (.iconst 0, 1) := by decide +kernel
theorem dX4_buildAll_15 : decode cX4_buildAll 15 = .ok (.aload_n 0, 1) := by decide +kernel
theorem dX4_buildAll_16 : decode cX4_buildAll 16 = .ok (.getfield 27, 3) := by decide +kernel
theorem dX4_buildAll_19 : decode cX4_buildAll 19 = .ok (.iastore, 1) := by decide +kernel
theorem dX4_buildAll_20 : decode cX4_buildAll 20 = .ok (.aload_n 0, 1) := by decide +kernel
theorem dX4_buildAll_21 : decode cX4_buildAll 21 = .ok (.iconst 0, 1) := by decide +kernel
theorem dX4_buildAll_22 : decode cX4_buildAll 22 = .ok (.invokevirtual 99, 3) := by decide +kernel
theorem dX4_buildAll_25 : decode cX4_buildAll 25 = .ok (.ireturn, 1) := by decide +kernel
set_option maxRecDepth 20000 in
theorem ggX4_heavyPlace_X4_limit : GoodIn wsX4_heavyPlace wsX4_limit := goodIn_r _ [17, 8, 12, 18, 19, 20, 21, 22, 23, 24, 25, 26, 27, 28, 29] (by decide +kernel) (by decide +kernel)
set_option maxRecDepth 20000 in
theorem gX4_heavyPlace_X4_limit : GoodIn wsX4_heavyPlace (wsV RX4 112 RX4 yX4_limit wsX4_limit) := goodIn_app (goodIn_of _ (by decide +kernel)) ggX4_heavyPlace_X4_limit
theorem dX4_heavyPlace_0 : decode cX4_heavyPlace 0 = .ok (.iload_n 1, 1) := by decide +kernel
theorem dX4_heavyPlace_1 : decode cX4_heavyPlace 1 = .ok (.aload_n 0, 1) := by decide +kernel
theorem dX4_heavyPlace_2 : decode cX4_heavyPlace 2 = .ok (.aload_n 0, 1) := by decide +kernel
theorem dX4_heavyPlace_3 : decode cX4_heavyPlace 3 = .ok (.getfield 43, 3) := by decide +kernel
theorem dX4_heavyPlace_6 : decode cX4_heavyPlace 6 = .ok (.iconst 1, 1) := by decide +kernel
theorem dX4_heavyPlace_7 : decode cX4_heavyPlace 7 = .ok (.iadd, 1) := by decide +kernel
theorem dX4_heavyPlace_8 : decode cX4_heavyPlace 8 = .ok (.invokevirtual 112, 3) := by decide +kernel
theorem dX4_heavyPlace_11 : decode cX4_heavyPlace 11 = .ok (.if_icmp .gt 5, 3) := by decide +kernel
theorem dX4_heavyPlace_14 : decode cX4_heavyPlace 14 = .ok (.iconst (-1), 1) := by decide +kernel
theorem dX4_heavyPlace_15 : decode cX4_heavyPlace 15 = .ok (.ireturn, 1) := by decide +kernel
theorem dX4_heavyPlace_16 : decode cX4_heavyPlace 16 = .ok (.iconst 1, 1) := by decide +kernel
theorem dX4_heavyPlace_17 : decode cX4_heavyPlace 17 = .ok (.istore_n 2, 1) := by decide +kernel
theorem dX4_heavyPlace_18 : decode cX4_heavyPlace 18 = .ok (.iload_n 1, 1) := by decide +kernel
theorem dX4_heavyPlace_19 : decode cX4_heavyPlace 19 = .ok (.aload_n 0, 1) := by decide +kernel
theorem dX4_heavyPlace_20 : decode cX4_heavyPlace 20 = .ok (.getfield 21, 3) := by decide +kernel
theorem dX4_heavyPlace_23 : decode cX4_heavyPlace 23 = .ok (.arraylength, 1) := by decide +kernel
theorem dX4_heavyPlace_24 : decode cX4_heavyPlace 24 = .ok (.invokestatic 115, 3) := by decide +kernel
theorem dX4_heavyPlace_27 : decode cX4_heavyPlace 27 = .ok (.iconst 1, 1) := by decide +kernel
theorem dX4_heavyPlace_28 : decode cX4_heavyPlace 28 = .ok (.isub, 1) := by decide +kernel
theorem dX4_heavyPlace_29 : decode cX4_heavyPlace 29 = .ok (.istore_n 3, 1) := by decide +kernel
theorem dX4_heavyPlace_30 : decode cX4_heavyPlace 30 = .ok (.iload_n 3, 1) := by decide +kernel
theorem dX4_heavyPlace_31 : decode cX4_heavyPlace 31 = .ok (.ifCond .lt 58, 3) := by decide +kernel
theorem dX4_heavyPlace_34 : decode cX4_heavyPlace 34 = .ok (.aload_n 0, 1) := by decide +kernel
theorem dX4_heavyPlace_35 : decode cX4_heavyPlace 35 = .ok (.getfield 18, 3) := by decide +kernel
theorem dX4_heavyPlace_38 : decode cX4_heavyPlace 38 = .ok (.aload_n 0, 1) := by decide +kernel
theorem dX4_heavyPlace_39 : decode cX4_heavyPlace 39 = .ok (.getfield 21, 3) := by decide +kernel
theorem dX4_heavyPlace_42 : decode cX4_heavyPlace 42 = .ok (.iload_n 3, 1) := by decide +kernel
theorem dX4_heavyPlace_43 : decode cX4_heavyPlace 43 = .ok (.iaload, 1) := by decide +kernel
theorem dX4_heavyPlace_44 : decode cX4_heavyPlace 44 = .ok (.iaload, 1) := by decide +kernel
theorem dX4_heavyPlace_45 : decode cX4_heavyPlace 45 = .ok (.iconst 1, 1) := by decide +kernel
theorem dX4_heavyPlace_46 : decode cX4_heavyPlace 46 = .ok (.iadd, 1) := by decide +kernel
theorem dX4_heavyPlace_47 : decode cX4_heavyPlace 47 = .ok (.istore 4, 2) := by decide +kernel
theorem dX4_heavyPlace_49 : decode cX4_heavyPlace 49 = .ok (.iload 4, 2) := by decide +kernel
theorem dX4_heavyPlace_51 : decode cX4_heavyPlace 51 = .ok (.iconst 1, 1) := by decide +kernel
theorem dX4_heavyPlace_52 : decode cX4_heavyPlace 52 = .ok (.isub, 1) := by decide +kernel
theorem dX4_heavyPlace_53 : decode cX4_heavyPlace 53 = .ok (.iload_n 2, 1) := by decide +kernel
theorem dX4_heavyPlace_54 : decode cX4_heavyPlace 54 = .ok (.isub, 1) := by decide +kernel
theorem dX4_heavyPlace_55 : decode cX4_heavyPlace 55 = .ok (.istore 5, 2) := by decide +kernel
theorem dX4_heavyPlace_57 : decode cX4_heavyPlace 57 = .ok (.aload_n 0, 1) := by decide +kernel
theorem dX4_heavyPlace_58 : decode cX4_heavyPlace 58 = .ok (.getfield 40, 3) := by decide +kernel
theorem dX4_heavyPlace_61 : decode cX4_heavyPlace 61 = .ok (.iload_n 2, 1) := by decide +kernel
theorem dX4_heavyPlace_62 : decode cX4_heavyPlace 62 = .ok (.iload 5, 2) := by decide +kernel
theorem dX4_heavyPlace_64 : decode cX4_heavyPlace 64 = .ok (.invokestatic 72, 3) := by decide +kernel
theorem dX4_heavyPlace_67 : decode cX4_heavyPlace 67 = .ok (.imul, 1) := by decide +kernel
theorem dX4_heavyPlace_68 : decode cX4_heavyPlace 68 = .ok (.aload_n 0, 1) := by decide +kernel
theorem dX4_heavyPlace_69 : decode cX4_heavyPlace 69 = .ok (.getfield 37, 3) := by decide +kernel
theorem dX4_heavyPlace_72 : decode cX4_heavyPlace 72 = .ok (.iload 4, 2) := by decide +kernel
theorem dX4_heavyPlace_74 : decode cX4_heavyPlace 74 = .ok (.imul, 1) := by decide +kernel
theorem dX4_heavyPlace_75 : decode cX4_heavyPlace 75 = .ok (.if_icmp .le 5, 3) := by decide +kernel
theorem dX4_heavyPlace_78 : decode cX4_heavyPlace 78 = .ok (.iload_n 3, 1) := by decide +kernel
theorem dX4_heavyPlace_79 : decode cX4_heavyPlace 79 = .ok (.ireturn, 1) := by decide +kernel
theorem dX4_heavyPlace_80 : decode cX4_heavyPlace 80 = .ok (.iload 4, 2) := by decide +kernel
theorem dX4_heavyPlace_82 : decode cX4_heavyPlace 82 = .ok (.istore_n 2, 1) := by decide +kernel
theorem dX4_heavyPlace_83 : decode cX4_heavyPlace 83 = .ok (.iinc 3 (-1), 3) := by decide +kernel
theorem dX4_heavyPlace_86 : decode cX4_heavyPlace 86 = .ok (.goto (-56), 3) := by decide +kernel
theorem dX4_heavyPlace_89 : decode cX4_heavyPlace 89 = .ok (.iconst (-1), 1) := by decide +kernel
theorem dX4_heavyPlace_90 : decode cX4_heavyPlace 90 = .ok (.ireturn, 1) := by decide +kernel
theorem dX4_onWay_0 : decode cX4_onWay 0 = .ok (.iload_n 1, 1) := by decide +kernel
theorem dX4_onWay_1 : decode cX4_onWay 1 = .ok (.ifCond .lt 21, 3) := by decide +kernel
theorem dX4_onWay_4 : decode cX4_onWay 4 = .ok (.iload_n 1, 1) := by decide +kernel
theorem dX4_onWay_5 : decode cX4_onWay 5 = .ok (.aload_n 0, 1) := by decide +kernel
theorem dX4_onWay_6 : decode cX4_onWay 6 = .ok (.getfield 21, 3) := by decide +kernel
theorem dX4_onWay_9 : decode cX4_onWay 9 = .ok (.arraylength, 1) := by decide +kernel
theorem dX4_onWay_10 : decode cX4_onWay 10 = .ok (.if_icmp .ge 12, 3) := by decide +kernel
theorem dX4_onWay_13 : decode cX4_onWay 13 = .ok (.aload_n 0, 1) := by decide +kernel
theorem dX4_onWay_14 : decode cX4_onWay 14 = .ok (.getfield 21, 3) := by decide +kernel
theorem dX4_onWay_17 : decode cX4_onWay 17 = .ok (.iload_n 1, 1) := by decide +kernel
theorem dX4_onWay_18 : decode cX4_onWay 18 = .ok (.iaload, 1) := by decide +kernel
theorem dX4_onWay_19 : decode cX4_onWay 19 = .ok (.goto 4, 3) := by decide +kernel
theorem dX4_onWay_22 : decode cX4_onWay 22 = .ok (.iconst (-1), 1) := by decide +kernel
theorem dX4_onWay_23 : decode cX4_onWay 23 = .ok (.ireturn, 1) := by decide +kernel
theorem dX4_changeSizes_0 : decode cX4_changeSizes 0 = .ok (.iconst 0, 1) := by decide +kernel
theorem dX4_changeSizes_1 : decode cX4_changeSizes 1 = .ok (.istore_n 3, 1) := by decide +kernel
theorem dX4_changeSizes_2 : decode cX4_changeSizes 2 = .ok (.iload_n 3, 1) := by decide +kernel
theorem dX4_changeSizes_3 : decode cX4_changeSizes 3 = .ok (.iload_n 1, 1) := by decide +kernel
theorem dX4_changeSizes_4 : decode cX4_changeSizes 4 = .ok (.if_icmp .ge 33, 3) := by decide +kernel
theorem dX4_changeSizes_7 : decode cX4_changeSizes 7 = .ok (.iload_n 3, 1) := by decide +kernel
theorem dX4_changeSizes_8 : decode cX4_changeSizes 8 = .ok (.aload_n 0, 1) := by decide +kernel
theorem dX4_changeSizes_9 : decode cX4_changeSizes 9 = .ok (.getfield 21, 3) := by decide +kernel
theorem dX4_changeSizes_12 : decode cX4_changeSizes 12 = .ok (.arraylength, 1) := by decide +kernel
theorem dX4_changeSizes_13 : decode cX4_changeSizes 13 = .ok (.if_icmp .ge 24, 3) := by decide +kernel
theorem dX4_changeSizes_16 : decode cX4_changeSizes 16 = .ok (.aload_n 0, 1) := by decide +kernel
theorem dX4_changeSizes_17 : decode cX4_changeSizes 17 = .ok (.getfield 18, 3) := by decide +kernel
theorem dX4_changeSizes_20 : decode cX4_changeSizes 20 = .ok (.aload_n 0, 1) := by decide +kernel
theorem dX4_changeSizes_21 : decode cX4_changeSizes 21 = .ok (.getfield 21, 3) := by decide +kernel
theorem dX4_changeSizes_24 : decode cX4_changeSizes 24 = .ok (.iload_n 3, 1) := by decide +kernel
theorem dX4_changeSizes_25 : decode cX4_changeSizes 25 = .ok (.iaload, 1) := by decide +kernel
theorem dX4_changeSizes_26 : decode cX4_changeSizes 26 = .ok (.dup2, 1) := by decide +kernel
theorem dX4_changeSizes_27 : decode cX4_changeSizes 27 = .ok (.iaload, 1) := by decide +kernel
theorem dX4_changeSizes_28 : decode cX4_changeSizes 28 = .ok (.iload_n 2, 1) := by decide +kernel
theorem dX4_changeSizes_29 : decode cX4_changeSizes 29 = .ok (.iadd, 1) := by decide +kernel
theorem dX4_changeSizes_30 : decode cX4_changeSizes 30 = .ok (.iastore, 1) := by decide +kernel
theorem dX4_changeSizes_31 : decode cX4_changeSizes 31 = .ok (.iinc 3 1, 3) := by decide +kernel
theorem dX4_changeSizes_34 : decode cX4_changeSizes 34 = .ok (.goto (-32), 3) := by decide +kernel
theorem dX4_changeSizes_37 : decode cX4_changeSizes 37 = .ok (.return_, 1) := by decide +kernel
theorem dX4_hang_0 : decode cX4_hang 0 = .ok (.iload_n 1, 1) := by decide +kernel
theorem dX4_hang_1 : decode cX4_hang 1 = .ok (.iconst (-1), 1) := by decide +kernel
theorem dX4_hang_2 : decode cX4_hang 2 = .ok (.if_icmp .ne 11, 3) := by decide +kernel
theorem dX4_hang_5 : decode cX4_hang 5 = .ok (.aload_n 0, 1) := by decide +kernel
theorem dX4_hang_6 : decode cX4_hang 6 = .ok (.iload_n 3, 1) := by decide +kernel
theorem dX4_hang_7 : decode cX4_hang 7 = .ok (.putfield 27, 3) := by decide +kernel
theorem dX4_hang_10 : decode cX4_hang 10 = .ok (.goto 25, 3) := by decide +kernel
theorem dX4_hang_13 : decode cX4_hang 13 = .ok (.iload_n 2, 1) := by decide +kernel
theorem dX4_hang_14 : decode cX4_hang 14 = .ok (.iload_n 1, 1) := by decide +kernel
theorem dX4_hang_15 : decode cX4_hang 15 = .ok (.if_icmp .ge 13, 3) := by decide +kernel
theorem dX4_hang_18 : decode cX4_hang 18 = .ok (.aload_n 0, 1) := by decide +kernel
theorem dX4_hang_19 : decode cX4_hang 19 = .ok (.getfield 9, 3) := by decide +kernel
theorem dX4_hang_22 : decode cX4_hang 22 = .ok (.iload_n 1, 1) := by decide +kernel
theorem dX4_hang_23 : decode cX4_hang 23 = .ok (.iload_n 3, 1) := by decide +kernel
theorem dX4_hang_24 : decode cX4_hang 24 = .ok (.iastore, 1) := by decide +kernel
theorem dX4_hang_25 : decode cX4_hang 25 = .ok (.goto 10, 3) := by decide +kernel
theorem dX4_hang_28 : decode cX4_hang 28 = .ok (.aload_n 0, 1) := by decide +kernel
theorem dX4_hang_29 : decode cX4_hang 29 = .ok (.getfield 15, 3) := by decide +kernel
theorem dX4_hang_32 : decode cX4_hang 32 = .ok (.iload_n 1, 1) := by decide +kernel
theorem dX4_hang_33 : decode cX4_hang 33 = .ok (.iload_n 3, 1) := by decide +kernel
theorem dX4_hang_34 : decode cX4_hang 34 = .ok (.iastore, 1) := by decide +kernel
theorem dX4_hang_35 : decode cX4_hang 35 = .ok (.return_, 1) := by decide +kernel
set_option maxRecDepth 20000 in
theorem ggX4_heirOf_X4_has : GoodIn wsX4_heirOf wsX4_has := goodIn_r _ [7, 8, 13, 14, 15, 16, 17, 18, 19, 20, 21, 22, 23, 24] (by decide +kernel) (by decide +kernel)
set_option maxRecDepth 20000 in
theorem gX4_heirOf_X4_has : GoodIn wsX4_heirOf (wsV RX4 61 RX4 yX4_has wsX4_has) := goodIn_app (goodIn_of _ (by decide +kernel)) ggX4_heirOf_X4_has
set_option maxRecDepth 20000 in
theorem ggX4_heirOf_X4_liftLeast : GoodIn wsX4_heirOf wsX4_liftLeast := goodIn_r _ [12, 2, 1, 8, 3, 4, 5, 6, 7, 13, 14, 15, 16, 17, 18, 19, 20, 21, 22, 23, 24] (by decide +kernel) (by decide +kernel)
set_option maxRecDepth 20000 in
theorem gX4_heirOf_X4_liftLeast : GoodIn wsX4_heirOf (wsV RX4 118 RX4 yX4_liftLeast wsX4_liftLeast) := goodIn_app (goodIn_of _ (by decide +kernel)) ggX4_heirOf_X4_liftLeast
theorem dX4_heirOf_0 : decode cX4_heirOf 0 = .ok (.aload_n 0, 1) := by decide +kernel
theorem dX4_heirOf_1 : decode cX4_heirOf 1 = .ok (.aload_n 0, 1) := by decide +kernel
theorem dX4_heirOf_2 : decode cX4_heirOf 2 = .ok (.getfield 9, 3) := by decide +kernel
theorem dX4_heirOf_5 : decode cX4_heirOf 5 = .ok (.iload_n 1, 1) := by decide +kernel
theorem dX4_heirOf_6 : decode cX4_heirOf 6 = .ok (.iaload, 1) := by decide +kernel
theorem dX4_heirOf_7 : decode cX4_heirOf 7 = .ok (.invokevirtual 61, 3) := by decide +kernel
theorem dX4_heirOf_10 : decode cX4_heirOf 10 = .ok (.ifCond .ne 10, 3) := by decide +kernel
theorem dX4_heirOf_13 : decode cX4_heirOf 13 = .ok (.aload_n 0, 1) := by decide +kernel
theorem dX4_heirOf_14 : decode cX4_heirOf 14 = .ok (.getfield 15, 3) := by decide +kernel
theorem dX4_heirOf_17 : decode cX4_heirOf 17 = .ok (.iload_n 1, 1) := by decide +kernel
theorem dX4_heirOf_18 : decode cX4_heirOf 18 = .ok (.iaload, 1) := by decide +kernel
theorem dX4_heirOf_19 : decode cX4_heirOf 19 = .ok (.ireturn, 1) := by decide +kernel
theorem dX4_heirOf_20 : decode cX4_heirOf 20 = .ok (.aload_n 0, 1) := by decide +kernel
theorem dX4_heirOf_21 : decode cX4_heirOf 21 = .ok (.aload_n 0, 1) := by decide +kernel
theorem dX4_heirOf_22 : decode cX4_heirOf 22 = .ok (.getfield 15, 3) := by decide +kernel
theorem dX4_heirOf_25 : decode cX4_heirOf 25 = .ok (.iload_n 1, 1) := by decide +kernel
theorem dX4_heirOf_26 : decode cX4_heirOf 26 = .ok (.iaload, 1) := by decide +kernel
theorem dX4_heirOf_27 : decode cX4_heirOf 27 = .ok (.invokevirtual 61, 3) := by decide +kernel
theorem dX4_heirOf_30 : decode cX4_heirOf 30 = .ok (.ifCond .ne 10, 3) := by decide +kernel
theorem dX4_heirOf_33 : decode cX4_heirOf 33 = .ok (.aload_n 0, 1) := by decide +kernel
theorem dX4_heirOf_34 : decode cX4_heirOf 34 = .ok (.getfield 9, 3) := by decide +kernel
theorem dX4_heirOf_37 : decode cX4_heirOf 37 = .ok (.iload_n 1, 1) := by decide +kernel
theorem dX4_heirOf_38 : decode cX4_heirOf 38 = .ok (.iaload, 1) := by decide +kernel
theorem dX4_heirOf_39 : decode cX4_heirOf 39 = .ok (.ireturn, 1) := by decide +kernel
theorem dX4_heirOf_40 : decode cX4_heirOf 40 = .ok (.aload_n 0, 1) := by decide +kernel
theorem dX4_heirOf_41 : decode cX4_heirOf 41 = .ok (.iload_n 1, 1) := by decide +kernel
theorem dX4_heirOf_42 : decode cX4_heirOf 42 = .ok (.invokevirtual 118, 3) := by decide +kernel
theorem dX4_heirOf_45 : decode cX4_heirOf 45 = .ok (.ireturn, 1) := by decide +kernel
set_option maxRecDepth 20000 in
theorem ggX4_liftLeast_X4_has : GoodIn wsX4_liftLeast wsX4_has := goodIn_r _ [8, 3, 9, 10, 11, 12, 13, 14, 15, 16, 17, 18, 19, 20] (by decide +kernel) (by decide +kernel)
set_option maxRecDepth 20000 in
theorem gX4_liftLeast_X4_has : GoodIn wsX4_liftLeast (wsV RX4 61 RX4 yX4_has wsX4_has) := goodIn_app (goodIn_of _ (by decide +kernel)) ggX4_liftLeast_X4_has
theorem dX4_liftLeast_0 : decode cX4_liftLeast 0 = .ok (.iload_n 1, 1) := by decide +kernel
theorem dX4_liftLeast_1 : decode cX4_liftLeast 1 = .ok (.istore_n 2, 1) := by decide +kernel
theorem dX4_liftLeast_2 : decode cX4_liftLeast 2 = .ok (.aload_n 0, 1) := by decide +kernel
theorem dX4_liftLeast_3 : decode cX4_liftLeast 3 = .ok (.getfield 15, 3) := by decide +kernel
theorem dX4_liftLeast_6 : decode cX4_liftLeast 6 = .ok (.iload_n 1, 1) := by decide +kernel
theorem dX4_liftLeast_7 : decode cX4_liftLeast 7 = .ok (.iaload, 1) := by decide +kernel
theorem dX4_liftLeast_8 : decode cX4_liftLeast 8 = .ok (.istore_n 3, 1) := by decide +kernel
theorem dX4_liftLeast_9 : decode cX4_liftLeast 9 = .ok (.iconst 0, 1) := by decide +kernel
theorem dX4_liftLeast_10 : decode cX4_liftLeast 10 = .ok (.istore 4, 2) := by decide +kernel
theorem dX4_liftLeast_12 : decode cX4_liftLeast 12 = .ok (.iload 4, 2) := by decide +kernel
theorem dX4_liftLeast_14 : decode cX4_liftLeast 14 = .ok (.bipush 40, 2) := by decide +kernel
theorem dX4_liftLeast_16 : decode cX4_liftLeast 16 = .ok (.if_icmp .ge 41, 3) := by decide +kernel
theorem dX4_liftLeast_19 : decode cX4_liftLeast 19 = .ok (.aload_n 0, 1) := by decide +kernel
theorem dX4_liftLeast_20 : decode cX4_liftLeast 20 = .ok (.aload_n 0, 1) := by decide +kernel
theorem dX4_liftLeast_21 : decode cX4_liftLeast 21 = .ok (.getfield 9, 3) := by decide +kernel
theorem dX4_liftLeast_24 : decode cX4_liftLeast 24 = .ok (.iload_n 3, 1) := by decide +kernel
theorem dX4_liftLeast_25 : decode cX4_liftLeast 25 = .ok (.iaload, 1) := by decide +kernel
theorem dX4_liftLeast_26 : decode cX4_liftLeast 26 = .ok (.invokevirtual 61, 3) := by decide +kernel
theorem dX4_liftLeast_29 : decode cX4_liftLeast 29 = .ok (.ifCond .eq 28, 3) := by decide +kernel
theorem dX4_liftLeast_32 : decode cX4_liftLeast 32 = .ok (.aload_n 0, 1) := by decide +kernel
theorem dX4_liftLeast_33 : decode cX4_liftLeast 33 = .ok (.getfield 18, 3) := by decide +kernel
theorem dX4_liftLeast_36 : decode cX4_liftLeast 36 = .ok (.iload_n 3, 1) := by decide +kernel
theorem dX4_liftLeast_37 : decode cX4_liftLeast 37 = .ok (.dup2, 1) := by decide +kernel
theorem dX4_liftLeast_38 : decode cX4_liftLeast 38 = .ok (.iaload, 1) := by decide +kernel
theorem dX4_liftLeast_39 : decode cX4_liftLeast 39 = .ok (.iconst 1, 1) := by decide +kernel
theorem dX4_liftLeast_40 : decode cX4_liftLeast 40 = .ok (.isub, 1) := by decide +kernel
theorem dX4_liftLeast_41 : decode cX4_liftLeast 41 = .ok (.iastore, 1) := by decide +kernel
theorem dX4_liftLeast_42 : decode cX4_liftLeast 42 = .ok (.iload_n 3, 1) := by decide +kernel
theorem dX4_liftLeast_43 : decode cX4_liftLeast 43 = .ok (.istore_n 2, 1) := by decide +kernel
theorem dX4_liftLeast_44 : decode cX4_liftLeast 44 = .ok (.aload_n 0, 1) := by decide +kernel
theorem dX4_liftLeast_45 : decode cX4_liftLeast 45 = .ok (.getfield 9, 3) := by decide +kernel
theorem dX4_liftLeast_48 : decode cX4_liftLeast 48 = .ok (.iload_n 3, 1) := by decide +kernel
theorem dX4_liftLeast_49 : decode cX4_liftLeast 49 = .ok (.iaload, 1) := by decide +kernel
theorem dX4_liftLeast_50 : decode cX4_liftLeast 50 = .ok (.istore_n 3, 1) := by decide +kernel
theorem dX4_liftLeast_51 : decode cX4_liftLeast 51 = .ok (.iinc 4 1, 3) := by decide +kernel
theorem dX4_liftLeast_54 : decode cX4_liftLeast 54 = .ok (.goto (-42), 3) := by decide +kernel
theorem dX4_liftLeast_57 : decode cX4_liftLeast 57 = .ok (.iload_n 2, 1) := by decide +kernel
theorem dX4_liftLeast_58 : decode cX4_liftLeast 58 = .ok (.iload_n 1, 1) := by decide +kernel
theorem dX4_liftLeast_59 : decode cX4_liftLeast 59 = .ok (.if_icmp .eq 27, 3) := by decide +kernel
theorem dX4_liftLeast_62 : decode cX4_liftLeast 62 = .ok (.aload_n 0, 1) := by decide +kernel
theorem dX4_liftLeast_63 : decode cX4_liftLeast 63 = .ok (.getfield 9, 3) := by decide +kernel
theorem dX4_liftLeast_66 : decode cX4_liftLeast 66 = .ok (.iload_n 2, 1) := by decide +kernel
theorem dX4_liftLeast_67 : decode cX4_liftLeast 67 = .ok (.aload_n 0, 1) := by decide +kernel
theorem dX4_liftLeast_68 : decode cX4_liftLeast 68 = .ok (.getfield 15, 3) := by decide +kernel
theorem dX4_liftLeast_71 : decode cX4_liftLeast 71 = .ok (.iload_n 3, 1) := by decide +kernel
theorem dX4_liftLeast_72 : decode cX4_liftLeast 72 = .ok (.iaload, 1) := by decide +kernel
theorem dX4_liftLeast_73 : decode cX4_liftLeast 73 = .ok (.iastore, 1) := by decide +kernel
theorem dX4_liftLeast_74 : decode cX4_liftLeast 74 = .ok (.aload_n 0, 1) := by decide +kernel
theorem dX4_liftLeast_75 : decode cX4_liftLeast 75 = .ok (.getfield 15, 3) := by decide +kernel
theorem dX4_liftLeast_78 : decode cX4_liftLeast 78 = .ok (.iload_n 3, 1) := by decide +kernel
theorem dX4_liftLeast_79 : decode cX4_liftLeast 79 = .ok (.aload_n 0, 1) := by decide +kernel
theorem dX4_liftLeast_80 : decode cX4_liftLeast 80 = .ok (.getfield 15, 3) := by decide +kernel
theorem dX4_liftLeast_83 : decode cX4_liftLeast 83 = .ok (.iload_n 1, 1) := by decide +kernel
theorem dX4_liftLeast_84 : decode cX4_liftLeast 84 = .ok (.iaload, 1) := by decide +kernel
theorem dX4_liftLeast_85 : decode cX4_liftLeast 85 = .ok (.iastore, 1) := by decide +kernel
theorem dX4_liftLeast_86 : decode cX4_liftLeast 86 = .ok (.aload_n 0, 1) := by decide +kernel
theorem dX4_liftLeast_87 : decode cX4_liftLeast 87 = .ok (.getfield 9, 3) := by decide +kernel
theorem dX4_liftLeast_90 : decode cX4_liftLeast 90 = .ok (.iload_n 3, 1) := by decide +kernel
theorem dX4_liftLeast_91 : decode cX4_liftLeast 91 = .ok (.aload_n 0, 1) := by decide +kernel
theorem dX4_liftLeast_92 : decode cX4_liftLeast 92 = .ok (.getfield 9, 3) := by decide +kernel
theorem dX4_liftLeast_95 : decode cX4_liftLeast 95 = .ok (.iload_n 1, 1) := by decide +kernel
theorem dX4_liftLeast_96 : decode cX4_liftLeast 96 = .ok (.iaload, 1) := by decide +kernel
theorem dX4_liftLeast_97 : decode cX4_liftLeast 97 = .ok (.iastore, 1) := by decide +kernel
theorem dX4_liftLeast_98 : decode cX4_liftLeast 98 = .ok (.aload_n 0, 1) := by decide +kernel
theorem dX4_liftLeast_99 : decode cX4_liftLeast 99 = .ok (.getfield 18, 3) := by decide +kernel
theorem dX4_liftLeast_102 : decode cX4_liftLeast 102 = .ok (.iload_n 3, 1) := by decide +kernel
theorem dX4_liftLeast_103 : decode cX4_liftLeast 103 = .ok (.aload_n 0, 1) := by decide +kernel
theorem dX4_liftLeast_104 : decode cX4_liftLeast 104 = .ok (.getfield 18, 3) := by decide +kernel
theorem dX4_liftLeast_107 : decode cX4_liftLeast 107 = .ok (.iload_n 1, 1) := by decide +kernel
theorem dX4_liftLeast_108 : decode cX4_liftLeast 108 = .ok (.iaload, 1) := by decide +kernel
theorem dX4_liftLeast_109 : decode cX4_liftLeast 109 = .ok (.iastore, 1) := by decide +kernel
theorem dX4_liftLeast_110 : decode cX4_liftLeast 110 = .ok (.iload_n 3, 1) := by decide +kernel
theorem dX4_liftLeast_111 : decode cX4_liftLeast 111 = .ok (.ireturn, 1) := by decide +kernel
set_option maxRecDepth 20000 in
theorem ggX4_build_X4_gather : GoodIn wsX4_build wsX4_gather := goodIn_r _ [7, 8, 9, 10, 25, 26, 27, 28, 29, 30, 31, 32, 33, 34, 35, 36] (by decide +kernel) (by decide +kernel)
set_option maxRecDepth 20000 in
theorem gX4_build_X4_gather : GoodIn wsX4_build (wsV RX4 121 RX4 yX4_gather wsX4_gather) := goodIn_app (goodIn_of _ (by decide +kernel)) ggX4_build_X4_gather
set_option maxRecDepth 20000 in
theorem ggX4_build_X4_onWay : GoodIn wsX4_build wsX4_onWay := goodIn_r _ [14, 8, 25, 26, 27, 28, 29, 30, 31, 32, 33, 34, 35, 36] (by decide +kernel) (by decide +kernel)
set_option maxRecDepth 20000 in
theorem gX4_build_X4_onWay : GoodIn wsX4_build (wsV RX4 69 RX4 yX4_onWay wsX4_onWay) := goodIn_app (goodIn_of _ (by decide +kernel)) ggX4_build_X4_onWay
set_option maxRecDepth 20000 in
theorem ggX4_build_X4_flat : GoodIn wsX4_build wsX4_flat := goodIn_r _ [17, 9, 18, 19, 10, 15, 16, 6, 25, 26, 27, 28, 29, 30, 31, 32, 33, 34, 35, 36] (by decide +kernel) (by decide +kernel)
set_option maxRecDepth 20000 in
theorem gX4_build_X4_flat : GoodIn wsX4_build (va_wsS RX4 124 yX4_flat wsX4_flat) := goodIn_app (goodIn_of _ (by decide +kernel)) ggX4_build_X4_flat
set_option maxRecDepth 20000 in
theorem ggX4_build_X4_hang : GoodIn wsX4_build wsX4_hang := goodIn_r _ [23, 24, 18, 19, 25, 26, 27, 28, 29, 30, 31, 32, 33, 34, 35, 36] (by decide +kernel) (by decide +kernel)
set_option maxRecDepth 20000 in
theorem gX4_build_X4_hang : GoodIn wsX4_build (wsV RX4 95 RX4 yX4_hang wsX4_hang) := goodIn_app (goodIn_of _ (by decide +kernel)) ggX4_build_X4_hang
theorem dX4_build_0 : decode cX4_build 0 = .ok (.aload_n 0, 1) := by decide +kernel
theorem dX4_build_1 : decode cX4_build 1 = .ok (.iload_n 1, 1) := by decide +kernel
theorem dX4_build_2 : decode cX4_build 2 = .ok (.invokevirtual 121, 3) := by decide +kernel
theorem dX4_build_5 : decode cX4_build 5 = .ok (.istore_n 2, 1) := by decide +kernel
theorem dX4_build_6 : decode cX4_build 6 = .ok (.aload_n 0, 1) := by decide +kernel
theorem dX4_build_7 : decode cX4_build 7 = .ok (.aload_n 0, 1) := by decide +kernel
theorem dX4_build_8 : decode cX4_build 8 = .ok (.iload_n 1, 1) := by decide +kernel
theorem dX4_build_9 : decode cX4_build 9 = .ok (.iconst 1, 1) := by decide +kernel
theorem dX4_build_10 : decode cX4_build 10 = .ok (.isub, 1) := by decide +kernel
theorem dX4_build_11 : decode cX4_build 11 = .ok (.invokevirtual 69, 3) := by decide +kernel
theorem dX4_build_14 : decode cX4_build 14 = .ok (.aload_n 0, 1) := by decide +kernel
theorem dX4_build_15 : decode cX4_build 15 = .ok (.iload_n 1, 1) := by decide +kernel
theorem dX4_build_16 : decode cX4_build 16 = .ok (.invokevirtual 69, 3) := by decide +kernel
theorem dX4_build_19 : decode cX4_build 19 = .ok (.aload_n 0, 1) := by decide +kernel
theorem dX4_build_20 : decode cX4_build 20 = .ok (.iconst 0, 1) := by decide +kernel
theorem dX4_build_21 : decode cX4_build 21 = .ok (.iload_n 2, 1) := by decide +kernel
theorem dX4_build_22 : decode cX4_build 22 = .ok (.iconst 1, 1) := by decide +kernel
theorem dX4_build_23 : decode cX4_build 23 = .ok (.isub, 1) := by decide +kernel
theorem dX4_build_24 : decode cX4_build 24 = .ok (.iconst 0, 1) := by decide +kernel
theorem dX4_build_25 : decode cX4_build 25 = .ok (.invokestatic 124, 3) := by decide +kernel
theorem dX4_build_28 : decode cX4_build 28 = .ok (.invokevirtual 95, 3) := by decide +kernel
theorem dX4_build_31 : decode cX4_build 31 = .ok (.aload_n 0, 1) := by decide +kernel
theorem dX4_build_32 : decode cX4_build 32 = .ok (.dup, 1) := by decide +kernel
theorem dX4_build_33 : decode cX4_build 33 = .ok (.getfield 49, 3) := by decide +kernel
theorem dX4_build_36 : decode cX4_build 36 = .ok (.iconst 1, 1) := by decide +kernel
theorem dX4_build_37 : decode cX4_build 37 = .ok (.iadd, 1) := by decide +kernel
theorem dX4_build_38 : decode cX4_build 38 = .ok (.putfield 49, 3) := by decide +kernel
theorem dX4_build_41 : decode cX4_build 41 = .ok (.aload_n 0, 1) := by decide +kernel
theorem dX4_build_42 : decode cX4_build 42 = .ok (.dup, 1) := by decide +kernel
theorem dX4_build_43 : decode cX4_build 43 = .ok (.getfield 52, 3) := by decide +kernel
theorem dX4_build_46 : decode cX4_build 46 = .ok (.iload_n 2, 1) := by decide +kernel
theorem dX4_build_47 : decode cX4_build 47 = .ok (.iadd, 1) := by decide +kernel
theorem dX4_build_48 : decode cX4_build 48 = .ok (.putfield 52, 3) := by decide +kernel
theorem dX4_build_51 : decode cX4_build 51 = .ok (.iload_n 2, 1) := by decide +kernel
theorem dX4_build_52 : decode cX4_build 52 = .ok (.ireturn, 1) := by decide +kernel
theorem dX4_gather_0 : decode cX4_gather 0 = .ok (.iconst (-1), 1) := by decide +kernel
theorem dX4_gather_1 : decode cX4_gather 1 = .ok (.istore_n 2, 1) := by decide +kernel
theorem dX4_gather_2 : decode cX4_gather 2 = .ok (.bipush 100, 2) := by decide +kernel
theorem dX4_gather_4 : decode cX4_gather 4 = .ok (.istore_n 3, 1) := by decide +kernel
theorem dX4_gather_5 : decode cX4_gather 5 = .ok (.iconst 0, 1) := by decide +kernel
theorem dX4_gather_6 : decode cX4_gather 6 = .ok (.istore 4, 2) := by decide +kernel
theorem dX4_gather_8 : decode cX4_gather 8 = .ok (.iload 4, 2) := by decide +kernel
theorem dX4_gather_10 : decode cX4_gather 10 = .ok (.iload_n 1, 1) := by decide +kernel
theorem dX4_gather_11 : decode cX4_gather 11 = .ok (.if_icmp .ge 44, 3) := by decide +kernel
theorem dX4_gather_14 : decode cX4_gather 14 = .ok (.aload_n 0, 1) := by decide +kernel
theorem dX4_gather_15 : decode cX4_gather 15 = .ok (.getfield 21, 3) := by decide +kernel
theorem dX4_gather_18 : decode cX4_gather 18 = .ok (.iload 4, 2) := by decide +kernel
theorem dX4_gather_20 : decode cX4_gather 20 = .ok (.iaload, 1) := by decide +kernel
theorem dX4_gather_21 : decode cX4_gather 21 = .ok (.aload_n 0, 1) := by decide +kernel
theorem dX4_gather_22 : decode cX4_gather 22 = .ok (.getfield 21, 3) := by decide +kernel
theorem dX4_gather_25 : decode cX4_gather 25 = .ok (.iload_n 1, 1) := by decide +kernel
theorem dX4_gather_26 : decode cX4_gather 26 = .ok (.iaload, 1) := by decide +kernel
theorem dX4_gather_27 : decode cX4_gather 27 = .ok (.if_icmp .ge 14, 3) := by decide +kernel
theorem dX4_gather_30 : decode cX4_gather 30 = .ok (.aload_n 0, 1) := by decide +kernel
theorem dX4_gather_31 : decode cX4_gather 31 = .ok (.getfield 21, 3) := by decide +kernel
theorem dX4_gather_34 : decode cX4_gather 34 = .ok (.iload 4, 2) := by decide +kernel
theorem dX4_gather_36 : decode cX4_gather 36 = .ok (.iaload, 1) := by decide +kernel
theorem dX4_gather_37 : decode cX4_gather 37 = .ok (.istore_n 2, 1) := by decide +kernel
theorem dX4_gather_38 : decode cX4_gather 38 = .ok (.goto 11, 3) := by decide +kernel
theorem dX4_gather_41 : decode cX4_gather 41 = .ok (.aload_n 0, 1) := by decide +kernel
theorem dX4_gather_42 : decode cX4_gather 42 = .ok (.getfield 21, 3) := by decide +kernel
theorem dX4_gather_45 : decode cX4_gather 45 = .ok (.iload 4, 2) := by decide +kernel
theorem dX4_gather_47 : decode cX4_gather 47 = .ok (.iaload, 1) := by decide +kernel
theorem dX4_gather_48 : decode cX4_gather 48 = .ok (.istore_n 3, 1) := by decide +kernel
theorem dX4_gather_49 : decode cX4_gather 49 = .ok (.iinc 4 1, 3) := by decide +kernel
theorem dX4_gather_52 : decode cX4_gather 52 = .ok (.goto (-44), 3) := by decide +kernel
theorem dX4_gather_55 : decode cX4_gather 55 = .ok (.iconst 0, 1) := by decide +kernel
theorem dX4_gather_56 : decode cX4_gather 56 = .ok (.istore 4, 2) := by decide +kernel
theorem dX4_gather_58 : decode cX4_gather 58 = .ok (.iload_n 2, 1) := by decide +kernel
theorem dX4_gather_59 : decode cX4_gather 59 = .ok (.iconst 1, 1) := by decide +kernel
theorem dX4_gather_60 : decode cX4_gather 60 = .ok (.iadd, 1) := by decide +kernel
theorem dX4_gather_61 : decode cX4_gather 61 = .ok (.istore 5, 2) := by decide +kernel
theorem dX4_gather_63 : decode cX4_gather 63 = .ok (.iload 5, 2) := by decide +kernel
theorem dX4_gather_65 : decode cX4_gather 65 = .ok (.iload_n 3, 1) := by decide +kernel
theorem dX4_gather_66 : decode cX4_gather 66 = .ok (.if_icmp .ge 41, 3) := by decide +kernel
theorem dX4_gather_69 : decode cX4_gather 69 = .ok (.iload 4, 2) := by decide +kernel
theorem dX4_gather_71 : decode cX4_gather 71 = .ok (.aload_n 0, 1) := by decide +kernel
theorem dX4_gather_72 : decode cX4_gather 72 = .ok (.getfield 24, 3) := by decide +kernel
theorem dX4_gather_75 : decode cX4_gather 75 = .ok (.arraylength, 1) := by decide +kernel
theorem dX4_gather_76 : decode cX4_gather 76 = .ok (.if_icmp .ge 31, 3) := by decide +kernel
theorem dX4_gather_79 : decode cX4_gather 79 = .ok (.aload_n 0, 1) := by decide +kernel
theorem dX4_gather_80 : decode cX4_gather 80 = .ok (.getfield 18, 3) := by decide +kernel
theorem dX4_gather_83 : decode cX4_gather 83 = .ok (.iload 5, 2) := by decide +kernel
theorem dX4_gather_85 : decode cX4_gather 85 = .ok (.iaload, 1) := by decide +kernel
theorem dX4_gather_86 : decode cX4_gather 86 = .ok (.ifCond .le 15, 3) := by decide +kernel
theorem dX4_gather_89 : decode cX4_gather 89 = .ok (.aload_n 0, 1) := by decide +kernel
theorem dX4_gather_90 : decode cX4_gather 90 = .ok (.getfield 24, 3) := by decide +kernel
theorem dX4_gather_93 : decode cX4_gather 93 = .ok (.iload 4, 2) := by decide +kernel
theorem dX4_gather_95 : decode cX4_gather 95 = .ok (.iload 5, 2) := by decide +kernel
theorem dX4_gather_97 : decode cX4_gather 97 = .ok (.iastore, 1) := by decide +kernel
theorem dX4_gather_98 : decode cX4_gather 98 = .ok (.iinc 4 1, 3) := by decide +kernel
theorem dX4_gather_101 : decode cX4_gather 101 = .ok (.iinc 5 1, 3) := by decide +kernel
theorem dX4_gather_104 : decode cX4_gather 104 = .ok (.goto (-41), 3) := by decide +kernel
theorem dX4_gather_107 : decode cX4_gather 107 = .ok (.iload 4, 2) := by decide +kernel
theorem dX4_gather_109 : decode cX4_gather 109 = .ok (.ireturn, 1) := by decide +kernel
set_option maxRecDepth 20000 in
theorem ggX4_flat_X4_flat : GoodIn wsX4_flat wsX4_flat := goodIn_r _ [0, 1, 2, 3, 4, 5, 6, 7, 8, 9, 10, 11, 12, 13, 14, 15, 16, 17, 18, 19] (by decide +kernel) (by decide +kernel)
set_option maxRecDepth 20000 in
theorem gX4_flat_X4_flat : GoodIn wsX4_flat (va_wsS RX4 124 yX4_flat wsX4_flat) := goodIn_app (goodIn_of _ (by decide +kernel)) ggX4_flat_X4_flat
theorem dX4_flat_0 : decode cX4_flat 0 = .ok (.iload_n 1, 1) := by decide +kernel
theorem dX4_flat_1 : decode cX4_flat 1 = .ok (.ifCond .lt 20, 3) := by decide +kernel
theorem dX4_flat_4 : decode cX4_flat 4 = .ok (.iload_n 2, 1) := by decide +kernel
theorem dX4_flat_5 : decode cX4_flat 5 = .ok (.bipush 40, 2) := by decide +kernel
theorem dX4_flat_7 : decode cX4_flat 7 = .ok (.if_icmp .ge 14, 3) := by decide +kernel
theorem dX4_flat_10 : decode cX4_flat 10 = .ok (.iload_n 1, 1) := by decide +kernel
theorem dX4_flat_11 : decode cX4_flat 11 = .ok (.iload_n 2, 1) := by decide +kernel
theorem dX4_flat_12 : decode cX4_flat 12 = .ok (.if_icmp .gt 9, 3) := by decide +kernel
theorem dX4_flat_15 : decode cX4_flat 15 = .ok (.iload_n 3, 1) := by decide +kernel
theorem dX4_flat_16 : decode cX4_flat 16 = .ok (.bipush 40, 2) := by decide +kernel
theorem dX4_flat_18 : decode cX4_flat 18 = .ok (.if_icmp .le 5, 3) := by decide +kernel
theorem dX4_flat_21 : decode cX4_flat 21 = .ok (.iconst (-1), 1) := by decide +kernel
theorem dX4_flat_22 : decode cX4_flat 22 = .ok (.ireturn, 1) := by decide +kernel
theorem dX4_flat_23 : decode cX4_flat 23 = .ok (.iload_n 1, 1) := by decide +kernel
theorem dX4_flat_24 : decode cX4_flat 24 = .ok (.iload_n 2, 1) := by decide +kernel
theorem dX4_flat_25 : decode cX4_flat 25 = .ok (.iadd, 1) := by decide +kernel
theorem dX4_flat_26 : decode cX4_flat 26 = .ok (.iconst 2, 1) := by decide +kernel
theorem dX4_flat_27 : decode cX4_flat 27 = .ok (.idiv, 1) := by decide +kernel
theorem dX4_flat_28 : decode cX4_flat 28 = .ok (.istore 4, 2) := by decide +kernel
theorem dX4_flat_30 : decode cX4_flat 30 = .ok (.aload_n 0, 1) := by decide +kernel
theorem dX4_flat_31 : decode cX4_flat 31 = .ok (.getfield 24, 3) := by decide +kernel
theorem dX4_flat_34 : decode cX4_flat 34 = .ok (.iload 4, 2) := by decide +kernel
theorem dX4_flat_36 : decode cX4_flat 36 = .ok (.iaload, 1) := by decide +kernel
theorem dX4_flat_37 : decode cX4_flat 37 = .ok (.istore 5, 2) := by decide +kernel
theorem dX4_flat_39 : decode cX4_flat 39 = .ok (.aload_n 0, 1) := by decide +kernel
theorem dX4_flat_40 : decode cX4_flat 40 = .ok (.getfield 9, 3) := by decide +kernel
theorem dX4_flat_43 : decode cX4_flat 43 = .ok (.iload 5, 2) := by decide +kernel
theorem dX4_flat_45 : decode cX4_flat 45 = .ok (.aload_n 0, 1) := by decide +kernel
theorem dX4_flat_46 : decode cX4_flat 46 = .ok (.iload_n 1, 1) := by decide +kernel
theorem dX4_flat_47 : decode cX4_flat 47 = .ok (.iload 4, 2) := by decide +kernel
theorem dX4_flat_49 : decode cX4_flat 49 = .ok (.iconst 1, 1) := by decide +kernel
theorem dX4_flat_50 : decode cX4_flat 50 = .ok (.isub, 1) := by decide +kernel
theorem dX4_flat_51 : decode cX4_flat 51 = .ok (.iload_n 3, 1) := by decide +kernel
theorem dX4_flat_52 : decode cX4_flat 52 = .ok (.iconst 1, 1) := by decide +kernel
theorem dX4_flat_53 : decode cX4_flat 53 = .ok (.iadd, 1) := by decide +kernel
theorem dX4_flat_54 : decode cX4_flat 54 = .ok (.invokestatic 124, 3) := by decide +kernel
theorem dX4_flat_57 : decode cX4_flat 57 = .ok (.iastore, 1) := by decide +kernel
theorem dX4_flat_58 : decode cX4_flat 58 = .ok (.aload_n 0, 1) := by decide +kernel
theorem dX4_flat_59 : decode cX4_flat 59 = .ok (.getfield 15, 3) := by decide +kernel
theorem dX4_flat_62 : decode cX4_flat 62 = .ok (.iload 5, 2) := by decide +kernel
theorem dX4_flat_64 : decode cX4_flat 64 = .ok (.aload_n 0, 1) := by decide +kernel
theorem dX4_flat_65 : decode cX4_flat 65 = .ok (.iload 4, 2) := by decide +kernel
theorem dX4_flat_67 : decode cX4_flat 67 = .ok (.iconst 1, 1) := by decide +kernel
theorem dX4_flat_68 : decode cX4_flat 68 = .ok (.iadd, 1) := by decide +kernel
theorem dX4_flat_69 : decode cX4_flat 69 = .ok (.iload_n 2, 1) := by decide +kernel
theorem dX4_flat_70 : decode cX4_flat 70 = .ok (.iload_n 3, 1) := by decide +kernel
theorem dX4_flat_71 : decode cX4_flat 71 = .ok (.iconst 1, 1) := by decide +kernel
theorem dX4_flat_72 : decode cX4_flat 72 = .ok (.iadd, 1) := by decide +kernel
theorem dX4_flat_73 : decode cX4_flat 73 = .ok (.invokestatic 124, 3) := by decide +kernel
theorem dX4_flat_76 : decode cX4_flat 76 = .ok (.iastore, 1) := by decide +kernel
theorem dX4_flat_77 : decode cX4_flat 77 = .ok (.aload_n 0, 1) := by decide +kernel
theorem dX4_flat_78 : decode cX4_flat 78 = .ok (.getfield 18, 3) := by decide +kernel
theorem dX4_flat_81 : decode cX4_flat 81 = .ok (.iload 5, 2) := by decide +kernel
theorem dX4_flat_83 : decode cX4_flat 83 = .ok (.iload_n 2, 1) := by decide +kernel
theorem dX4_flat_84 : decode cX4_flat 84 = .ok (.iload_n 1, 1) := by decide +kernel
theorem dX4_flat_85 : decode cX4_flat 85 = .ok (.isub, 1) := by decide +kernel
theorem dX4_flat_86 : decode cX4_flat 86 = .ok (.iconst 1, 1) := by decide +kernel
theorem dX4_flat_87 : decode cX4_flat 87 = .ok (.iadd, 1) := by decide +kernel
theorem dX4_flat_88 : decode cX4_flat 88 = .ok (.iastore, 1) := by decide +kernel
theorem dX4_flat_89 : decode cX4_flat 89 = .ok (.iload 5, 2) := by decide +kernel
theorem dX4_flat_91 : decode cX4_flat 91 = .ok (.ireturn, 1) := by decide +kernel
