theorem dX2_init_0 : decode cX2_init 0 = .ok (.aload_n 0, 1) := by decide +kernel
theorem dX2_init_1 : decode cX2_init 1 = .ok (.invokespecial 3, 3) := by decide +kernel
theorem dX2_init_4 : decode cX2_init 4 = .ok (.aload_n 0, 1) := by decide +kernel
theorem dX2_init_5 : decode cX2_init 5 = .ok (.bipush 6, 2) := by decide +kernel
theorem dX2_init_7 : decode cX2_init 7 = .ok (.newarray .int, 2) := by decide +kernel
theorem dX2_init_9 : decode cX2_init 9 = .ok (.putfield 11, 3) := by decide +kernel
theorem dX2_init_12 : decode cX2_init 12 = .ok (.aload_n 0, 1) := by decide +kernel
theorem dX2_init_13 : decode cX2_init 13 = .ok (.bipush 6, 2) := by decide +kernel
theorem dX2_init_15 : decode cX2_init 15 = .ok (.newarray .int, 2) := by decide +kernel
theorem dX2_init_17 : decode cX2_init 17 = .ok (.putfield 15, 3) := by decide +kernel
theorem dX2_init_20 : decode cX2_init 20 = .ok (.return_, 1) := by decide +kernel
theorem dX2_add_0 : decode cX2_add 0 = .ok (.aload_n 0, 1) := by decide +kernel
theorem dX2_add_1 : decode cX2_add 1 = .ok (.getfield 18, 3) := by decide +kernel
theorem dX2_add_4 : decode cX2_add 4 = .ok (.aload_n 0, 1) := by decide +kernel
theorem dX2_add_5 : decode cX2_add 5 = .ok (.getfield 11, 3) := by decide +kernel
theorem dX2_add_8 : decode cX2_add 8 = .ok (.arraylength, 1) := by decide +kernel
theorem dX2_add_9 : decode cX2_add 9 = .ok (.if_icmp .lt 5, 3) := by decide +kernel
theorem dX2_add_12 : decode cX2_add 12 = .ok (.iconst 0, 1) := by decide +kernel
theorem dX2_add_13 : decode cX2_add 13 = .ok (.ireturn, 1) := by decide +kernel
theorem dX2_add_14 : decode cX2_add 14 = .ok (.aload_n 0, 1) := by decide +kernel
theorem dX2_add_15 : decode cX2_add 15 = .ok (.getfield 11, 3) := by decide +kernel
theorem dX2_add_18 : decode cX2_add 18 = .ok (.aload_n 0, 1) := by decide +kernel
theorem dX2_add_19 : decode cX2_add 19 = .ok (.getfield 18, 3) := by decide +kernel
theorem dX2_add_22 : decode cX2_add 22 = .ok (.iload_n 1, 1) := by decide +kernel
theorem dX2_add_23 : decode cX2_add 23 = .ok (.iastore, 1) := by decide +kernel
theorem dX2_add_24 : decode cX2_add 24 = .ok (.aload_n 0, 1) := by decide +kernel
theorem dX2_add_25 : decode cX2_add 25 = .ok (.getfield 15, 3) := by decide +kernel
theorem dX2_add_28 : decode cX2_add 28 = .ok (.aload_n 0, 1) := by decide +kernel
theorem dX2_add_29 : decode cX2_add 29 = .ok (.getfield 18, 3) := by decide +kernel
theorem dX2_add_32 : decode cX2_add 32 = .ok (.iload_n 2, 1) := by decide +kernel
theorem dX2_add_33 : decode cX2_add 33 = .ok (.iastore, 1) := by decide +kernel
theorem dX2_add_34 : decode cX2_add 34 = .ok (.aload_n 0, 1) := by decide +kernel
theorem dX2_add_35 : decode cX2_add 35 = .ok (.dup, 1) := by decide +kernel
theorem dX2_add_36 : decode cX2_add 36 = .ok (.getfield 18, 3) := by decide +kernel
theorem dX2_add_39 : decode cX2_add 39 = .ok (.iconst 1, 1) := by decide +kernel
theorem dX2_add_40 : decode cX2_add 40 = .ok (.iadd, 1) := by decide +kernel
theorem dX2_add_41 : decode cX2_add 41 = .ok (.putfield 18, 3) := by decide +kernel
theorem dX2_add_44 : decode cX2_add 44 = .ok (.iconst 1, 1) := by decide +kernel
theorem dX2_add_45 : decode cX2_add 45 = .ok (.ireturn, 1) := by decide +kernel
theorem dX2_sortsOf_0 : decode cX2_sortsOf 0 = .ok (.bipush 31, 2) := by decide +kernel
theorem dX2_sortsOf_2 : decode cX2_sortsOf 2 = .ok (.istore_n 2, 1) := by decide +kernel
theorem dX2_sortsOf_3 : decode cX2_sortsOf 3 = .ok (.iconst 0, 1) := by decide +kernel
theorem dX2_sortsOf_4 : decode cX2_sortsOf 4 = .ok (.istore_n 3, 1) := by decide +kernel
theorem dX2_sortsOf_5 : decode cX2_sortsOf 5 = .ok (.iload_n 3, 1) := by decide +kernel
theorem dX2_sortsOf_6 : decode cX2_sortsOf 6 = .ok (.aload_n 0, 1) := by decide +kernel
theorem dX2_sortsOf_7 : decode cX2_sortsOf 7 = .ok (.getfield 18, 3) := by decide +kernel
theorem dX2_sortsOf_10 : decode cX2_sortsOf 10 = .ok (.if_icmp .ge 28, 3) := by decide +kernel
theorem dX2_sortsOf_13 : decode cX2_sortsOf 13 = .ok (.aload_n 0, 1) := by decide +kernel
theorem dX2_sortsOf_14 : decode cX2_sortsOf 14 = .ok (.getfield 11, 3) := by decide +kernel
theorem dX2_sortsOf_17 : decode cX2_sortsOf 17 = .ok (.iload_n 3, 1) := by decide +kernel
theorem dX2_sortsOf_18 : decode cX2_sortsOf 18 = .ok (.iaload, 1) := by decide +kernel
theorem dX2_sortsOf_19 : decode cX2_sortsOf 19 = .ok (.iload_n 1, 1) := by decide +kernel
theorem dX2_sortsOf_20 : decode cX2_sortsOf 20 = .ok (.if_icmp .ne 12, 3) := by decide +kernel
theorem dX2_sortsOf_23 : decode cX2_sortsOf 23 = .ok (.iload_n 2, 1) := by decide +kernel
theorem dX2_sortsOf_24 : decode cX2_sortsOf 24 = .ok (.aload_n 0, 1) := by decide +kernel
theorem dX2_sortsOf_25 : decode cX2_sortsOf 25 = .ok (.getfield 15, 3) := by decide +kernel
theorem dX2_sortsOf_28 : decode cX2_sortsOf 28 = .ok (.iload_n 3, 1) := by decide +kernel
theorem dX2_sortsOf_29 : decode cX2_sortsOf 29 = .ok (.iaload, 1) := by decide +kernel
theorem dX2_sortsOf_30 : decode cX2_sortsOf 30 = .ok (.iand, 1) := by decide +kernel
theorem dX2_sortsOf_31 : decode cX2_sortsOf 31 = .ok (.istore_n 2, 1) := by decide +kernel
theorem dX2_sortsOf_32 : decode cX2_sortsOf 32 = .ok (.iinc 3 1, 3) := by decide +kernel
theorem dX2_sortsOf_35 : decode cX2_sortsOf 35 = .ok (.goto (-30), 3) := by decide +kernel
theorem dX2_sortsOf_38 : decode cX2_sortsOf 38 = .ok (.iload_n 2, 1) := by decide +kernel
theorem dX2_sortsOf_39 : decode cX2_sortsOf 39 = .ok (.ireturn, 1) := by decide +kernel
theorem dX2_copy_0 : decode cX2_copy 0 = .ok (.aload_n 1, 1) := by decide +kernel
theorem dX2_copy_1 : decode cX2_copy 1 = .ok (.getfield 11, 3) := by decide +kernel
theorem dX2_copy_4 : decode cX2_copy 4 = .ok (.iconst 0, 1) := by decide +kernel
theorem dX2_copy_5 : decode cX2_copy 5 = .ok (.aload_n 0, 1) := by decide +kernel
theorem dX2_copy_6 : decode cX2_copy 6 = .ok (.getfield 11, 3) := by decide +kernel
theorem dX2_copy_9 : decode cX2_copy 9 = .ok (.iconst 0, 1) := by decide +kernel
theorem dX2_copy_10 : decode cX2_copy 10 = .ok (.bipush 6, 2) := by decide +kernel
theorem dX2_copy_12 : decode cX2_copy 12 = .ok (.invokestatic 22, 3) := by decide +kernel
theorem dX2_copy_15 : decode cX2_copy 15 = .ok (.aload_n 1, 1) := by decide +kernel
theorem dX2_copy_16 : decode cX2_copy 16 = .ok (.getfield 15, 3) := by decide +kernel
theorem dX2_copy_19 : decode cX2_copy 19 = .ok (.iconst 0, 1) := by decide +kernel
theorem dX2_copy_20 : decode cX2_copy 20 = .ok (.aload_n 0, 1) := by decide +kernel
theorem dX2_copy_21 : decode cX2_copy 21 = .ok (.getfield 15, 3) := by decide +kernel
theorem dX2_copy_24 : decode cX2_copy 24 = .ok (.iconst 0, 1) := by decide +kernel
theorem dX2_copy_25 : decode cX2_copy 25 = .ok (.bipush 6, 2) := by decide +kernel
theorem dX2_copy_27 : decode cX2_copy 27 = .ok (.invokestatic 22, 3) := by decide +kernel
theorem dX2_copy_30 : decode cX2_copy 30 = .ok (.aload_n 0, 1) := by decide +kernel
theorem dX2_copy_31 : decode cX2_copy 31 = .ok (.aload_n 1, 1) := by decide +kernel
theorem dX2_copy_32 : decode cX2_copy 32 = .ok (.getfield 18, 3) := by decide +kernel
theorem dX2_copy_35 : decode cX2_copy 35 = .ok (.putfield 18, 3) := by decide +kernel
theorem dX2_copy_38 : decode cX2_copy 38 = .ok (.return_, 1) := by decide +kernel
