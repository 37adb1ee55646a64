theorem dX0_init_0 : decode cX0_init 0 = .ok (.aload_n 0, 1) := by decide +kernel
theorem dX0_init_1 : decode cX0_init 1 = .ok (.invokespecial 1, 3) := by decide +kernel
theorem dX0_init_4 : decode cX0_init 4 = .ok (.aload_n 0, 1) := by decide +kernel
theorem dX0_init_5 : decode cX0_init 5 = .ok (.bipush 60, 2) := by decide +kernel
theorem dX0_init_7 : decode cX0_init 7 = .ok (.newarray .int, 2) := by decide +kernel
theorem dX0_init_9 : decode cX0_init 9 = .ok (.putfield 9, 3) := by decide +kernel
theorem dX0_init_12 : decode cX0_init 12 = .ok (.return_, 1) := by decide +kernel
theorem dX0_add_0 : decode cX0_add 0 = .ok (.aload_n 0, 1) := by decide +kernel
theorem dX0_add_1 : decode cX0_add 1 = .ok (.getfield 13, 3) := by decide +kernel
theorem dX0_add_4 : decode cX0_add 4 = .ok (.aload_n 0, 1) := by decide +kernel
theorem dX0_add_5 : decode cX0_add 5 = .ok (.getfield 9, 3) := by decide +kernel
theorem dX0_add_8 : decode cX0_add 8 = .ok (.arraylength, 1) := by decide +kernel
theorem dX0_add_9 : decode cX0_add 9 = .ok (.if_icmp .ge 23, 3) := by decide +kernel
theorem dX0_add_12 : decode cX0_add 12 = .ok (.aload_n 0, 1) := by decide +kernel
theorem dX0_add_13 : decode cX0_add 13 = .ok (.getfield 9, 3) := by decide +kernel
theorem dX0_add_16 : decode cX0_add 16 = .ok (.aload_n 0, 1) := by decide +kernel
theorem dX0_add_17 : decode cX0_add 17 = .ok (.getfield 13, 3) := by decide +kernel
theorem dX0_add_20 : decode cX0_add 20 = .ok (.iload_n 1, 1) := by decide +kernel
theorem dX0_add_21 : decode cX0_add 21 = .ok (.iastore, 1) := by decide +kernel
theorem dX0_add_22 : decode cX0_add 22 = .ok (.aload_n 0, 1) := by decide +kernel
theorem dX0_add_23 : decode cX0_add 23 = .ok (.dup, 1) := by decide +kernel
theorem dX0_add_24 : decode cX0_add 24 = .ok (.getfield 13, 3) := by decide +kernel
theorem dX0_add_27 : decode cX0_add 27 = .ok (.iconst 1, 1) := by decide +kernel
theorem dX0_add_28 : decode cX0_add 28 = .ok (.iadd, 1) := by decide +kernel
theorem dX0_add_29 : decode cX0_add 29 = .ok (.putfield 13, 3) := by decide +kernel
theorem dX0_add_32 : decode cX0_add 32 = .ok (.return_, 1) := by decide +kernel
theorem dX0_copy_0 : decode cX0_copy 0 = .ok (.aload_n 1, 1) := by decide +kernel
theorem dX0_copy_1 : decode cX0_copy 1 = .ok (.getfield 9, 3) := by decide +kernel
theorem dX0_copy_4 : decode cX0_copy 4 = .ok (.iconst 0, 1) := by decide +kernel
theorem dX0_copy_5 : decode cX0_copy 5 = .ok (.aload_n 0, 1) := by decide +kernel
theorem dX0_copy_6 : decode cX0_copy 6 = .ok (.getfield 9, 3) := by decide +kernel
theorem dX0_copy_9 : decode cX0_copy 9 = .ok (.iconst 0, 1) := by decide +kernel
theorem dX0_copy_10 : decode cX0_copy 10 = .ok (.bipush 60, 2) := by decide +kernel
theorem dX0_copy_12 : decode cX0_copy 12 = .ok (.invokestatic 17, 3) := by decide +kernel
theorem dX0_copy_15 : decode cX0_copy 15 = .ok (.aload_n 0, 1) := by decide +kernel
theorem dX0_copy_16 : decode cX0_copy 16 = .ok (.aload_n 1, 1) := by decide +kernel
theorem dX0_copy_17 : decode cX0_copy 17 = .ok (.getfield 13, 3) := by decide +kernel
theorem dX0_copy_20 : decode cX0_copy 20 = .ok (.putfield 13, 3) := by decide +kernel
theorem dX0_copy_23 : decode cX0_copy 23 = .ok (.return_, 1) := by decide +kernel
