theorem dX4_init_0 : decode cX4_init 0 = .ok (.aload_n 0, 1) := by decide +kernel
theorem dX4_init_1 : decode cX4_init 1 = .ok (.invokespecial 1, 3) := by decide +kernel
theorem dX4_init_4 : decode cX4_init 4 = .ok (.aload_n 0, 1) := by decide +kernel
theorem dX4_init_5 : decode cX4_init 5 = .ok (.iconst 2, 1) := by decide +kernel
theorem dX4_init_6 : decode cX4_init 6 = .ok (.newarray .int, 2) := by decide +kernel
theorem dX4_init_8 : decode cX4_init 8 = .ok (.putfield 7, 3) := by decide +kernel
theorem dX4_init_11 : decode cX4_init 11 = .ok (.aload_n 0, 1) := by decide +kernel
theorem dX4_init_12 : decode cX4_init 12 = .ok (.iconst 2, 1) := by decide +kernel
theorem dX4_init_13 : decode cX4_init 13 = .ok (.newarray .int, 2) := by decide +kernel
theorem dX4_init_15 : decode cX4_init 15 = .ok (.putfield 13, 3) := by decide +kernel
theorem dX4_init_18 : decode cX4_init 18 = .ok (.return_, 1) := by decide +kernel
theorem dX4_keep_0 : decode cX4_keep 0 = .ok (.aload_n 0, 1) := by decide +kernel
theorem dX4_keep_1 : decode cX4_keep 1 = .ok (.getfield 7, 3) := by decide +kernel
theorem dX4_keep_4 : decode cX4_keep 4 = .ok (.iconst 0, 1) := by decide +kernel
theorem dX4_keep_5 : decode cX4_keep 5 = .ok (.iload_n 1, 1) := by decide +kernel
theorem dX4_keep_6 : decode cX4_keep 6 = .ok (.iastore, 1) := by decide +kernel
theorem dX4_keep_7 : decode cX4_keep 7 = .ok (.aload_n 0, 1) := by decide +kernel
theorem dX4_keep_8 : decode cX4_keep 8 = .ok (.getfield 13, 3) := by decide +kernel
theorem dX4_keep_11 : decode cX4_keep 11 = .ok (.iconst 0, 1) := by decide +kernel
theorem dX4_keep_12 : decode cX4_keep 12 = .ok (.iload_n 2, 1) := by decide +kernel
theorem dX4_keep_13 : decode cX4_keep 13 = .ok (.iastore, 1) := by decide +kernel
theorem dX4_keep_14 : decode cX4_keep 14 = .ok (.aload_n 0, 1) := by decide +kernel
theorem dX4_keep_15 : decode cX4_keep 15 = .ok (.iconst 1, 1) := by decide +kernel
theorem dX4_keep_16 : decode cX4_keep 16 = .ok (.putfield 16, 3) := by decide +kernel
theorem dX4_keep_19 : decode cX4_keep 19 = .ok (.return_, 1) := by decide +kernel
theorem dX4_keepBehind_0 : decode cX4_keepBehind 0 = .ok (.aload_n 0, 1) := by decide +kernel
theorem dX4_keepBehind_1 : decode cX4_keepBehind 1 = .ok (.getfield 7, 3) := by decide +kernel
theorem dX4_keepBehind_4 : decode cX4_keepBehind 4 = .ok (.iconst 1, 1) := by decide +kernel
theorem dX4_keepBehind_5 : decode cX4_keepBehind 5 = .ok (.iload_n 1, 1) := by decide +kernel
theorem dX4_keepBehind_6 : decode cX4_keepBehind 6 = .ok (.iastore, 1) := by decide +kernel
theorem dX4_keepBehind_7 : decode cX4_keepBehind 7 = .ok (.aload_n 0, 1) := by decide +kernel
theorem dX4_keepBehind_8 : decode cX4_keepBehind 8 = .ok (.getfield 13, 3) := by decide +kernel
theorem dX4_keepBehind_11 : decode cX4_keepBehind 11 = .ok (.iconst 1, 1) := by decide +kernel
theorem dX4_keepBehind_12 : decode cX4_keepBehind 12 = .ok (.iload_n 2, 1) := by decide +kernel
theorem dX4_keepBehind_13 : decode cX4_keepBehind 13 = .ok (.iastore, 1) := by decide +kernel
theorem dX4_keepBehind_14 : decode cX4_keepBehind 14 = .ok (.aload_n 0, 1) := by decide +kernel
theorem dX4_keepBehind_15 : decode cX4_keepBehind 15 = .ok (.iconst 2, 1) := by decide +kernel
theorem dX4_keepBehind_16 : decode cX4_keepBehind 16 = .ok (.putfield 16, 3) := by decide +kernel
theorem dX4_keepBehind_19 : decode cX4_keepBehind 19 = .ok (.return_, 1) := by decide +kernel
