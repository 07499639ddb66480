theorem dX3_init_0 : decode cX3_init 0 = .ok (.aload_n 0, 1) := by decide +kernel
theorem dX3_init_1 : decode cX3_init 1 = .ok (.invokespecial 3, 3) := by decide +kernel
theorem dX3_init_4 : decode cX3_init 4 = .ok (.aload_n 0, 1) := by decide +kernel
theorem dX3_init_5 : decode cX3_init 5 = .ok (.sipush 140, 3) := by decide +kernel
theorem dX3_init_8 : decode cX3_init 8 = .ok (.newarray .char, 2) := by decide +kernel
theorem dX3_init_10 : decode cX3_init 10 = .ok (.putfield 9, 3) := by decide +kernel
theorem dX3_init_13 : decode cX3_init 13 = .ok (.return_, 1) := by decide +kernel
theorem dX3_clear_0 : decode cX3_clear 0 = .ok (.aload_n 0, 1) := by decide +kernel
theorem dX3_clear_1 : decode cX3_clear 1 = .ok (.iconst 0, 1) := by decide +kernel
theorem dX3_clear_2 : decode cX3_clear 2 = .ok (.putfield 15, 3) := by decide +kernel
theorem dX3_clear_5 : decode cX3_clear 5 = .ok (.return_, 1) := by decide +kernel
theorem dX3_put_0 : decode cX3_put 0 = .ok (.aload_n 0, 1) := by decide +kernel
theorem dX3_put_1 : decode cX3_put 1 = .ok (.getfield 15, 3) := by decide +kernel
theorem dX3_put_4 : decode cX3_put 4 = .ok (.sipush 140, 3) := by decide +kernel
theorem dX3_put_7 : decode cX3_put 7 = .ok (.if_icmp .ge 23, 3) := by decide +kernel
theorem dX3_put_10 : decode cX3_put 10 = .ok (.aload_n 0, 1) := by decide +kernel
theorem dX3_put_11 : decode cX3_put 11 = .ok (.getfield 9, 3) := by decide +kernel
theorem dX3_put_14 : decode cX3_put 14 = .ok (.aload_n 0, 1) := by decide +kernel
theorem dX3_put_15 : decode cX3_put 15 = .ok (.getfield 15, 3) := by decide +kernel
theorem dX3_put_18 : decode cX3_put 18 = .ok (.iload_n 1, 1) := by decide +kernel
theorem dX3_put_19 : decode cX3_put 19 = .ok (.castore, 1) := by decide +kernel
theorem dX3_put_20 : decode cX3_put 20 = .ok (.aload_n 0, 1) := by decide +kernel
theorem dX3_put_21 : decode cX3_put 21 = .ok (.dup, 1) := by decide +kernel
theorem dX3_put_22 : decode cX3_put 22 = .ok (.getfield 15, 3) := by decide +kernel
theorem dX3_put_25 : decode cX3_put 25 = .ok (.iconst 1, 1) := by decide +kernel
theorem dX3_put_26 : decode cX3_put 26 = .ok (.iadd, 1) := by decide +kernel
theorem dX3_put_27 : decode cX3_put 27 = .ok (.putfield 15, 3) := by decide +kernel
theorem dX3_put_30 : decode cX3_put 30 = .ok (.return_, 1) := by decide +kernel
theorem dX3_putMood_0 : decode cX3_putMood 0 = .ok (.bipush 12, 2) := by decide +kernel
theorem dX3_putMood_2 : decode cX3_putMood 2 = .ok (.istore_n 2, 1) := by decide +kernel
theorem dX3_putMood_3 : decode cX3_putMood 3 = .ok (.iload_n 2, 1) := by decide +kernel
theorem dX3_putMood_4 : decode cX3_putMood 4 = .ok (.ifCond .lt 41, 3) := by decide +kernel
theorem dX3_putMood_7 : decode cX3_putMood 7 = .ok (.iload_n 1, 1) := by decide +kernel
theorem dX3_putMood_8 : decode cX3_putMood 8 = .ok (.iload_n 2, 1) := by decide +kernel
theorem dX3_putMood_9 : decode cX3_putMood 9 = .ok (.ishr, 1) := by decide +kernel
theorem dX3_putMood_10 : decode cX3_putMood 10 = .ok (.bipush 15, 2) := by decide +kernel
theorem dX3_putMood_12 : decode cX3_putMood 12 = .ok (.iand, 1) := by decide +kernel
theorem dX3_putMood_13 : decode cX3_putMood 13 = .ok (.istore_n 3, 1) := by decide +kernel
theorem dX3_putMood_14 : decode cX3_putMood 14 = .ok (.aload_n 0, 1) := by decide +kernel
theorem dX3_putMood_15 : decode cX3_putMood 15 = .ok (.iload_n 3, 1) := by decide +kernel
theorem dX3_putMood_16 : decode cX3_putMood 16 = .ok (.bipush 10, 2) := by decide +kernel
theorem dX3_putMood_18 : decode cX3_putMood 18 = .ok (.if_icmp .ge 10, 3) := by decide +kernel
theorem dX3_putMood_21 : decode cX3_putMood 21 = .ok (.bipush 48, 2) := by decide +kernel
theorem dX3_putMood_23 : decode cX3_putMood 23 = .ok (.iload_n 3, 1) := by decide +kernel
theorem dX3_putMood_24 : decode cX3_putMood 24 = .ok (.iadd, 1) := by decide +kernel
theorem dX3_putMood_25 : decode cX3_putMood 25 = .ok (.goto 10, 3) := by decide +kernel
theorem dX3_putMood_28 : decode cX3_putMood 28 = .ok (.bipush 97, 2) := by decide +kernel
theorem dX3_putMood_30 : decode cX3_putMood 30 = .ok (.iload_n 3, 1) := by decide +kernel
theorem dX3_putMood_31 : decode cX3_putMood 31 = .ok (.iadd, 1) := by decide +kernel
theorem dX3_putMood_32 : decode cX3_putMood 32 = .ok (.bipush 10, 2) := by decide +kernel
theorem dX3_putMood_34 : decode cX3_putMood 34 = .ok (.isub, 1) := by decide +kernel
theorem dX3_putMood_35 : decode cX3_putMood 35 = .ok (.i2c, 1) := by decide +kernel
theorem dX3_putMood_36 : decode cX3_putMood 36 = .ok (.invokevirtual 19, 3) := by decide +kernel
theorem dX3_putMood_39 : decode cX3_putMood 39 = .ok (.iinc 2 (-4), 3) := by decide +kernel
theorem dX3_putMood_42 : decode cX3_putMood 42 = .ok (.goto (-39), 3) := by decide +kernel
theorem dX3_putMood_45 : decode cX3_putMood 45 = .ok (.return_, 1) := by decide +kernel
theorem dX3_putNumber_0 : decode cX3_putNumber 0 = .ok (.iload_n 1, 1) := by decide +kernel
theorem dX3_putNumber_1 : decode cX3_putNumber 1 = .ok (.i2l, 1) := by decide +kernel
theorem dX3_putNumber_2 : decode cX3_putNumber 2 = .ok (.lstore_n 2, 1) := by decide +kernel
theorem dX3_putNumber_3 : decode cX3_putNumber 3 = .ok (.lload_n 2, 1) := by decide +kernel
theorem dX3_putNumber_4 : decode cX3_putNumber 4 = .ok (.lconst 0, 1) := by decide +kernel
theorem dX3_putNumber_5 : decode cX3_putNumber 5 = .ok (.lcmp, 1) := by decide +kernel
theorem dX3_putNumber_6 : decode cX3_putNumber 6 = .ok (.ifCond .ge 12, 3) := by decide +kernel
theorem dX3_putNumber_9 : decode cX3_putNumber 9 = .ok (.aload_n 0, 1) := by decide +kernel
theorem dX3_putNumber_10 : decode cX3_putNumber 10 = .ok (.bipush 45, 2) := by decide +kernel
theorem dX3_putNumber_12 : decode cX3_putNumber 12 = .ok (.invokevirtual 19, 3) := by decide +kernel
theorem dX3_putNumber_15 : decode cX3_putNumber 15 = .ok (.lload_n 2, 1) := by decide +kernel
theorem dX3_putNumber_16 : decode cX3_putNumber 16 = .ok (.lneg, 1) := by decide +kernel
theorem dX3_putNumber_17 : decode cX3_putNumber 17 = .ok (.lstore_n 2, 1) := by decide +kernel
theorem dX3_putNumber_18 : decode cX3_putNumber 18 = .ok (.ldc2_w 23, 3) := by decide +kernel
theorem dX3_putNumber_21 : decode cX3_putNumber 21 = .ok (.lstore 4, 2) := by decide +kernel
theorem dX3_putNumber_23 : decode cX3_putNumber 23 = .ok (.lload 4, 2) := by decide +kernel
theorem dX3_putNumber_25 : decode cX3_putNumber 25 = .ok (.lconst 0, 1) := by decide +kernel
theorem dX3_putNumber_26 : decode cX3_putNumber 26 = .ok (.lcmp, 1) := by decide +kernel
theorem dX3_putNumber_27 : decode cX3_putNumber 27 = .ok (.ifCond .le 46, 3) := by decide +kernel
theorem dX3_putNumber_30 : decode cX3_putNumber 30 = .ok (.lload_n 2, 1) := by decide +kernel
theorem dX3_putNumber_31 : decode cX3_putNumber 31 = .ok (.lload 4, 2) := by decide +kernel
theorem dX3_putNumber_33 : decode cX3_putNumber 33 = .ok (.lcmp, 1) := by decide +kernel
theorem dX3_putNumber_34 : decode cX3_putNumber 34 = .ok (.ifCond .ge 10, 3) := by decide +kernel
theorem dX3_putNumber_37 : decode cX3_putNumber 37 = .ok (.lload 4, 2) := by decide +kernel
theorem dX3_putNumber_39 : decode cX3_putNumber 39 = .ok (.lconst 1, 1) := by decide +kernel
theorem dX3_putNumber_40 : decode cX3_putNumber 40 = .ok (.lcmp, 1) := by decide +kernel
theorem dX3_putNumber_41 : decode cX3_putNumber 41 = .ok (.ifCond .ne 21, 3) := by decide +kernel
theorem dX3_putNumber_44 : decode cX3_putNumber 44 = .ok (.aload_n 0, 1) := by decide +kernel
theorem dX3_putNumber_45 : decode cX3_putNumber 45 = .ok (.ldc2_w 25, 3) := by decide +kernel
theorem dX3_putNumber_48 : decode cX3_putNumber 48 = .ok (.lload_n 2, 1) := by decide +kernel
theorem dX3_putNumber_49 : decode cX3_putNumber 49 = .ok (.lload 4, 2) := by decide +kernel
theorem dX3_putNumber_51 : decode cX3_putNumber 51 = .ok (.ldiv, 1) := by decide +kernel
theorem dX3_putNumber_52 : decode cX3_putNumber 52 = .ok (.ldc2_w 27, 3) := by decide +kernel
theorem dX3_putNumber_55 : decode cX3_putNumber 55 = .ok (.lrem, 1) := by decide +kernel
theorem dX3_putNumber_56 : decode cX3_putNumber 56 = .ok (.ladd, 1) := by decide +kernel
theorem dX3_putNumber_57 : decode cX3_putNumber 57 = .ok (.l2i, 1) := by decide +kernel
theorem dX3_putNumber_58 : decode cX3_putNumber 58 = .ok (.i2c, 1) := by decide +kernel
theorem dX3_putNumber_59 : decode cX3_putNumber 59 = .ok (.invokevirtual 19, 3) := by decide +kernel
theorem dX3_putNumber_62 : decode cX3_putNumber 62 = .ok (.lload 4, 2) := by decide +kernel
theorem dX3_putNumber_64 : decode cX3_putNumber 64 = .ok (.ldc2_w 27, 3) := by decide +kernel
theorem dX3_putNumber_67 : decode cX3_putNumber 67 = .ok (.ldiv, 1) := by decide +kernel
theorem dX3_putNumber_68 : decode cX3_putNumber 68 = .ok (.lstore 4, 2) := by decide +kernel
theorem dX3_putNumber_70 : decode cX3_putNumber 70 = .ok (.goto (-47), 3) := by decide +kernel
theorem dX3_putNumber_73 : decode cX3_putNumber 73 = .ok (.return_, 1) := by decide +kernel
