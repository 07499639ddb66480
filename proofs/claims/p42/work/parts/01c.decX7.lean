theorem dX7_init_0 : decode cX7_init 0 = .ok (.aload_n 0, 1) := by decide +kernel
theorem dX7_init_1 : decode cX7_init 1 = .ok (.invokespecial 3, 3) := by decide +kernel
theorem dX7_init_4 : decode cX7_init 4 = .ok (.aload_n 0, 1) := by decide +kernel
theorem dX7_init_5 : decode cX7_init 5 = .ok (.new 9, 3) := by decide +kernel
theorem dX7_init_8 : decode cX7_init 8 = .ok (.dup, 1) := by decide +kernel
theorem dX7_init_9 : decode cX7_init 9 = .ok (.invokespecial 11, 3) := by decide +kernel
theorem dX7_init_12 : decode cX7_init 12 = .ok (.putfield 12, 3) := by decide +kernel
theorem dX7_init_15 : decode cX7_init 15 = .ok (.aload_n 0, 1) := by decide +kernel
theorem dX7_init_16 : decode cX7_init 16 = .ok (.new 9, 3) := by decide +kernel
theorem dX7_init_19 : decode cX7_init 19 = .ok (.dup, 1) := by decide +kernel
theorem dX7_init_20 : decode cX7_init 20 = .ok (.invokespecial 11, 3) := by decide +kernel
theorem dX7_init_23 : decode cX7_init 23 = .ok (.putfield 16, 3) := by decide +kernel
theorem dX7_init_26 : decode cX7_init 26 = .ok (.aload_n 0, 1) := by decide +kernel
theorem dX7_init_27 : decode cX7_init 27 = .ok (.new 9, 3) := by decide +kernel
theorem dX7_init_30 : decode cX7_init 30 = .ok (.dup, 1) := by decide +kernel
theorem dX7_init_31 : decode cX7_init 31 = .ok (.invokespecial 11, 3) := by decide +kernel
theorem dX7_init_34 : decode cX7_init 34 = .ok (.putfield 19, 3) := by decide +kernel
theorem dX7_init_37 : decode cX7_init 37 = .ok (.aload_n 0, 1) := by decide +kernel
theorem dX7_init_38 : decode cX7_init 38 = .ok (.new 22, 3) := by decide +kernel
theorem dX7_init_41 : decode cX7_init 41 = .ok (.dup, 1) := by decide +kernel
theorem dX7_init_42 : decode cX7_init 42 = .ok (.invokespecial 24, 3) := by decide +kernel
theorem dX7_init_45 : decode cX7_init 45 = .ok (.putfield 25, 3) := by decide +kernel
theorem dX7_init_48 : decode cX7_init 48 = .ok (.aload_n 0, 1) := by decide +kernel
theorem dX7_init_49 : decode cX7_init 49 = .ok (.new 29, 3) := by decide +kernel
theorem dX7_init_52 : decode cX7_init 52 = .ok (.dup, 1) := by decide +kernel
theorem dX7_init_53 : decode cX7_init 53 = .ok (.invokespecial 31, 3) := by decide +kernel
theorem dX7_init_56 : decode cX7_init 56 = .ok (.putfield 32, 3) := by decide +kernel
theorem dX7_init_59 : decode cX7_init 59 = .ok (.aload_n 0, 1) := by decide +kernel
theorem dX7_init_60 : decode cX7_init 60 = .ok (.new 36, 3) := by decide +kernel
theorem dX7_init_63 : decode cX7_init 63 = .ok (.dup, 1) := by decide +kernel
theorem dX7_init_64 : decode cX7_init 64 = .ok (.invokespecial 38, 3) := by decide +kernel
theorem dX7_init_67 : decode cX7_init 67 = .ok (.putfield 39, 3) := by decide +kernel
theorem dX7_init_70 : decode cX7_init 70 = .ok (.aload_n 0, 1) := by decide +kernel
theorem dX7_init_71 : decode cX7_init 71 = .ok (.new 43, 3) := by decide +kernel
theorem dX7_init_74 : decode cX7_init 74 = .ok (.dup, 1) := by decide +kernel
theorem dX7_init_75 : decode cX7_init 75 = .ok (.invokespecial 45, 3) := by decide +kernel
theorem dX7_init_78 : decode cX7_init 78 = .ok (.putfield 46, 3) := by decide +kernel
theorem dX7_init_81 : decode cX7_init 81 = .ok (.return_, 1) := by decide +kernel
theorem dX7_sail_0 : decode cX7_sail 0 = .ok (.iload_n 1, 1) := by decide +kernel
theorem dX7_sail_1 : decode cX7_sail 1 = .ok (.invokestatic 50, 3) := by decide +kernel
theorem dX7_sail_4 : decode cX7_sail 4 = .ok (.ifCond .ne 6, 3) := by decide +kernel
theorem dX7_sail_7 : decode cX7_sail 7 = .ok (.ldc 54, 2) := by decide +kernel
theorem dX7_sail_9 : decode cX7_sail 9 = .ok (.ireturn, 1) := by decide +kernel
theorem dX7_sail_10 : decode cX7_sail 10 = .ok (.aload_n 0, 1) := by decide +kernel
theorem dX7_sail_11 : decode cX7_sail 11 = .ok (.getstatic 55, 3) := by decide +kernel
theorem dX7_sail_14 : decode cX7_sail 14 = .ok (.iconst 0, 1) := by decide +kernel
theorem dX7_sail_15 : decode cX7_sail 15 = .ok (.iload_n 1, 1) := by decide +kernel
theorem dX7_sail_16 : decode cX7_sail 16 = .ok (.invokevirtual 61, 3) := by decide +kernel
theorem dX7_sail_19 : decode cX7_sail 19 = .ok (.ifCond .eq 6, 3) := by decide +kernel
theorem dX7_sail_22 : decode cX7_sail 22 = .ok (.ldc 65, 2) := by decide +kernel
theorem dX7_sail_24 : decode cX7_sail 24 = .ok (.ireturn, 1) := by decide +kernel
theorem dX7_sail_25 : decode cX7_sail 25 = .ok (.aload_n 0, 1) := by decide +kernel
theorem dX7_sail_26 : decode cX7_sail 26 = .ok (.getstatic 55, 3) := by decide +kernel
theorem dX7_sail_29 : decode cX7_sail 29 = .ok (.iconst 0, 1) := by decide +kernel
theorem dX7_sail_30 : decode cX7_sail 30 = .ok (.iload_n 1, 1) := by decide +kernel
theorem dX7_sail_31 : decode cX7_sail 31 = .ok (.invokevirtual 66, 3) := by decide +kernel
theorem dX7_sail_34 : decode cX7_sail 34 = .ok (.aload_n 0, 1) := by decide +kernel
theorem dX7_sail_35 : decode cX7_sail 35 = .ok (.getfield 12, 3) := by decide +kernel
theorem dX7_sail_38 : decode cX7_sail 38 = .ok (.getfield 70, 3) := by decide +kernel
theorem dX7_sail_41 : decode cX7_sail 41 = .ok (.iconst 1, 1) := by decide +kernel
theorem dX7_sail_42 : decode cX7_sail 42 = .ok (.isub, 1) := by decide +kernel
theorem dX7_sail_43 : decode cX7_sail 43 = .ok (.ireturn, 1) := by decide +kernel
theorem dX7_shore_0 : decode cX7_shore 0 = .ok (.aload_n 0, 1) := by decide +kernel
theorem dX7_shore_1 : decode cX7_shore 1 = .ok (.getfield 12, 3) := by decide +kernel
theorem dX7_shore_4 : decode cX7_shore 4 = .ok (.iload_n 1, 1) := by decide +kernel
theorem dX7_shore_5 : decode cX7_shore 5 = .ok (.invokevirtual 74, 3) := by decide +kernel
theorem dX7_shore_8 : decode cX7_shore 8 = .ok (.ifCond .ne 6, 3) := by decide +kernel
theorem dX7_shore_11 : decode cX7_shore 11 = .ok (.ldc 77, 2) := by decide +kernel
theorem dX7_shore_13 : decode cX7_shore 13 = .ok (.ireturn, 1) := by decide +kernel
theorem dX7_shore_14 : decode cX7_shore 14 = .ok (.aload_n 0, 1) := by decide +kernel
theorem dX7_shore_15 : decode cX7_shore 15 = .ok (.getstatic 78, 3) := by decide +kernel
theorem dX7_shore_18 : decode cX7_shore 18 = .ok (.iload_n 1, 1) := by decide +kernel
theorem dX7_shore_19 : decode cX7_shore 19 = .ok (.iconst 0, 1) := by decide +kernel
theorem dX7_shore_20 : decode cX7_shore 20 = .ok (.invokevirtual 66, 3) := by decide +kernel
theorem dX7_shore_23 : decode cX7_shore 23 = .ok (.aload_n 0, 1) := by decide +kernel
theorem dX7_shore_24 : decode cX7_shore 24 = .ok (.getfield 12, 3) := by decide +kernel
theorem dX7_shore_27 : decode cX7_shore 27 = .ok (.getfield 70, 3) := by decide +kernel
theorem dX7_shore_30 : decode cX7_shore 30 = .ok (.ireturn, 1) := by decide +kernel
theorem dX7_mood_0 : decode cX7_mood 0 = .ok (.aload_n 0, 1) := by decide +kernel
theorem dX7_mood_1 : decode cX7_mood 1 = .ok (.getfield 12, 3) := by decide +kernel
theorem dX7_mood_4 : decode cX7_mood 4 = .ok (.iload_n 1, 1) := by decide +kernel
theorem dX7_mood_5 : decode cX7_mood 5 = .ok (.invokevirtual 74, 3) := by decide +kernel
theorem dX7_mood_8 : decode cX7_mood 8 = .ok (.ifCond .ne 6, 3) := by decide +kernel
theorem dX7_mood_11 : decode cX7_mood 11 = .ok (.ldc 77, 2) := by decide +kernel
theorem dX7_mood_13 : decode cX7_mood 13 = .ok (.ireturn, 1) := by decide +kernel
theorem dX7_mood_14 : decode cX7_mood 14 = .ok (.iload_n 2, 1) := by decide +kernel
theorem dX7_mood_15 : decode cX7_mood 15 = .ok (.invokestatic 50, 3) := by decide +kernel
theorem dX7_mood_18 : decode cX7_mood 18 = .ok (.ifCond .ne 6, 3) := by decide +kernel
theorem dX7_mood_21 : decode cX7_mood 21 = .ok (.ldc 54, 2) := by decide +kernel
theorem dX7_mood_23 : decode cX7_mood 23 = .ok (.ireturn, 1) := by decide +kernel
theorem dX7_mood_24 : decode cX7_mood 24 = .ok (.aload_n 0, 1) := by decide +kernel
theorem dX7_mood_25 : decode cX7_mood 25 = .ok (.getstatic 81, 3) := by decide +kernel
theorem dX7_mood_28 : decode cX7_mood 28 = .ok (.iload_n 1, 1) := by decide +kernel
theorem dX7_mood_29 : decode cX7_mood 29 = .ok (.iload_n 2, 1) := by decide +kernel
theorem dX7_mood_30 : decode cX7_mood 30 = .ok (.invokevirtual 61, 3) := by decide +kernel
theorem dX7_mood_33 : decode cX7_mood 33 = .ok (.ifCond .eq 6, 3) := by decide +kernel
theorem dX7_mood_36 : decode cX7_mood 36 = .ok (.ldc 65, 2) := by decide +kernel
theorem dX7_mood_38 : decode cX7_mood 38 = .ok (.ireturn, 1) := by decide +kernel
theorem dX7_mood_39 : decode cX7_mood 39 = .ok (.aload_n 0, 1) := by decide +kernel
theorem dX7_mood_40 : decode cX7_mood 40 = .ok (.getfield 12, 3) := by decide +kernel
theorem dX7_mood_43 : decode cX7_mood 43 = .ok (.getfield 84, 3) := by decide +kernel
theorem dX7_mood_46 : decode cX7_mood 46 = .ok (.iload_n 1, 1) := by decide +kernel
theorem dX7_mood_47 : decode cX7_mood 47 = .ok (.iaload, 1) := by decide +kernel
theorem dX7_mood_48 : decode cX7_mood 48 = .ok (.istore_n 3, 1) := by decide +kernel
theorem dX7_mood_49 : decode cX7_mood 49 = .ok (.aload_n 0, 1) := by decide +kernel
theorem dX7_mood_50 : decode cX7_mood 50 = .ok (.getstatic 81, 3) := by decide +kernel
theorem dX7_mood_53 : decode cX7_mood 53 = .ok (.iload_n 1, 1) := by decide +kernel
theorem dX7_mood_54 : decode cX7_mood 54 = .ok (.iload_n 2, 1) := by decide +kernel
theorem dX7_mood_55 : decode cX7_mood 55 = .ok (.invokevirtual 66, 3) := by decide +kernel
theorem dX7_mood_58 : decode cX7_mood 58 = .ok (.iload_n 3, 1) := by decide +kernel
theorem dX7_mood_59 : decode cX7_mood 59 = .ok (.ireturn, 1) := by decide +kernel
theorem dX7_rum_0 : decode cX7_rum 0 = .ok (.aload_n 0, 1) := by decide +kernel
theorem dX7_rum_1 : decode cX7_rum 1 = .ok (.getfield 12, 3) := by decide +kernel
theorem dX7_rum_4 : decode cX7_rum 4 = .ok (.iload_n 1, 1) := by decide +kernel
theorem dX7_rum_5 : decode cX7_rum 5 = .ok (.invokevirtual 74, 3) := by decide +kernel
theorem dX7_rum_8 : decode cX7_rum 8 = .ok (.ifCond .ne 6, 3) := by decide +kernel
theorem dX7_rum_11 : decode cX7_rum 11 = .ok (.ldc 77, 2) := by decide +kernel
theorem dX7_rum_13 : decode cX7_rum 13 = .ok (.ireturn, 1) := by decide +kernel
theorem dX7_rum_14 : decode cX7_rum 14 = .ok (.iload_n 2, 1) := by decide +kernel
theorem dX7_rum_15 : decode cX7_rum 15 = .ok (.invokestatic 88, 3) := by decide +kernel
theorem dX7_rum_18 : decode cX7_rum 18 = .ok (.ifCond .ne 6, 3) := by decide +kernel
theorem dX7_rum_21 : decode cX7_rum 21 = .ok (.ldc 54, 2) := by decide +kernel
theorem dX7_rum_23 : decode cX7_rum 23 = .ok (.ireturn, 1) := by decide +kernel
theorem dX7_rum_24 : decode cX7_rum 24 = .ok (.aload_n 0, 1) := by decide +kernel
theorem dX7_rum_25 : decode cX7_rum 25 = .ok (.getstatic 91, 3) := by decide +kernel
theorem dX7_rum_28 : decode cX7_rum 28 = .ok (.iload_n 1, 1) := by decide +kernel
theorem dX7_rum_29 : decode cX7_rum 29 = .ok (.iload_n 2, 1) := by decide +kernel
theorem dX7_rum_30 : decode cX7_rum 30 = .ok (.invokevirtual 61, 3) := by decide +kernel
theorem dX7_rum_33 : decode cX7_rum 33 = .ok (.ifCond .eq 6, 3) := by decide +kernel
theorem dX7_rum_36 : decode cX7_rum 36 = .ok (.ldc 65, 2) := by decide +kernel
theorem dX7_rum_38 : decode cX7_rum 38 = .ok (.ireturn, 1) := by decide +kernel
theorem dX7_rum_39 : decode cX7_rum 39 = .ok (.aload_n 0, 1) := by decide +kernel
theorem dX7_rum_40 : decode cX7_rum 40 = .ok (.getstatic 91, 3) := by decide +kernel
theorem dX7_rum_43 : decode cX7_rum 43 = .ok (.iload_n 1, 1) := by decide +kernel
theorem dX7_rum_44 : decode cX7_rum 44 = .ok (.iload_n 2, 1) := by decide +kernel
theorem dX7_rum_45 : decode cX7_rum 45 = .ok (.invokevirtual 66, 3) := by decide +kernel
theorem dX7_rum_48 : decode cX7_rum 48 = .ok (.aload_n 0, 1) := by decide +kernel
theorem dX7_rum_49 : decode cX7_rum 49 = .ok (.getfield 12, 3) := by decide +kernel
theorem dX7_rum_52 : decode cX7_rum 52 = .ok (.getfield 94, 3) := by decide +kernel
theorem dX7_rum_55 : decode cX7_rum 55 = .ok (.iload_n 1, 1) := by decide +kernel
theorem dX7_rum_56 : decode cX7_rum 56 = .ok (.iaload, 1) := by decide +kernel
theorem dX7_rum_57 : decode cX7_rum 57 = .ok (.ireturn, 1) := by decide +kernel
theorem dX7_watch_0 : decode cX7_watch 0 = .ok (.aload_n 0, 1) := by decide +kernel
theorem dX7_watch_1 : decode cX7_watch 1 = .ok (.getfield 12, 3) := by decide +kernel
theorem dX7_watch_4 : decode cX7_watch 4 = .ok (.iload_n 1, 1) := by decide +kernel
theorem dX7_watch_5 : decode cX7_watch 5 = .ok (.invokevirtual 74, 3) := by decide +kernel
theorem dX7_watch_8 : decode cX7_watch 8 = .ok (.ifCond .eq 10, 3) := by decide +kernel
theorem dX7_watch_11 : decode cX7_watch 11 = .ok (.iload_n 2, 1) := by decide +kernel
theorem dX7_watch_12 : decode cX7_watch 12 = .ok (.invokestatic 97, 3) := by decide +kernel
theorem dX7_watch_15 : decode cX7_watch 15 = .ok (.ifCond .ne 6, 3) := by decide +kernel
theorem dX7_watch_18 : decode cX7_watch 18 = .ok (.ldc 77, 2) := by decide +kernel
theorem dX7_watch_20 : decode cX7_watch 20 = .ok (.ireturn, 1) := by decide +kernel
theorem dX7_watch_21 : decode cX7_watch 21 = .ok (.aload_n 0, 1) := by decide +kernel
theorem dX7_watch_22 : decode cX7_watch 22 = .ok (.getstatic 100, 3) := by decide +kernel
theorem dX7_watch_25 : decode cX7_watch 25 = .ok (.iload_n 1, 1) := by decide +kernel
theorem dX7_watch_26 : decode cX7_watch 26 = .ok (.iload_n 2, 1) := by decide +kernel
theorem dX7_watch_27 : decode cX7_watch 27 = .ok (.invokevirtual 61, 3) := by decide +kernel
theorem dX7_watch_30 : decode cX7_watch 30 = .ok (.ifCond .eq 6, 3) := by decide +kernel
theorem dX7_watch_33 : decode cX7_watch 33 = .ok (.ldc 65, 2) := by decide +kernel
theorem dX7_watch_35 : decode cX7_watch 35 = .ok (.ireturn, 1) := by decide +kernel
theorem dX7_watch_36 : decode cX7_watch 36 = .ok (.aload_n 0, 1) := by decide +kernel
theorem dX7_watch_37 : decode cX7_watch 37 = .ok (.getfield 12, 3) := by decide +kernel
theorem dX7_watch_40 : decode cX7_watch 40 = .ok (.getfield 103, 3) := by decide +kernel
theorem dX7_watch_43 : decode cX7_watch 43 = .ok (.iload_n 1, 1) := by decide +kernel
theorem dX7_watch_44 : decode cX7_watch 44 = .ok (.iaload, 1) := by decide +kernel
theorem dX7_watch_45 : decode cX7_watch 45 = .ok (.istore_n 3, 1) := by decide +kernel
theorem dX7_watch_46 : decode cX7_watch 46 = .ok (.aload_n 0, 1) := by decide +kernel
theorem dX7_watch_47 : decode cX7_watch 47 = .ok (.getstatic 100, 3) := by decide +kernel
theorem dX7_watch_50 : decode cX7_watch 50 = .ok (.iload_n 1, 1) := by decide +kernel
theorem dX7_watch_51 : decode cX7_watch 51 = .ok (.iload_n 2, 1) := by decide +kernel
theorem dX7_watch_52 : decode cX7_watch 52 = .ok (.invokevirtual 66, 3) := by decide +kernel
theorem dX7_watch_55 : decode cX7_watch 55 = .ok (.iload_n 3, 1) := by decide +kernel
theorem dX7_watch_56 : decode cX7_watch 56 = .ok (.ireturn, 1) := by decide +kernel
theorem dX7_horizon_0 : decode cX7_horizon 0 = .ok (.iload_n 1, 1) := by decide +kernel
theorem dX7_horizon_1 : decode cX7_horizon 1 = .ok (.invokestatic 97, 3) := by decide +kernel
theorem dX7_horizon_4 : decode cX7_horizon 4 = .ok (.ifCond .ne 6, 3) := by decide +kernel
theorem dX7_horizon_7 : decode cX7_horizon 7 = .ok (.ldc 77, 2) := by decide +kernel
theorem dX7_horizon_9 : decode cX7_horizon 9 = .ok (.ireturn, 1) := by decide +kernel
theorem dX7_horizon_10 : decode cX7_horizon 10 = .ok (.iload_n 2, 1) := by decide +kernel
theorem dX7_horizon_11 : decode cX7_horizon 11 = .ok (.invokestatic 106, 3) := by decide +kernel
theorem dX7_horizon_14 : decode cX7_horizon 14 = .ok (.ifCond .ne 6, 3) := by decide +kernel
theorem dX7_horizon_17 : decode cX7_horizon 17 = .ok (.ldc 54, 2) := by decide +kernel
theorem dX7_horizon_19 : decode cX7_horizon 19 = .ok (.ireturn, 1) := by decide +kernel
theorem dX7_horizon_20 : decode cX7_horizon 20 = .ok (.aload_n 0, 1) := by decide +kernel
theorem dX7_horizon_21 : decode cX7_horizon 21 = .ok (.getstatic 109, 3) := by decide +kernel
theorem dX7_horizon_24 : decode cX7_horizon 24 = .ok (.iload_n 1, 1) := by decide +kernel
theorem dX7_horizon_25 : decode cX7_horizon 25 = .ok (.iload_n 2, 1) := by decide +kernel
theorem dX7_horizon_26 : decode cX7_horizon 26 = .ok (.invokevirtual 61, 3) := by decide +kernel
theorem dX7_horizon_29 : decode cX7_horizon 29 = .ok (.ifCond .eq 6, 3) := by decide +kernel
theorem dX7_horizon_32 : decode cX7_horizon 32 = .ok (.ldc 65, 2) := by decide +kernel
theorem dX7_horizon_34 : decode cX7_horizon 34 = .ok (.ireturn, 1) := by decide +kernel
theorem dX7_horizon_35 : decode cX7_horizon 35 = .ok (.aload_n 0, 1) := by decide +kernel
theorem dX7_horizon_36 : decode cX7_horizon 36 = .ok (.getfield 12, 3) := by decide +kernel
theorem dX7_horizon_39 : decode cX7_horizon 39 = .ok (.getfield 112, 3) := by decide +kernel
theorem dX7_horizon_42 : decode cX7_horizon 42 = .ok (.iload_n 1, 1) := by decide +kernel
theorem dX7_horizon_43 : decode cX7_horizon 43 = .ok (.iaload, 1) := by decide +kernel
theorem dX7_horizon_44 : decode cX7_horizon 44 = .ok (.istore_n 3, 1) := by decide +kernel
theorem dX7_horizon_45 : decode cX7_horizon 45 = .ok (.aload_n 0, 1) := by decide +kernel
theorem dX7_horizon_46 : decode cX7_horizon 46 = .ok (.getstatic 109, 3) := by decide +kernel
theorem dX7_horizon_49 : decode cX7_horizon 49 = .ok (.iload_n 1, 1) := by decide +kernel
theorem dX7_horizon_50 : decode cX7_horizon 50 = .ok (.iload_n 2, 1) := by decide +kernel
theorem dX7_horizon_51 : decode cX7_horizon 51 = .ok (.invokevirtual 66, 3) := by decide +kernel
theorem dX7_horizon_54 : decode cX7_horizon 54 = .ok (.iload_n 3, 1) := by decide +kernel
theorem dX7_horizon_55 : decode cX7_horizon 55 = .ok (.ireturn, 1) := by decide +kernel
theorem dX7_error_0 : decode cX7_error 0 = .ok (.iload_n 1, 1) := by decide +kernel
theorem dX7_error_1 : decode cX7_error 1 = .ok (.invokestatic 115, 3) := by decide +kernel
theorem dX7_error_4 : decode cX7_error 4 = .ok (.ifCond .ne 6, 3) := by decide +kernel
theorem dX7_error_7 : decode cX7_error 7 = .ok (.ldc 54, 2) := by decide +kernel
theorem dX7_error_9 : decode cX7_error 9 = .ok (.ireturn, 1) := by decide +kernel
theorem dX7_error_10 : decode cX7_error 10 = .ok (.aload_n 0, 1) := by decide +kernel
theorem dX7_error_11 : decode cX7_error 11 = .ok (.getstatic 118, 3) := by decide +kernel
theorem dX7_error_14 : decode cX7_error 14 = .ok (.iconst 0, 1) := by decide +kernel
theorem dX7_error_15 : decode cX7_error 15 = .ok (.iload_n 1, 1) := by decide +kernel
theorem dX7_error_16 : decode cX7_error 16 = .ok (.invokevirtual 61, 3) := by decide +kernel
theorem dX7_error_19 : decode cX7_error 19 = .ok (.ifCond .eq 6, 3) := by decide +kernel
theorem dX7_error_22 : decode cX7_error 22 = .ok (.ldc 65, 2) := by decide +kernel
theorem dX7_error_24 : decode cX7_error 24 = .ok (.ireturn, 1) := by decide +kernel
theorem dX7_error_25 : decode cX7_error 25 = .ok (.aload_n 0, 1) := by decide +kernel
theorem dX7_error_26 : decode cX7_error 26 = .ok (.getfield 12, 3) := by decide +kernel
theorem dX7_error_29 : decode cX7_error 29 = .ok (.getfield 121, 3) := by decide +kernel
theorem dX7_error_32 : decode cX7_error 32 = .ok (.istore_n 2, 1) := by decide +kernel
theorem dX7_error_33 : decode cX7_error 33 = .ok (.aload_n 0, 1) := by decide +kernel
theorem dX7_error_34 : decode cX7_error 34 = .ok (.getstatic 118, 3) := by decide +kernel
theorem dX7_error_37 : decode cX7_error 37 = .ok (.iconst 0, 1) := by decide +kernel
theorem dX7_error_38 : decode cX7_error 38 = .ok (.iload_n 1, 1) := by decide +kernel
theorem dX7_error_39 : decode cX7_error 39 = .ok (.invokevirtual 66, 3) := by decide +kernel
theorem dX7_error_42 : decode cX7_error 42 = .ok (.iload_n 2, 1) := by decide +kernel
theorem dX7_error_43 : decode cX7_error 43 = .ok (.ireturn, 1) := by decide +kernel
theorem dX7_sight_0 : decode cX7_sight 0 = .ok (.aload_n 0, 1) := by decide +kernel
theorem dX7_sight_1 : decode cX7_sight 1 = .ok (.getfield 12, 3) := by decide +kernel
theorem dX7_sight_4 : decode cX7_sight 4 = .ok (.iload_n 1, 1) := by decide +kernel
theorem dX7_sight_5 : decode cX7_sight 5 = .ok (.invokevirtual 74, 3) := by decide +kernel
theorem dX7_sight_8 : decode cX7_sight 8 = .ok (.ifCond .ne 6, 3) := by decide +kernel
theorem dX7_sight_11 : decode cX7_sight 11 = .ok (.ldc 77, 2) := by decide +kernel
theorem dX7_sight_13 : decode cX7_sight 13 = .ok (.ireturn, 1) := by decide +kernel
theorem dX7_sight_14 : decode cX7_sight 14 = .ok (.aload_n 0, 1) := by decide +kernel
theorem dX7_sight_15 : decode cX7_sight 15 = .ok (.getstatic 124, 3) := by decide +kernel
theorem dX7_sight_18 : decode cX7_sight 18 = .ok (.iload_n 1, 1) := by decide +kernel
theorem dX7_sight_19 : decode cX7_sight 19 = .ok (.iconst 0, 1) := by decide +kernel
theorem dX7_sight_20 : decode cX7_sight 20 = .ok (.invokevirtual 61, 3) := by decide +kernel
theorem dX7_sight_23 : decode cX7_sight 23 = .ok (.ifCond .eq 6, 3) := by decide +kernel
theorem dX7_sight_26 : decode cX7_sight 26 = .ok (.ldc 65, 2) := by decide +kernel
theorem dX7_sight_28 : decode cX7_sight 28 = .ok (.ireturn, 1) := by decide +kernel
theorem dX7_sight_29 : decode cX7_sight 29 = .ok (.aload_n 0, 1) := by decide +kernel
theorem dX7_sight_30 : decode cX7_sight 30 = .ok (.getstatic 124, 3) := by decide +kernel
theorem dX7_sight_33 : decode cX7_sight 33 = .ok (.iload_n 1, 1) := by decide +kernel
theorem dX7_sight_34 : decode cX7_sight 34 = .ok (.iconst 0, 1) := by decide +kernel
theorem dX7_sight_35 : decode cX7_sight 35 = .ok (.invokevirtual 66, 3) := by decide +kernel
theorem dX7_sight_38 : decode cX7_sight 38 = .ok (.aload_n 0, 1) := by decide +kernel
theorem dX7_sight_39 : decode cX7_sight 39 = .ok (.getfield 12, 3) := by decide +kernel
theorem dX7_sight_42 : decode cX7_sight 42 = .ok (.getfield 127, 3) := by decide +kernel
theorem dX7_sight_45 : decode cX7_sight 45 = .ok (.ireturn, 1) := by decide +kernel
theorem dX7_hour_0 : decode cX7_hour 0 = .ok (.aload_n 0, 1) := by decide +kernel
theorem dX7_hour_1 : decode cX7_hour 1 = .ok (.getstatic 130, 3) := by decide +kernel
theorem dX7_hour_4 : decode cX7_hour 4 = .ok (.iconst 0, 1) := by decide +kernel
theorem dX7_hour_5 : decode cX7_hour 5 = .ok (.iconst 0, 1) := by decide +kernel
theorem dX7_hour_6 : decode cX7_hour 6 = .ok (.invokevirtual 66, 3) := by decide +kernel
theorem dX7_hour_9 : decode cX7_hour 9 = .ok (.aload_n 0, 1) := by decide +kernel
theorem dX7_hour_10 : decode cX7_hour 10 = .ok (.getfield 12, 3) := by decide +kernel
theorem dX7_hour_13 : decode cX7_hour 13 = .ok (.invokevirtual 133, 3) := by decide +kernel
theorem dX7_hour_16 : decode cX7_hour 16 = .ok (.ireturn, 1) := by decide +kernel
theorem dX7_sailorOf_0 : decode cX7_sailorOf 0 = .ok (.aload_n 0, 1) := by decide +kernel
theorem dX7_sailorOf_1 : decode cX7_sailorOf 1 = .ok (.getfield 12, 3) := by decide +kernel
theorem dX7_sailorOf_4 : decode cX7_sailorOf 4 = .ok (.iload_n 1, 1) := by decide +kernel
theorem dX7_sailorOf_5 : decode cX7_sailorOf 5 = .ok (.invokevirtual 74, 3) := by decide +kernel
theorem dX7_sailorOf_8 : decode cX7_sailorOf 8 = .ok (.ifCond .ne 6, 3) := by decide +kernel
theorem dX7_sailorOf_11 : decode cX7_sailorOf 11 = .ok (.ldc 77, 2) := by decide +kernel
theorem dX7_sailorOf_13 : decode cX7_sailorOf 13 = .ok (.ireturn, 1) := by decide +kernel
theorem dX7_sailorOf_14 : decode cX7_sailorOf 14 = .ok (.iload_n 2, 1) := by decide +kernel
theorem dX7_sailorOf_15 : decode cX7_sailorOf 15 = .ok (.tableswitch 142 0 8 #[49, 59, 69, 79, 92, 105, 115, 124, 133], 49) := by decide +kernel
theorem dX7_sailorOf_64 : decode cX7_sailorOf 64 = .ok (.aload_n 0, 1) := by decide +kernel
theorem dX7_sailorOf_65 : decode cX7_sailorOf 65 = .ok (.getfield 12, 3) := by decide +kernel
theorem dX7_sailorOf_68 : decode cX7_sailorOf 68 = .ok (.getfield 84, 3) := by decide +kernel
theorem dX7_sailorOf_71 : decode cX7_sailorOf 71 = .ok (.iload_n 1, 1) := by decide +kernel
theorem dX7_sailorOf_72 : decode cX7_sailorOf 72 = .ok (.iaload, 1) := by decide +kernel
theorem dX7_sailorOf_73 : decode cX7_sailorOf 73 = .ok (.ireturn, 1) := by decide +kernel
theorem dX7_sailorOf_74 : decode cX7_sailorOf 74 = .ok (.aload_n 0, 1) := by decide +kernel
theorem dX7_sailorOf_75 : decode cX7_sailorOf 75 = .ok (.getfield 12, 3) := by decide +kernel
theorem dX7_sailorOf_78 : decode cX7_sailorOf 78 = .ok (.getfield 94, 3) := by decide +kernel
theorem dX7_sailorOf_81 : decode cX7_sailorOf 81 = .ok (.iload_n 1, 1) := by decide +kernel
theorem dX7_sailorOf_82 : decode cX7_sailorOf 82 = .ok (.iaload, 1) := by decide +kernel
theorem dX7_sailorOf_83 : decode cX7_sailorOf 83 = .ok (.ireturn, 1) := by decide +kernel
theorem dX7_sailorOf_84 : decode cX7_sailorOf 84 = .ok (.aload_n 0, 1) := by decide +kernel
theorem dX7_sailorOf_85 : decode cX7_sailorOf 85 = .ok (.getfield 12, 3) := by decide +kernel
theorem dX7_sailorOf_88 : decode cX7_sailorOf 88 = .ok (.getfield 103, 3) := by decide +kernel
theorem dX7_sailorOf_91 : decode cX7_sailorOf 91 = .ok (.iload_n 1, 1) := by decide +kernel
theorem dX7_sailorOf_92 : decode cX7_sailorOf 92 = .ok (.iaload, 1) := by decide +kernel
theorem dX7_sailorOf_93 : decode cX7_sailorOf 93 = .ok (.ireturn, 1) := by decide +kernel
theorem dX7_sailorOf_94 : decode cX7_sailorOf 94 = .ok (.aload_n 0, 1) := by decide +kernel
theorem dX7_sailorOf_95 : decode cX7_sailorOf 95 = .ok (.getfield 12, 3) := by decide +kernel
theorem dX7_sailorOf_98 : decode cX7_sailorOf 98 = .ok (.getfield 84, 3) := by decide +kernel
theorem dX7_sailorOf_101 : decode cX7_sailorOf 101 = .ok (.iload_n 1, 1) := by decide +kernel
theorem dX7_sailorOf_102 : decode cX7_sailorOf 102 = .ok (.iaload, 1) := by decide +kernel
theorem dX7_sailorOf_103 : decode cX7_sailorOf 103 = .ok (.invokestatic 137, 3) := by decide +kernel
theorem dX7_sailorOf_106 : decode cX7_sailorOf 106 = .ok (.ireturn, 1) := by decide +kernel
theorem dX7_sailorOf_107 : decode cX7_sailorOf 107 = .ok (.aload_n 0, 1) := by decide +kernel
theorem dX7_sailorOf_108 : decode cX7_sailorOf 108 = .ok (.getfield 12, 3) := by decide +kernel
theorem dX7_sailorOf_111 : decode cX7_sailorOf 111 = .ok (.getfield 84, 3) := by decide +kernel
theorem dX7_sailorOf_114 : decode cX7_sailorOf 114 = .ok (.iload_n 1, 1) := by decide +kernel
theorem dX7_sailorOf_115 : decode cX7_sailorOf 115 = .ok (.iaload, 1) := by decide +kernel
theorem dX7_sailorOf_116 : decode cX7_sailorOf 116 = .ok (.invokestatic 141, 3) := by decide +kernel
theorem dX7_sailorOf_119 : decode cX7_sailorOf 119 = .ok (.ireturn, 1) := by decide +kernel
theorem dX7_sailorOf_120 : decode cX7_sailorOf 120 = .ok (.aload_n 0, 1) := by decide +kernel
theorem dX7_sailorOf_121 : decode cX7_sailorOf 121 = .ok (.getfield 12, 3) := by decide +kernel
theorem dX7_sailorOf_124 : decode cX7_sailorOf 124 = .ok (.iload_n 1, 1) := by decide +kernel
theorem dX7_sailorOf_125 : decode cX7_sailorOf 125 = .ok (.iconst 0, 1) := by decide +kernel
theorem dX7_sailorOf_126 : decode cX7_sailorOf 126 = .ok (.invokevirtual 144, 3) := by decide +kernel
theorem dX7_sailorOf_129 : decode cX7_sailorOf 129 = .ok (.ireturn, 1) := by decide +kernel
theorem dX7_sailorOf_130 : decode cX7_sailorOf 130 = .ok (.aload_n 0, 1) := by decide +kernel
theorem dX7_sailorOf_131 : decode cX7_sailorOf 131 = .ok (.getfield 12, 3) := by decide +kernel
theorem dX7_sailorOf_134 : decode cX7_sailorOf 134 = .ok (.iload_n 1, 1) := by decide +kernel
theorem dX7_sailorOf_135 : decode cX7_sailorOf 135 = .ok (.invokevirtual 148, 3) := by decide +kernel
theorem dX7_sailorOf_138 : decode cX7_sailorOf 138 = .ok (.ireturn, 1) := by decide +kernel
theorem dX7_sailorOf_139 : decode cX7_sailorOf 139 = .ok (.aload_n 0, 1) := by decide +kernel
theorem dX7_sailorOf_140 : decode cX7_sailorOf 140 = .ok (.getfield 12, 3) := by decide +kernel
theorem dX7_sailorOf_143 : decode cX7_sailorOf 143 = .ok (.iload_n 1, 1) := by decide +kernel
theorem dX7_sailorOf_144 : decode cX7_sailorOf 144 = .ok (.invokevirtual 151, 3) := by decide +kernel
theorem dX7_sailorOf_147 : decode cX7_sailorOf 147 = .ok (.ireturn, 1) := by decide +kernel
theorem dX7_sailorOf_148 : decode cX7_sailorOf 148 = .ok (.aload_n 0, 1) := by decide +kernel
theorem dX7_sailorOf_149 : decode cX7_sailorOf 149 = .ok (.getfield 12, 3) := by decide +kernel
theorem dX7_sailorOf_152 : decode cX7_sailorOf 152 = .ok (.iload_n 1, 1) := by decide +kernel
theorem dX7_sailorOf_153 : decode cX7_sailorOf 153 = .ok (.invokevirtual 154, 3) := by decide +kernel
theorem dX7_sailorOf_156 : decode cX7_sailorOf 156 = .ok (.ireturn, 1) := by decide +kernel
theorem dX7_sailorOf_157 : decode cX7_sailorOf 157 = .ok (.ldc 54, 2) := by decide +kernel
theorem dX7_sailorOf_159 : decode cX7_sailorOf 159 = .ok (.ireturn, 1) := by decide +kernel
theorem dX7_watchOf_0 : decode cX7_watchOf 0 = .ok (.iload_n 1, 1) := by decide +kernel
theorem dX7_watchOf_1 : decode cX7_watchOf 1 = .ok (.invokestatic 97, 3) := by decide +kernel
theorem dX7_watchOf_4 : decode cX7_watchOf 4 = .ok (.ifCond .ne 6, 3) := by decide +kernel
theorem dX7_watchOf_7 : decode cX7_watchOf 7 = .ok (.ldc 77, 2) := by decide +kernel
theorem dX7_watchOf_9 : decode cX7_watchOf 9 = .ok (.ireturn, 1) := by decide +kernel
theorem dX7_watchOf_10 : decode cX7_watchOf 10 = .ok (.iload_n 2, 1) := by decide +kernel
theorem dX7_watchOf_11 : decode cX7_watchOf 11 = .ok (.tableswitch 66 0 3 #[29, 39, 48, 57], 29) := by decide +kernel
theorem dX7_watchOf_40 : decode cX7_watchOf 40 = .ok (.aload_n 0, 1) := by decide +kernel
theorem dX7_watchOf_41 : decode cX7_watchOf 41 = .ok (.getfield 12, 3) := by decide +kernel
theorem dX7_watchOf_44 : decode cX7_watchOf 44 = .ok (.getfield 112, 3) := by decide +kernel
theorem dX7_watchOf_47 : decode cX7_watchOf 47 = .ok (.iload_n 1, 1) := by decide +kernel
theorem dX7_watchOf_48 : decode cX7_watchOf 48 = .ok (.iaload, 1) := by decide +kernel
theorem dX7_watchOf_49 : decode cX7_watchOf 49 = .ok (.ireturn, 1) := by decide +kernel
theorem dX7_watchOf_50 : decode cX7_watchOf 50 = .ok (.aload_n 0, 1) := by decide +kernel
theorem dX7_watchOf_51 : decode cX7_watchOf 51 = .ok (.getfield 12, 3) := by decide +kernel
theorem dX7_watchOf_54 : decode cX7_watchOf 54 = .ok (.iload_n 1, 1) := by decide +kernel
theorem dX7_watchOf_55 : decode cX7_watchOf 55 = .ok (.invokevirtual 157, 3) := by decide +kernel
theorem dX7_watchOf_58 : decode cX7_watchOf 58 = .ok (.ireturn, 1) := by decide +kernel
theorem dX7_watchOf_59 : decode cX7_watchOf 59 = .ok (.aload_n 0, 1) := by decide +kernel
theorem dX7_watchOf_60 : decode cX7_watchOf 60 = .ok (.getfield 12, 3) := by decide +kernel
theorem dX7_watchOf_63 : decode cX7_watchOf 63 = .ok (.iload_n 1, 1) := by decide +kernel
theorem dX7_watchOf_64 : decode cX7_watchOf 64 = .ok (.invokevirtual 160, 3) := by decide +kernel
theorem dX7_watchOf_67 : decode cX7_watchOf 67 = .ok (.ireturn, 1) := by decide +kernel
theorem dX7_watchOf_68 : decode cX7_watchOf 68 = .ok (.aload_n 0, 1) := by decide +kernel
theorem dX7_watchOf_69 : decode cX7_watchOf 69 = .ok (.getfield 12, 3) := by decide +kernel
theorem dX7_watchOf_72 : decode cX7_watchOf 72 = .ok (.iload_n 1, 1) := by decide +kernel
theorem dX7_watchOf_73 : decode cX7_watchOf 73 = .ok (.invokevirtual 163, 3) := by decide +kernel
theorem dX7_watchOf_76 : decode cX7_watchOf 76 = .ok (.ireturn, 1) := by decide +kernel
theorem dX7_watchOf_77 : decode cX7_watchOf 77 = .ok (.ldc 54, 2) := by decide +kernel
theorem dX7_watchOf_79 : decode cX7_watchOf 79 = .ok (.ireturn, 1) := by decide +kernel
theorem dX7_sightOf_0 : decode cX7_sightOf 0 = .ok (.aload_n 0, 1) := by decide +kernel
theorem dX7_sightOf_1 : decode cX7_sightOf 1 = .ok (.getfield 12, 3) := by decide +kernel
theorem dX7_sightOf_4 : decode cX7_sightOf 4 = .ok (.iload_n 1, 1) := by decide +kernel
theorem dX7_sightOf_5 : decode cX7_sightOf 5 = .ok (.invokevirtual 166, 3) := by decide +kernel
theorem dX7_sightOf_8 : decode cX7_sightOf 8 = .ok (.ifCond .ne 6, 3) := by decide +kernel
theorem dX7_sightOf_11 : decode cX7_sightOf 11 = .ok (.ldc 77, 2) := by decide +kernel
theorem dX7_sightOf_13 : decode cX7_sightOf 13 = .ok (.ireturn, 1) := by decide +kernel
theorem dX7_sightOf_14 : decode cX7_sightOf 14 = .ok (.iload_n 2, 1) := by decide +kernel
theorem dX7_sightOf_15 : decode cX7_sightOf 15 = .ok (.tableswitch 58 0 2 #[25, 35, 45], 25) := by decide +kernel
theorem dX7_sightOf_40 : decode cX7_sightOf 40 = .ok (.aload_n 0, 1) := by decide +kernel
theorem dX7_sightOf_41 : decode cX7_sightOf 41 = .ok (.getfield 12, 3) := by decide +kernel
theorem dX7_sightOf_44 : decode cX7_sightOf 44 = .ok (.getfield 169, 3) := by decide +kernel
theorem dX7_sightOf_47 : decode cX7_sightOf 47 = .ok (.iload_n 1, 1) := by decide +kernel
theorem dX7_sightOf_48 : decode cX7_sightOf 48 = .ok (.iaload, 1) := by decide +kernel
theorem dX7_sightOf_49 : decode cX7_sightOf 49 = .ok (.ireturn, 1) := by decide +kernel
theorem dX7_sightOf_50 : decode cX7_sightOf 50 = .ok (.aload_n 0, 1) := by decide +kernel
theorem dX7_sightOf_51 : decode cX7_sightOf 51 = .ok (.getfield 12, 3) := by decide +kernel
theorem dX7_sightOf_54 : decode cX7_sightOf 54 = .ok (.getfield 172, 3) := by decide +kernel
theorem dX7_sightOf_57 : decode cX7_sightOf 57 = .ok (.iload_n 1, 1) := by decide +kernel
theorem dX7_sightOf_58 : decode cX7_sightOf 58 = .ok (.iaload, 1) := by decide +kernel
theorem dX7_sightOf_59 : decode cX7_sightOf 59 = .ok (.ireturn, 1) := by decide +kernel
theorem dX7_sightOf_60 : decode cX7_sightOf 60 = .ok (.aload_n 0, 1) := by decide +kernel
theorem dX7_sightOf_61 : decode cX7_sightOf 61 = .ok (.getfield 12, 3) := by decide +kernel
theorem dX7_sightOf_64 : decode cX7_sightOf 64 = .ok (.getfield 175, 3) := by decide +kernel
theorem dX7_sightOf_67 : decode cX7_sightOf 67 = .ok (.iload_n 1, 1) := by decide +kernel
theorem dX7_sightOf_68 : decode cX7_sightOf 68 = .ok (.faload, 1) := by decide +kernel
theorem dX7_sightOf_69 : decode cX7_sightOf 69 = .ok (.invokestatic 179, 3) := by decide +kernel
theorem dX7_sightOf_72 : decode cX7_sightOf 72 = .ok (.ireturn, 1) := by decide +kernel
theorem dX7_sightOf_73 : decode cX7_sightOf 73 = .ok (.ldc 54, 2) := by decide +kernel
theorem dX7_sightOf_75 : decode cX7_sightOf 75 = .ok (.ireturn, 1) := by decide +kernel
theorem dX7_angle_0 : decode cX7_angle 0 = .ok (.aload_n 0, 1) := by decide +kernel
theorem dX7_angle_1 : decode cX7_angle 1 = .ok (.getfield 12, 3) := by decide +kernel
theorem dX7_angle_4 : decode cX7_angle 4 = .ok (.iload_n 1, 1) := by decide +kernel
theorem dX7_angle_5 : decode cX7_angle 5 = .ok (.invokevirtual 74, 3) := by decide +kernel
theorem dX7_angle_8 : decode cX7_angle 8 = .ok (.ifCond .eq 19, 3) := by decide +kernel
theorem dX7_angle_11 : decode cX7_angle 11 = .ok (.aload_n 0, 1) := by decide +kernel
theorem dX7_angle_12 : decode cX7_angle 12 = .ok (.getfield 12, 3) := by decide +kernel
theorem dX7_angle_15 : decode cX7_angle 15 = .ok (.iload_n 1, 1) := by decide +kernel
theorem dX7_angle_16 : decode cX7_angle 16 = .ok (.iconst 0, 1) := by decide +kernel
theorem dX7_angle_17 : decode cX7_angle 17 = .ok (.invokevirtual 144, 3) := by decide +kernel
theorem dX7_angle_20 : decode cX7_angle 20 = .ok (.i2f, 1) := by decide +kernel
theorem dX7_angle_21 : decode cX7_angle 21 = .ok (.ldc 183, 2) := by decide +kernel
theorem dX7_angle_23 : decode cX7_angle 23 = .ok (.fdiv, 1) := by decide +kernel
theorem dX7_angle_24 : decode cX7_angle 24 = .ok (.goto 4, 3) := by decide +kernel
theorem dX7_angle_27 : decode cX7_angle 27 = .ok (.fconst 0, 1) := by decide +kernel
theorem dX7_angle_28 : decode cX7_angle 28 = .ok (.freturn, 1) := by decide +kernel
theorem dX7_readBits_0 : decode cX7_readBits 0 = .ok (.aload_n 0, 1) := by decide +kernel
theorem dX7_readBits_1 : decode cX7_readBits 1 = .ok (.getfield 12, 3) := by decide +kernel
theorem dX7_readBits_4 : decode cX7_readBits 4 = .ok (.iload_n 1, 1) := by decide +kernel
theorem dX7_readBits_5 : decode cX7_readBits 5 = .ok (.invokevirtual 74, 3) := by decide +kernel
theorem dX7_readBits_8 : decode cX7_readBits 8 = .ok (.ifCond .eq 17, 3) := by decide +kernel
theorem dX7_readBits_11 : decode cX7_readBits 11 = .ok (.aload_n 0, 1) := by decide +kernel
theorem dX7_readBits_12 : decode cX7_readBits 12 = .ok (.getfield 12, 3) := by decide +kernel
theorem dX7_readBits_15 : decode cX7_readBits 15 = .ok (.iload_n 1, 1) := by decide +kernel
theorem dX7_readBits_16 : decode cX7_readBits 16 = .ok (.invokevirtual 184, 3) := by decide +kernel
theorem dX7_readBits_19 : decode cX7_readBits 19 = .ok (.invokestatic 179, 3) := by decide +kernel
theorem dX7_readBits_22 : decode cX7_readBits 22 = .ok (.goto 5, 3) := by decide +kernel
theorem dX7_readBits_25 : decode cX7_readBits 25 = .ok (.ldc 77, 2) := by decide +kernel
theorem dX7_readBits_27 : decode cX7_readBits 27 = .ok (.ireturn, 1) := by decide +kernel
theorem dX7_fixBits_0 : decode cX7_fixBits 0 = .ok (.aload_n 0, 1) := by decide +kernel
theorem dX7_fixBits_1 : decode cX7_fixBits 1 = .ok (.getfield 12, 3) := by decide +kernel
theorem dX7_fixBits_4 : decode cX7_fixBits 4 = .ok (.iload_n 1, 1) := by decide +kernel
theorem dX7_fixBits_5 : decode cX7_fixBits 5 = .ok (.invokevirtual 74, 3) := by decide +kernel
theorem dX7_fixBits_8 : decode cX7_fixBits 8 = .ok (.ifCond .ne 6, 3) := by decide +kernel
theorem dX7_fixBits_11 : decode cX7_fixBits 11 = .ok (.ldc 77, 2) := by decide +kernel
theorem dX7_fixBits_13 : decode cX7_fixBits 13 = .ok (.ireturn, 1) := by decide +kernel
theorem dX7_fixBits_14 : decode cX7_fixBits 14 = .ok (.aload_n 0, 1) := by decide +kernel
theorem dX7_fixBits_15 : decode cX7_fixBits 15 = .ok (.getfield 12, 3) := by decide +kernel
theorem dX7_fixBits_18 : decode cX7_fixBits 18 = .ok (.iload_n 1, 1) := by decide +kernel
theorem dX7_fixBits_19 : decode cX7_fixBits 19 = .ok (.invokevirtual 188, 3) := by decide +kernel
theorem dX7_fixBits_22 : decode cX7_fixBits 22 = .ok (.ifCond .eq 17, 3) := by decide +kernel
theorem dX7_fixBits_25 : decode cX7_fixBits 25 = .ok (.aload_n 0, 1) := by decide +kernel
theorem dX7_fixBits_26 : decode cX7_fixBits 26 = .ok (.getfield 12, 3) := by decide +kernel
theorem dX7_fixBits_29 : decode cX7_fixBits 29 = .ok (.iload_n 1, 1) := by decide +kernel
theorem dX7_fixBits_30 : decode cX7_fixBits 30 = .ok (.invokevirtual 191, 3) := by decide +kernel
theorem dX7_fixBits_33 : decode cX7_fixBits 33 = .ok (.invokestatic 179, 3) := by decide +kernel
theorem dX7_fixBits_36 : decode cX7_fixBits 36 = .ok (.goto 5, 3) := by decide +kernel
theorem dX7_fixBits_39 : decode cX7_fixBits 39 = .ok (.ldc 194, 2) := by decide +kernel
theorem dX7_fixBits_41 : decode cX7_fixBits 41 = .ok (.ireturn, 1) := by decide +kernel
theorem dX7_fixAgain_0 : decode cX7_fixAgain 0 = .ok (.aload_n 0, 1) := by decide +kernel
theorem dX7_fixAgain_1 : decode cX7_fixAgain 1 = .ok (.getfield 12, 3) := by decide +kernel
theorem dX7_fixAgain_4 : decode cX7_fixAgain 4 = .ok (.iload_n 1, 1) := by decide +kernel
theorem dX7_fixAgain_5 : decode cX7_fixAgain 5 = .ok (.invokevirtual 74, 3) := by decide +kernel
theorem dX7_fixAgain_8 : decode cX7_fixAgain 8 = .ok (.ifCond .ne 6, 3) := by decide +kernel
theorem dX7_fixAgain_11 : decode cX7_fixAgain 11 = .ok (.ldc 77, 2) := by decide +kernel
theorem dX7_fixAgain_13 : decode cX7_fixAgain 13 = .ok (.ireturn, 1) := by decide +kernel
theorem dX7_fixAgain_14 : decode cX7_fixAgain 14 = .ok (.aload_n 0, 1) := by decide +kernel
theorem dX7_fixAgain_15 : decode cX7_fixAgain 15 = .ok (.getfield 12, 3) := by decide +kernel
theorem dX7_fixAgain_18 : decode cX7_fixAgain 18 = .ok (.iload_n 1, 1) := by decide +kernel
theorem dX7_fixAgain_19 : decode cX7_fixAgain 19 = .ok (.invokevirtual 188, 3) := by decide +kernel
theorem dX7_fixAgain_22 : decode cX7_fixAgain 22 = .ok (.ifCond .eq 17, 3) := by decide +kernel
theorem dX7_fixAgain_25 : decode cX7_fixAgain 25 = .ok (.aload_n 0, 1) := by decide +kernel
theorem dX7_fixAgain_26 : decode cX7_fixAgain 26 = .ok (.getfield 12, 3) := by decide +kernel
theorem dX7_fixAgain_29 : decode cX7_fixAgain 29 = .ok (.iload_n 1, 1) := by decide +kernel
theorem dX7_fixAgain_30 : decode cX7_fixAgain 30 = .ok (.invokevirtual 195, 3) := by decide +kernel
theorem dX7_fixAgain_33 : decode cX7_fixAgain 33 = .ok (.invokestatic 179, 3) := by decide +kernel
theorem dX7_fixAgain_36 : decode cX7_fixAgain 36 = .ok (.goto 5, 3) := by decide +kernel
theorem dX7_fixAgain_39 : decode cX7_fixAgain 39 = .ok (.ldc 194, 2) := by decide +kernel
theorem dX7_fixAgain_41 : decode cX7_fixAgain 41 = .ok (.ireturn, 1) := by decide +kernel
theorem dX7_meet_0 : decode cX7_meet 0 = .ok (.aload_n 0, 1) := by decide +kernel
theorem dX7_meet_1 : decode cX7_meet 1 = .ok (.getfield 12, 3) := by decide +kernel
theorem dX7_meet_4 : decode cX7_meet 4 = .ok (.iload_n 1, 1) := by decide +kernel
theorem dX7_meet_5 : decode cX7_meet 5 = .ok (.iload_n 2, 1) := by decide +kernel
theorem dX7_meet_6 : decode cX7_meet 6 = .ok (.invokevirtual 198, 3) := by decide +kernel
theorem dX7_meet_9 : decode cX7_meet 9 = .ok (.ifCond .ne 6, 3) := by decide +kernel
theorem dX7_meet_12 : decode cX7_meet 12 = .ok (.ldc 77, 2) := by decide +kernel
theorem dX7_meet_14 : decode cX7_meet 14 = .ok (.ireturn, 1) := by decide +kernel
theorem dX7_meet_15 : decode cX7_meet 15 = .ok (.aload_n 0, 1) := by decide +kernel
theorem dX7_meet_16 : decode cX7_meet 16 = .ok (.getfield 12, 3) := by decide +kernel
theorem dX7_meet_19 : decode cX7_meet 19 = .ok (.iload_n 1, 1) := by decide +kernel
theorem dX7_meet_20 : decode cX7_meet 20 = .ok (.invokevirtual 188, 3) := by decide +kernel
theorem dX7_meet_23 : decode cX7_meet 23 = .ok (.ifCond .eq 14, 3) := by decide +kernel
theorem dX7_meet_26 : decode cX7_meet 26 = .ok (.aload_n 0, 1) := by decide +kernel
theorem dX7_meet_27 : decode cX7_meet 27 = .ok (.getfield 12, 3) := by decide +kernel
theorem dX7_meet_30 : decode cX7_meet 30 = .ok (.iload_n 2, 1) := by decide +kernel
theorem dX7_meet_31 : decode cX7_meet 31 = .ok (.invokevirtual 188, 3) := by decide +kernel
theorem dX7_meet_34 : decode cX7_meet 34 = .ok (.ifCond .ne 6, 3) := by decide +kernel
theorem dX7_meet_37 : decode cX7_meet 37 = .ok (.ldc 194, 2) := by decide +kernel
theorem dX7_meet_39 : decode cX7_meet 39 = .ok (.ireturn, 1) := by decide +kernel
theorem dX7_meet_40 : decode cX7_meet 40 = .ok (.aload_n 0, 1) := by decide +kernel
theorem dX7_meet_41 : decode cX7_meet 41 = .ok (.getfield 12, 3) := by decide +kernel
theorem dX7_meet_44 : decode cX7_meet 44 = .ok (.iload_n 1, 1) := by decide +kernel
theorem dX7_meet_45 : decode cX7_meet 45 = .ok (.invokevirtual 191, 3) := by decide +kernel
theorem dX7_meet_48 : decode cX7_meet 48 = .ok (.aload_n 0, 1) := by decide +kernel
theorem dX7_meet_49 : decode cX7_meet 49 = .ok (.getfield 12, 3) := by decide +kernel
theorem dX7_meet_52 : decode cX7_meet 52 = .ok (.iload_n 2, 1) := by decide +kernel
theorem dX7_meet_53 : decode cX7_meet 53 = .ok (.invokevirtual 191, 3) := by decide +kernel
theorem dX7_meet_56 : decode cX7_meet 56 = .ok (.fsub, 1) := by decide +kernel
theorem dX7_meet_57 : decode cX7_meet 57 = .ok (.fstore_n 3, 1) := by decide +kernel
theorem dX7_meet_58 : decode cX7_meet 58 = .ok (.fload_n 3, 1) := by decide +kernel
theorem dX7_meet_59 : decode cX7_meet 59 = .ok (.ldc 202, 2) := by decide +kernel
theorem dX7_meet_61 : decode cX7_meet 61 = .ok (.fcmp .g, 1) := by decide +kernel
theorem dX7_meet_62 : decode cX7_meet 62 = .ok (.ifCond .ge 14, 3) := by decide +kernel
theorem dX7_meet_65 : decode cX7_meet 65 = .ok (.fload_n 3, 1) := by decide +kernel
theorem dX7_meet_66 : decode cX7_meet 66 = .ok (.ldc 203, 2) := by decide +kernel
theorem dX7_meet_68 : decode cX7_meet 68 = .ok (.fcmp .l, 1) := by decide +kernel
theorem dX7_meet_69 : decode cX7_meet 69 = .ok (.ifCond .le 7, 3) := by decide +kernel
theorem dX7_meet_72 : decode cX7_meet 72 = .ok (.iconst 1, 1) := by decide +kernel
theorem dX7_meet_73 : decode cX7_meet 73 = .ok (.goto 4, 3) := by decide +kernel
theorem dX7_meet_76 : decode cX7_meet 76 = .ok (.iconst 0, 1) := by decide +kernel
theorem dX7_meet_77 : decode cX7_meet 77 = .ok (.ireturn, 1) := by decide +kernel
theorem dX7_unlike_0 : decode cX7_unlike 0 = .ok (.aload_n 0, 1) := by decide +kernel
theorem dX7_unlike_1 : decode cX7_unlike 1 = .ok (.getfield 12, 3) := by decide +kernel
theorem dX7_unlike_4 : decode cX7_unlike 4 = .ok (.iload_n 1, 1) := by decide +kernel
theorem dX7_unlike_5 : decode cX7_unlike 5 = .ok (.iload_n 2, 1) := by decide +kernel
theorem dX7_unlike_6 : decode cX7_unlike 6 = .ok (.invokevirtual 198, 3) := by decide +kernel
theorem dX7_unlike_9 : decode cX7_unlike 9 = .ok (.ifCond .eq 27, 3) := by decide +kernel
theorem dX7_unlike_12 : decode cX7_unlike 12 = .ok (.aload_n 0, 1) := by decide +kernel
theorem dX7_unlike_13 : decode cX7_unlike 13 = .ok (.getfield 12, 3) := by decide +kernel
theorem dX7_unlike_16 : decode cX7_unlike 16 = .ok (.getfield 84, 3) := by decide +kernel
theorem dX7_unlike_19 : decode cX7_unlike 19 = .ok (.iload_n 1, 1) := by decide +kernel
theorem dX7_unlike_20 : decode cX7_unlike 20 = .ok (.iaload, 1) := by decide +kernel
theorem dX7_unlike_21 : decode cX7_unlike 21 = .ok (.aload_n 0, 1) := by decide +kernel
theorem dX7_unlike_22 : decode cX7_unlike 22 = .ok (.getfield 12, 3) := by decide +kernel
theorem dX7_unlike_25 : decode cX7_unlike 25 = .ok (.getfield 84, 3) := by decide +kernel
theorem dX7_unlike_28 : decode cX7_unlike 28 = .ok (.iload_n 2, 1) := by decide +kernel
theorem dX7_unlike_29 : decode cX7_unlike 29 = .ok (.iaload, 1) := by decide +kernel
theorem dX7_unlike_30 : decode cX7_unlike 30 = .ok (.invokestatic 204, 3) := by decide +kernel
theorem dX7_unlike_33 : decode cX7_unlike 33 = .ok (.goto 5, 3) := by decide +kernel
theorem dX7_unlike_36 : decode cX7_unlike 36 = .ok (.ldc 77, 2) := by decide +kernel
theorem dX7_unlike_38 : decode cX7_unlike 38 = .ok (.ireturn, 1) := by decide +kernel
theorem dX7_unlikeAgain_0 : decode cX7_unlikeAgain 0 = .ok (.aload_n 0, 1) := by decide +kernel
theorem dX7_unlikeAgain_1 : decode cX7_unlikeAgain 1 = .ok (.getfield 12, 3) := by decide +kernel
theorem dX7_unlikeAgain_4 : decode cX7_unlikeAgain 4 = .ok (.iload_n 1, 1) := by decide +kernel
theorem dX7_unlikeAgain_5 : decode cX7_unlikeAgain 5 = .ok (.iload_n 2, 1) := by decide +kernel
theorem dX7_unlikeAgain_6 : decode cX7_unlikeAgain 6 = .ok (.invokevirtual 198, 3) := by decide +kernel
theorem dX7_unlikeAgain_9 : decode cX7_unlikeAgain 9 = .ok (.ifCond .eq 27, 3) := by decide +kernel
theorem dX7_unlikeAgain_12 : decode cX7_unlikeAgain 12 = .ok (.aload_n 0, 1) := by decide +kernel
theorem dX7_unlikeAgain_13 : decode cX7_unlikeAgain 13 = .ok (.getfield 12, 3) := by decide +kernel
theorem dX7_unlikeAgain_16 : decode cX7_unlikeAgain 16 = .ok (.getfield 84, 3) := by decide +kernel
theorem dX7_unlikeAgain_19 : decode cX7_unlikeAgain 19 = .ok (.iload_n 1, 1) := by decide +kernel
theorem dX7_unlikeAgain_20 : decode cX7_unlikeAgain 20 = .ok (.iaload, 1) := by decide +kernel
theorem dX7_unlikeAgain_21 : decode cX7_unlikeAgain 21 = .ok (.aload_n 0, 1) := by decide +kernel
theorem dX7_unlikeAgain_22 : decode cX7_unlikeAgain 22 = .ok (.getfield 12, 3) := by decide +kernel
theorem dX7_unlikeAgain_25 : decode cX7_unlikeAgain 25 = .ok (.getfield 84, 3) := by decide +kernel
theorem dX7_unlikeAgain_28 : decode cX7_unlikeAgain 28 = .ok (.iload_n 2, 1) := by decide +kernel
theorem dX7_unlikeAgain_29 : decode cX7_unlikeAgain 29 = .ok (.iaload, 1) := by decide +kernel
theorem dX7_unlikeAgain_30 : decode cX7_unlikeAgain 30 = .ok (.invokestatic 207, 3) := by decide +kernel
theorem dX7_unlikeAgain_33 : decode cX7_unlikeAgain 33 = .ok (.goto 5, 3) := by decide +kernel
theorem dX7_unlikeAgain_36 : decode cX7_unlikeAgain 36 = .ok (.ldc 77, 2) := by decide +kernel
theorem dX7_unlikeAgain_38 : decode cX7_unlikeAgain 38 = .ok (.ireturn, 1) := by decide +kernel
theorem dX7_closest_0 : decode cX7_closest 0 = .ok (.aload_n 0, 1) := by decide +kernel
theorem dX7_closest_1 : decode cX7_closest 1 = .ok (.getfield 12, 3) := by decide +kernel
theorem dX7_closest_4 : decode cX7_closest 4 = .ok (.iload_n 1, 1) := by decide +kernel
theorem dX7_closest_5 : decode cX7_closest 5 = .ok (.iload_n 2, 1) := by decide +kernel
theorem dX7_closest_6 : decode cX7_closest 6 = .ok (.invokevirtual 198, 3) := by decide +kernel
theorem dX7_closest_9 : decode cX7_closest 9 = .ok (.ifCond .eq 27, 3) := by decide +kernel
theorem dX7_closest_12 : decode cX7_closest 12 = .ok (.aload_n 0, 1) := by decide +kernel
theorem dX7_closest_13 : decode cX7_closest 13 = .ok (.getfield 12, 3) := by decide +kernel
theorem dX7_closest_16 : decode cX7_closest 16 = .ok (.getfield 84, 3) := by decide +kernel
theorem dX7_closest_19 : decode cX7_closest 19 = .ok (.iload_n 1, 1) := by decide +kernel
theorem dX7_closest_20 : decode cX7_closest 20 = .ok (.iaload, 1) := by decide +kernel
theorem dX7_closest_21 : decode cX7_closest 21 = .ok (.aload_n 0, 1) := by decide +kernel
theorem dX7_closest_22 : decode cX7_closest 22 = .ok (.getfield 12, 3) := by decide +kernel
theorem dX7_closest_25 : decode cX7_closest 25 = .ok (.getfield 84, 3) := by decide +kernel
theorem dX7_closest_28 : decode cX7_closest 28 = .ok (.iload_n 2, 1) := by decide +kernel
theorem dX7_closest_29 : decode cX7_closest 29 = .ok (.iaload, 1) := by decide +kernel
theorem dX7_closest_30 : decode cX7_closest 30 = .ok (.invokestatic 210, 3) := by decide +kernel
theorem dX7_closest_33 : decode cX7_closest 33 = .ok (.goto 5, 3) := by decide +kernel
theorem dX7_closest_36 : decode cX7_closest 36 = .ok (.ldc 77, 2) := by decide +kernel
theorem dX7_closest_38 : decode cX7_closest 38 = .ok (.ireturn, 1) := by decide +kernel
theorem dX7_would_0 : decode cX7_would 0 = .ok (.aload_n 0, 1) := by decide +kernel
theorem dX7_would_1 : decode cX7_would 1 = .ok (.getfield 12, 3) := by decide +kernel
theorem dX7_would_4 : decode cX7_would 4 = .ok (.iload_n 1, 1) := by decide +kernel
theorem dX7_would_5 : decode cX7_would 5 = .ok (.invokevirtual 74, 3) := by decide +kernel
theorem dX7_would_8 : decode cX7_would 8 = .ok (.ifCond .ne 6, 3) := by decide +kernel
theorem dX7_would_11 : decode cX7_would 11 = .ok (.ldc 77, 2) := by decide +kernel
theorem dX7_would_13 : decode cX7_would 13 = .ok (.ireturn, 1) := by decide +kernel
theorem dX7_would_14 : decode cX7_would 14 = .ok (.iload_n 2, 1) := by decide +kernel
theorem dX7_would_15 : decode cX7_would 15 = .ok (.ifCond .lt 21, 3) := by decide +kernel
theorem dX7_would_18 : decode cX7_would 18 = .ok (.iload_n 2, 1) := by decide +kernel
theorem dX7_would_19 : decode cX7_would 19 = .ok (.bipush 40, 2) := by decide +kernel
theorem dX7_would_21 : decode cX7_would 21 = .ok (.if_icmp .gt 15, 3) := by decide +kernel
theorem dX7_would_24 : decode cX7_would 24 = .ok (.aload_n 0, 1) := by decide +kernel
theorem dX7_would_25 : decode cX7_would 25 = .ok (.getfield 12, 3) := by decide +kernel
theorem dX7_would_28 : decode cX7_would 28 = .ok (.iload_n 1, 1) := by decide +kernel
theorem dX7_would_29 : decode cX7_would 29 = .ok (.iload_n 2, 1) := by decide +kernel
theorem dX7_would_30 : decode cX7_would 30 = .ok (.invokevirtual 144, 3) := by decide +kernel
theorem dX7_would_33 : decode cX7_would 33 = .ok (.goto 5, 3) := by decide +kernel
theorem dX7_would_36 : decode cX7_would 36 = .ok (.ldc 54, 2) := by decide +kernel
theorem dX7_would_38 : decode cX7_would 38 = .ok (.ireturn, 1) := by decide +kernel
theorem dX7_sinks_0 : decode cX7_sinks 0 = .ok (.aload_n 0, 1) := by decide +kernel
theorem dX7_sinks_1 : decode cX7_sinks 1 = .ok (.getfield 12, 3) := by decide +kernel
theorem dX7_sinks_4 : decode cX7_sinks 4 = .ok (.iload_n 1, 1) := by decide +kernel
theorem dX7_sinks_5 : decode cX7_sinks 5 = .ok (.invokevirtual 74, 3) := by decide +kernel
theorem dX7_sinks_8 : decode cX7_sinks 8 = .ok (.ifCond .ne 6, 3) := by decide +kernel
theorem dX7_sinks_11 : decode cX7_sinks 11 = .ok (.ldc 77, 2) := by decide +kernel
theorem dX7_sinks_13 : decode cX7_sinks 13 = .ok (.ireturn, 1) := by decide +kernel
theorem dX7_sinks_14 : decode cX7_sinks 14 = .ok (.iconst 0, 1) := by decide +kernel
theorem dX7_sinks_15 : decode cX7_sinks 15 = .ok (.istore_n 2, 1) := by decide +kernel
theorem dX7_sinks_16 : decode cX7_sinks 16 = .ok (.iload_n 2, 1) := by decide +kernel
theorem dX7_sinks_17 : decode cX7_sinks 17 = .ok (.bipush 40, 2) := by decide +kernel
theorem dX7_sinks_19 : decode cX7_sinks 19 = .ok (.if_icmp .gt 23, 3) := by decide +kernel
theorem dX7_sinks_22 : decode cX7_sinks 22 = .ok (.aload_n 0, 1) := by decide +kernel
theorem dX7_sinks_23 : decode cX7_sinks 23 = .ok (.getfield 12, 3) := by decide +kernel
theorem dX7_sinks_26 : decode cX7_sinks 26 = .ok (.iload_n 1, 1) := by decide +kernel
theorem dX7_sinks_27 : decode cX7_sinks 27 = .ok (.iload_n 2, 1) := by decide +kernel
theorem dX7_sinks_28 : decode cX7_sinks 28 = .ok (.invokevirtual 144, 3) := by decide +kernel
theorem dX7_sinks_31 : decode cX7_sinks 31 = .ok (.ifCond .gt 5, 3) := by decide +kernel
theorem dX7_sinks_34 : decode cX7_sinks 34 = .ok (.iload_n 2, 1) := by decide +kernel
theorem dX7_sinks_35 : decode cX7_sinks 35 = .ok (.ireturn, 1) := by decide +kernel
theorem dX7_sinks_36 : decode cX7_sinks 36 = .ok (.iinc 2 1, 3) := by decide +kernel
theorem dX7_sinks_39 : decode cX7_sinks 39 = .ok (.goto (-23), 3) := by decide +kernel
theorem dX7_sinks_42 : decode cX7_sinks 42 = .ok (.ldc 194, 2) := by decide +kernel
theorem dX7_sinks_44 : decode cX7_sinks 44 = .ok (.ireturn, 1) := by decide +kernel
theorem dX7_messes_0 : decode cX7_messes 0 = .ok (.aload_n 0, 1) := by decide +kernel
theorem dX7_messes_1 : decode cX7_messes 1 = .ok (.getfield 12, 3) := by decide +kernel
theorem dX7_messes_4 : decode cX7_messes 4 = .ok (.invokevirtual 213, 3) := by decide +kernel
theorem dX7_messes_7 : decode cX7_messes 7 = .ok (.ireturn, 1) := by decide +kernel
theorem dX7_highest_0 : decode cX7_highest 0 = .ok (.iconst 0, 1) := by decide +kernel
theorem dX7_highest_1 : decode cX7_highest 1 = .ok (.istore_n 2, 1) := by decide +kernel
theorem dX7_highest_2 : decode cX7_highest 2 = .ok (.iload_n 2, 1) := by decide +kernel
theorem dX7_highest_3 : decode cX7_highest 3 = .ok (.aload_n 0, 1) := by decide +kernel
theorem dX7_highest_4 : decode cX7_highest 4 = .ok (.getfield 12, 3) := by decide +kernel
theorem dX7_highest_7 : decode cX7_highest 7 = .ok (.getfield 70, 3) := by decide +kernel
theorem dX7_highest_10 : decode cX7_highest 10 = .ok (.if_icmp .ge 23, 3) := by decide +kernel
theorem dX7_highest_13 : decode cX7_highest 13 = .ok (.aload_n 0, 1) := by decide +kernel
theorem dX7_highest_14 : decode cX7_highest 14 = .ok (.getfield 12, 3) := by decide +kernel
theorem dX7_highest_17 : decode cX7_highest 17 = .ok (.iload_n 2, 1) := by decide +kernel
theorem dX7_highest_18 : decode cX7_highest 18 = .ok (.invokevirtual 216, 3) := by decide +kernel
theorem dX7_highest_21 : decode cX7_highest 21 = .ok (.iload_n 1, 1) := by decide +kernel
theorem dX7_highest_22 : decode cX7_highest 22 = .ok (.if_icmp .ne 5, 3) := by decide +kernel
theorem dX7_highest_25 : decode cX7_highest 25 = .ok (.iload_n 2, 1) := by decide +kernel
theorem dX7_highest_26 : decode cX7_highest 26 = .ok (.ireturn, 1) := by decide +kernel
theorem dX7_highest_27 : decode cX7_highest 27 = .ok (.iinc 2 1, 3) := by decide +kernel
theorem dX7_highest_30 : decode cX7_highest 30 = .ok (.goto (-28), 3) := by decide +kernel
theorem dX7_highest_33 : decode cX7_highest 33 = .ok (.ldc 77, 2) := by decide +kernel
theorem dX7_highest_35 : decode cX7_highest 35 = .ok (.ireturn, 1) := by decide +kernel
theorem dX7_ranked_0 : decode cX7_ranked 0 = .ok (.iconst 0, 1) := by decide +kernel
theorem dX7_ranked_1 : decode cX7_ranked 1 = .ok (.istore_n 2, 1) := by decide +kernel
theorem dX7_ranked_2 : decode cX7_ranked 2 = .ok (.iload_n 2, 1) := by decide +kernel
theorem dX7_ranked_3 : decode cX7_ranked 3 = .ok (.aload_n 0, 1) := by decide +kernel
theorem dX7_ranked_4 : decode cX7_ranked 4 = .ok (.getfield 12, 3) := by decide +kernel
theorem dX7_ranked_7 : decode cX7_ranked 7 = .ok (.getfield 127, 3) := by decide +kernel
theorem dX7_ranked_10 : decode cX7_ranked 10 = .ok (.if_icmp .ge 23, 3) := by decide +kernel
theorem dX7_ranked_13 : decode cX7_ranked 13 = .ok (.aload_n 0, 1) := by decide +kernel
theorem dX7_ranked_14 : decode cX7_ranked 14 = .ok (.getfield 12, 3) := by decide +kernel
theorem dX7_ranked_17 : decode cX7_ranked 17 = .ok (.iload_n 2, 1) := by decide +kernel
theorem dX7_ranked_18 : decode cX7_ranked 18 = .ok (.invokevirtual 219, 3) := by decide +kernel
theorem dX7_ranked_21 : decode cX7_ranked 21 = .ok (.iload_n 1, 1) := by decide +kernel
theorem dX7_ranked_22 : decode cX7_ranked 22 = .ok (.if_icmp .ne 5, 3) := by decide +kernel
theorem dX7_ranked_25 : decode cX7_ranked 25 = .ok (.iload_n 2, 1) := by decide +kernel
theorem dX7_ranked_26 : decode cX7_ranked 26 = .ok (.ireturn, 1) := by decide +kernel
theorem dX7_ranked_27 : decode cX7_ranked 27 = .ok (.iinc 2 1, 3) := by decide +kernel
theorem dX7_ranked_30 : decode cX7_ranked 30 = .ok (.goto (-28), 3) := by decide +kernel
theorem dX7_ranked_33 : decode cX7_ranked 33 = .ok (.ldc 77, 2) := by decide +kernel
theorem dX7_ranked_35 : decode cX7_ranked 35 = .ok (.ireturn, 1) := by decide +kernel
theorem dX7_packed_0 : decode cX7_packed 0 = .ok (.lconst 0, 1) := by decide +kernel
theorem dX7_packed_1 : decode cX7_packed 1 = .ok (.lstore_n 1, 1) := by decide +kernel
theorem dX7_packed_2 : decode cX7_packed 2 = .ok (.iconst 0, 1) := by decide +kernel
theorem dX7_packed_3 : decode cX7_packed 3 = .ok (.istore_n 3, 1) := by decide +kernel
theorem dX7_packed_4 : decode cX7_packed 4 = .ok (.iload_n 3, 1) := by decide +kernel
theorem dX7_packed_5 : decode cX7_packed 5 = .ok (.iconst 4, 1) := by decide +kernel
theorem dX7_packed_6 : decode cX7_packed 6 = .ok (.if_icmp .ge 38, 3) := by decide +kernel
theorem dX7_packed_9 : decode cX7_packed 9 = .ok (.iload_n 3, 1) := by decide +kernel
theorem dX7_packed_10 : decode cX7_packed 10 = .ok (.aload_n 0, 1) := by decide +kernel
theorem dX7_packed_11 : decode cX7_packed 11 = .ok (.getfield 12, 3) := by decide +kernel
theorem dX7_packed_14 : decode cX7_packed 14 = .ok (.getfield 70, 3) := by decide +kernel
theorem dX7_packed_17 : decode cX7_packed 17 = .ok (.if_icmp .ge 27, 3) := by decide +kernel
theorem dX7_packed_20 : decode cX7_packed 20 = .ok (.lload_n 1, 1) := by decide +kernel
theorem dX7_packed_21 : decode cX7_packed 21 = .ok (.aload_n 0, 1) := by decide +kernel
theorem dX7_packed_22 : decode cX7_packed 22 = .ok (.getfield 12, 3) := by decide +kernel
theorem dX7_packed_25 : decode cX7_packed 25 = .ok (.getfield 84, 3) := by decide +kernel
theorem dX7_packed_28 : decode cX7_packed 28 = .ok (.iload_n 3, 1) := by decide +kernel
theorem dX7_packed_29 : decode cX7_packed 29 = .ok (.iaload, 1) := by decide +kernel
theorem dX7_packed_30 : decode cX7_packed 30 = .ok (.i2l, 1) := by decide +kernel
theorem dX7_packed_31 : decode cX7_packed 31 = .ok (.bipush 16, 2) := by decide +kernel
theorem dX7_packed_33 : decode cX7_packed 33 = .ok (.iload_n 3, 1) := by decide +kernel
theorem dX7_packed_34 : decode cX7_packed 34 = .ok (.imul, 1) := by decide +kernel
theorem dX7_packed_35 : decode cX7_packed 35 = .ok (.lshl, 1) := by decide +kernel
theorem dX7_packed_36 : decode cX7_packed 36 = .ok (.lor, 1) := by decide +kernel
theorem dX7_packed_37 : decode cX7_packed 37 = .ok (.lstore_n 1, 1) := by decide +kernel
theorem dX7_packed_38 : decode cX7_packed 38 = .ok (.iinc 3 1, 3) := by decide +kernel
theorem dX7_packed_41 : decode cX7_packed 41 = .ok (.goto (-37), 3) := by decide +kernel
theorem dX7_packed_44 : decode cX7_packed 44 = .ok (.lload_n 1, 1) := by decide +kernel
theorem dX7_packed_45 : decode cX7_packed 45 = .ok (.lreturn, 1) := by decide +kernel
theorem dX7_isCounted_0 : decode cX7_isCounted 0 = .ok (.aload_n 0, 1) := by decide +kernel
theorem dX7_isCounted_1 : decode cX7_isCounted 1 = .ok (.getfield 12, 3) := by decide +kernel
theorem dX7_isCounted_4 : decode cX7_isCounted 4 = .ok (.invokevirtual 222, 3) := by decide +kernel
theorem dX7_isCounted_7 : decode cX7_isCounted 7 = .ok (.ifCond .eq 37, 3) := by decide +kernel
theorem dX7_isCounted_10 : decode cX7_isCounted 10 = .ok (.aload_n 0, 1) := by decide +kernel
theorem dX7_isCounted_11 : decode cX7_isCounted 11 = .ok (.getfield 12, 3) := by decide +kernel
theorem dX7_isCounted_14 : decode cX7_isCounted 14 = .ok (.invokevirtual 226, 3) := by decide +kernel
theorem dX7_isCounted_17 : decode cX7_isCounted 17 = .ok (.ifCond .eq 27, 3) := by decide +kernel
theorem dX7_isCounted_20 : decode cX7_isCounted 20 = .ok (.aload_n 0, 1) := by decide +kernel
theorem dX7_isCounted_21 : decode cX7_isCounted 21 = .ok (.getfield 12, 3) := by decide +kernel
theorem dX7_isCounted_24 : decode cX7_isCounted 24 = .ok (.invokevirtual 229, 3) := by decide +kernel
theorem dX7_isCounted_27 : decode cX7_isCounted 27 = .ok (.ifCond .eq 17, 3) := by decide +kernel
theorem dX7_isCounted_30 : decode cX7_isCounted 30 = .ok (.aload_n 0, 1) := by decide +kernel
theorem dX7_isCounted_31 : decode cX7_isCounted 31 = .ok (.getfield 12, 3) := by decide +kernel
theorem dX7_isCounted_34 : decode cX7_isCounted 34 = .ok (.invokevirtual 232, 3) := by decide +kernel
theorem dX7_isCounted_37 : decode cX7_isCounted 37 = .ok (.ifCond .eq 7, 3) := by decide +kernel
theorem dX7_isCounted_40 : decode cX7_isCounted 40 = .ok (.iconst 1, 1) := by decide +kernel
theorem dX7_isCounted_41 : decode cX7_isCounted 41 = .ok (.goto 4, 3) := by decide +kernel
theorem dX7_isCounted_44 : decode cX7_isCounted 44 = .ok (.iconst 0, 1) := by decide +kernel
theorem dX7_isCounted_45 : decode cX7_isCounted 45 = .ok (.ireturn, 1) := by decide +kernel
theorem dX7_meanAngle_0 : decode cX7_meanAngle 0 = .ok (.aload_n 0, 1) := by decide +kernel
theorem dX7_meanAngle_1 : decode cX7_meanAngle 1 = .ok (.getfield 12, 3) := by decide +kernel
theorem dX7_meanAngle_4 : decode cX7_meanAngle 4 = .ok (.getfield 70, 3) := by decide +kernel
theorem dX7_meanAngle_7 : decode cX7_meanAngle 7 = .ok (.ifCond .ne 7, 3) := by decide +kernel
theorem dX7_meanAngle_10 : decode cX7_meanAngle 10 = .ok (.dconst 0, 1) := by decide +kernel
theorem dX7_meanAngle_11 : decode cX7_meanAngle 11 = .ok (.goto 20, 3) := by decide +kernel
theorem dX7_meanAngle_14 : decode cX7_meanAngle 14 = .ok (.aload_n 0, 1) := by decide +kernel
theorem dX7_meanAngle_15 : decode cX7_meanAngle 15 = .ok (.getfield 12, 3) := by decide +kernel
theorem dX7_meanAngle_18 : decode cX7_meanAngle 18 = .ok (.invokevirtual 235, 3) := by decide +kernel
theorem dX7_meanAngle_21 : decode cX7_meanAngle 21 = .ok (.i2d, 1) := by decide +kernel
theorem dX7_meanAngle_22 : decode cX7_meanAngle 22 = .ok (.aload_n 0, 1) := by decide +kernel
theorem dX7_meanAngle_23 : decode cX7_meanAngle 23 = .ok (.getfield 12, 3) := by decide +kernel
theorem dX7_meanAngle_26 : decode cX7_meanAngle 26 = .ok (.getfield 70, 3) := by decide +kernel
theorem dX7_meanAngle_29 : decode cX7_meanAngle 29 = .ok (.i2d, 1) := by decide +kernel
theorem dX7_meanAngle_30 : decode cX7_meanAngle 30 = .ok (.ddiv, 1) := by decide +kernel
theorem dX7_meanAngle_31 : decode cX7_meanAngle 31 = .ok (.dreturn, 1) := by decide +kernel
theorem dX7_account_0 : decode cX7_account 0 = .ok (.iload_n 1, 1) := by decide +kernel
theorem dX7_account_1 : decode cX7_account 1 = .ok (.tableswitch 147 0 10 #[59, 67, 75, 83, 91, 99, 107, 115, 123, 131, 139], 59) := by decide +kernel
theorem dX7_account_60 : decode cX7_account 60 = .ok (.aload_n 0, 1) := by decide +kernel
theorem dX7_account_61 : decode cX7_account 61 = .ok (.getfield 12, 3) := by decide +kernel
theorem dX7_account_64 : decode cX7_account 64 = .ok (.getfield 70, 3) := by decide +kernel
theorem dX7_account_67 : decode cX7_account 67 = .ok (.ireturn, 1) := by decide +kernel
theorem dX7_account_68 : decode cX7_account 68 = .ok (.aload_n 0, 1) := by decide +kernel
theorem dX7_account_69 : decode cX7_account 69 = .ok (.getfield 12, 3) := by decide +kernel
theorem dX7_account_72 : decode cX7_account 72 = .ok (.getfield 238, 3) := by decide +kernel
theorem dX7_account_75 : decode cX7_account 75 = .ok (.ireturn, 1) := by decide +kernel
theorem dX7_account_76 : decode cX7_account 76 = .ok (.aload_n 0, 1) := by decide +kernel
theorem dX7_account_77 : decode cX7_account 77 = .ok (.getfield 12, 3) := by decide +kernel
theorem dX7_account_80 : decode cX7_account 80 = .ok (.getfield 121, 3) := by decide +kernel
theorem dX7_account_83 : decode cX7_account 83 = .ok (.ireturn, 1) := by decide +kernel
theorem dX7_account_84 : decode cX7_account 84 = .ok (.aload_n 0, 1) := by decide +kernel
theorem dX7_account_85 : decode cX7_account 85 = .ok (.getfield 12, 3) := by decide +kernel
theorem dX7_account_88 : decode cX7_account 88 = .ok (.getfield 127, 3) := by decide +kernel
theorem dX7_account_91 : decode cX7_account 91 = .ok (.ireturn, 1) := by decide +kernel
theorem dX7_account_92 : decode cX7_account 92 = .ok (.aload_n 0, 1) := by decide +kernel
theorem dX7_account_93 : decode cX7_account 93 = .ok (.getfield 12, 3) := by decide +kernel
theorem dX7_account_96 : decode cX7_account 96 = .ok (.getfield 241, 3) := by decide +kernel
theorem dX7_account_99 : decode cX7_account 99 = .ok (.ireturn, 1) := by decide +kernel
theorem dX7_account_100 : decode cX7_account 100 = .ok (.aload_n 0, 1) := by decide +kernel
theorem dX7_account_101 : decode cX7_account 101 = .ok (.getfield 12, 3) := by decide +kernel
theorem dX7_account_104 : decode cX7_account 104 = .ok (.invokevirtual 133, 3) := by decide +kernel
theorem dX7_account_107 : decode cX7_account 107 = .ok (.ireturn, 1) := by decide +kernel
theorem dX7_account_108 : decode cX7_account 108 = .ok (.aload_n 0, 1) := by decide +kernel
theorem dX7_account_109 : decode cX7_account 109 = .ok (.getfield 12, 3) := by decide +kernel
theorem dX7_account_112 : decode cX7_account 112 = .ok (.getfield 244, 3) := by decide +kernel
theorem dX7_account_115 : decode cX7_account 115 = .ok (.ireturn, 1) := by decide +kernel
theorem dX7_account_116 : decode cX7_account 116 = .ok (.aload_n 0, 1) := by decide +kernel
theorem dX7_account_117 : decode cX7_account 117 = .ok (.getfield 12, 3) := by decide +kernel
theorem dX7_account_120 : decode cX7_account 120 = .ok (.getfield 247, 3) := by decide +kernel
theorem dX7_account_123 : decode cX7_account 123 = .ok (.ireturn, 1) := by decide +kernel
theorem dX7_account_124 : decode cX7_account 124 = .ok (.aload_n 0, 1) := by decide +kernel
theorem dX7_account_125 : decode cX7_account 125 = .ok (.getfield 12, 3) := by decide +kernel
theorem dX7_account_128 : decode cX7_account 128 = .ok (.getfield 250, 3) := by decide +kernel
theorem dX7_account_131 : decode cX7_account 131 = .ok (.ireturn, 1) := by decide +kernel
theorem dX7_account_132 : decode cX7_account 132 = .ok (.aload_n 0, 1) := by decide +kernel
theorem dX7_account_133 : decode cX7_account 133 = .ok (.getfield 39, 3) := by decide +kernel
theorem dX7_account_136 : decode cX7_account 136 = .ok (.getfield 253, 3) := by decide +kernel
theorem dX7_account_139 : decode cX7_account 139 = .ok (.ireturn, 1) := by decide +kernel
theorem dX7_account_140 : decode cX7_account 140 = .ok (.aload_n 0, 1) := by decide +kernel
theorem dX7_account_141 : decode cX7_account 141 = .ok (.getfield 25, 3) := by decide +kernel
theorem dX7_account_144 : decode cX7_account 144 = .ok (.getfield 256, 3) := by decide +kernel
theorem dX7_account_147 : decode cX7_account 147 = .ok (.ireturn, 1) := by decide +kernel
theorem dX7_account_148 : decode cX7_account 148 = .ok (.ldc 54, 2) := by decide +kernel
theorem dX7_account_150 : decode cX7_account 150 = .ok (.ireturn, 1) := by decide +kernel
theorem dX7_write_0 : decode cX7_write 0 = .ok (.aload_n 0, 1) := by decide +kernel
theorem dX7_write_1 : decode cX7_write 1 = .ok (.getfield 12, 3) := by decide +kernel
theorem dX7_write_4 : decode cX7_write 4 = .ok (.iload_n 1, 1) := by decide +kernel
theorem dX7_write_5 : decode cX7_write 5 = .ok (.invokevirtual 74, 3) := by decide +kernel
theorem dX7_write_8 : decode cX7_write 8 = .ok (.ifCond .ne 6, 3) := by decide +kernel
theorem dX7_write_11 : decode cX7_write 11 = .ok (.ldc 77, 2) := by decide +kernel
theorem dX7_write_13 : decode cX7_write 13 = .ok (.ireturn, 1) := by decide +kernel
theorem dX7_write_14 : decode cX7_write 14 = .ok (.aload_n 0, 1) := by decide +kernel
theorem dX7_write_15 : decode cX7_write 15 = .ok (.getfield 46, 3) := by decide +kernel
theorem dX7_write_18 : decode cX7_write 18 = .ok (.invokevirtual 259, 3) := by decide +kernel
theorem dX7_write_21 : decode cX7_write 21 = .ok (.aload_n 0, 1) := by decide +kernel
theorem dX7_write_22 : decode cX7_write 22 = .ok (.getfield 46, 3) := by decide +kernel
theorem dX7_write_25 : decode cX7_write 25 = .ok (.aload_n 0, 1) := by decide +kernel
theorem dX7_write_26 : decode cX7_write 26 = .ok (.getfield 12, 3) := by decide +kernel
theorem dX7_write_29 : decode cX7_write 29 = .ok (.getfield 84, 3) := by decide +kernel
theorem dX7_write_32 : decode cX7_write 32 = .ok (.iload_n 1, 1) := by decide +kernel
theorem dX7_write_33 : decode cX7_write 33 = .ok (.iaload, 1) := by decide +kernel
theorem dX7_write_34 : decode cX7_write 34 = .ok (.invokevirtual 262, 3) := by decide +kernel
theorem dX7_write_37 : decode cX7_write 37 = .ok (.aload_n 0, 1) := by decide +kernel
theorem dX7_write_38 : decode cX7_write 38 = .ok (.getfield 12, 3) := by decide +kernel
theorem dX7_write_41 : decode cX7_write 41 = .ok (.getfield 94, 3) := by decide +kernel
theorem dX7_write_44 : decode cX7_write 44 = .ok (.iload_n 1, 1) := by decide +kernel
theorem dX7_write_45 : decode cX7_write 45 = .ok (.iaload, 1) := by decide +kernel
theorem dX7_write_46 : decode cX7_write 46 = .ok (.ifCond .le 28, 3) := by decide +kernel
theorem dX7_write_49 : decode cX7_write 49 = .ok (.aload_n 0, 1) := by decide +kernel
theorem dX7_write_50 : decode cX7_write 50 = .ok (.getfield 46, 3) := by decide +kernel
theorem dX7_write_53 : decode cX7_write 53 = .ok (.bipush 42, 2) := by decide +kernel
theorem dX7_write_55 : decode cX7_write 55 = .ok (.invokevirtual 266, 3) := by decide +kernel
theorem dX7_write_58 : decode cX7_write 58 = .ok (.aload_n 0, 1) := by decide +kernel
theorem dX7_write_59 : decode cX7_write 59 = .ok (.getfield 46, 3) := by decide +kernel
theorem dX7_write_62 : decode cX7_write 62 = .ok (.aload_n 0, 1) := by decide +kernel
theorem dX7_write_63 : decode cX7_write 63 = .ok (.getfield 12, 3) := by decide +kernel
theorem dX7_write_66 : decode cX7_write 66 = .ok (.getfield 94, 3) := by decide +kernel
theorem dX7_write_69 : decode cX7_write 69 = .ok (.iload_n 1, 1) := by decide +kernel
theorem dX7_write_70 : decode cX7_write 70 = .ok (.iaload, 1) := by decide +kernel
theorem dX7_write_71 : decode cX7_write 71 = .ok (.invokevirtual 270, 3) := by decide +kernel
theorem dX7_write_74 : decode cX7_write 74 = .ok (.aload_n 0, 1) := by decide +kernel
theorem dX7_write_75 : decode cX7_write 75 = .ok (.getfield 46, 3) := by decide +kernel
theorem dX7_write_78 : decode cX7_write 78 = .ok (.bipush 64, 2) := by decide +kernel
theorem dX7_write_80 : decode cX7_write 80 = .ok (.invokevirtual 266, 3) := by decide +kernel
theorem dX7_write_83 : decode cX7_write 83 = .ok (.aload_n 0, 1) := by decide +kernel
theorem dX7_write_84 : decode cX7_write 84 = .ok (.getfield 46, 3) := by decide +kernel
theorem dX7_write_87 : decode cX7_write 87 = .ok (.aload_n 0, 1) := by decide +kernel
theorem dX7_write_88 : decode cX7_write 88 = .ok (.getfield 12, 3) := by decide +kernel
theorem dX7_write_91 : decode cX7_write 91 = .ok (.getfield 103, 3) := by decide +kernel
theorem dX7_write_94 : decode cX7_write 94 = .ok (.iload_n 1, 1) := by decide +kernel
theorem dX7_write_95 : decode cX7_write 95 = .ok (.iaload, 1) := by decide +kernel
theorem dX7_write_96 : decode cX7_write 96 = .ok (.invokevirtual 270, 3) := by decide +kernel
theorem dX7_write_99 : decode cX7_write 99 = .ok (.aload_n 0, 1) := by decide +kernel
theorem dX7_write_100 : decode cX7_write 100 = .ok (.getfield 46, 3) := by decide +kernel
theorem dX7_write_103 : decode cX7_write 103 = .ok (.bipush 62, 2) := by decide +kernel
theorem dX7_write_105 : decode cX7_write 105 = .ok (.invokevirtual 266, 3) := by decide +kernel
theorem dX7_write_108 : decode cX7_write 108 = .ok (.aload_n 0, 1) := by decide +kernel
theorem dX7_write_109 : decode cX7_write 109 = .ok (.getfield 46, 3) := by decide +kernel
theorem dX7_write_112 : decode cX7_write 112 = .ok (.aload_n 0, 1) := by decide +kernel
theorem dX7_write_113 : decode cX7_write 113 = .ok (.getfield 12, 3) := by decide +kernel
theorem dX7_write_116 : decode cX7_write 116 = .ok (.iload_n 1, 1) := by decide +kernel
theorem dX7_write_117 : decode cX7_write 117 = .ok (.iconst 0, 1) := by decide +kernel
theorem dX7_write_118 : decode cX7_write 118 = .ok (.invokevirtual 144, 3) := by decide +kernel
theorem dX7_write_121 : decode cX7_write 121 = .ok (.invokevirtual 270, 3) := by decide +kernel
theorem dX7_write_124 : decode cX7_write 124 = .ok (.aload_n 0, 1) := by decide +kernel
theorem dX7_write_125 : decode cX7_write 125 = .ok (.getfield 46, 3) := by decide +kernel
theorem dX7_write_128 : decode cX7_write 128 = .ok (.getfield 273, 3) := by decide +kernel
theorem dX7_write_131 : decode cX7_write 131 = .ok (.ireturn, 1) := by decide +kernel
theorem dX7_writeLog_0 : decode cX7_writeLog 0 = .ok (.aload_n 0, 1) := by decide +kernel
theorem dX7_writeLog_1 : decode cX7_writeLog 1 = .ok (.getfield 46, 3) := by decide +kernel
theorem dX7_writeLog_4 : decode cX7_writeLog 4 = .ok (.invokevirtual 259, 3) := by decide +kernel
theorem dX7_writeLog_7 : decode cX7_writeLog 7 = .ok (.iconst 0, 1) := by decide +kernel
theorem dX7_writeLog_8 : decode cX7_writeLog 8 = .ok (.istore_n 1, 1) := by decide +kernel
theorem dX7_writeLog_9 : decode cX7_writeLog 9 = .ok (.iload_n 1, 1) := by decide +kernel
theorem dX7_writeLog_10 : decode cX7_writeLog 10 = .ok (.aload_n 0, 1) := by decide +kernel
theorem dX7_writeLog_11 : decode cX7_writeLog 11 = .ok (.getfield 12, 3) := by decide +kernel
theorem dX7_writeLog_14 : decode cX7_writeLog 14 = .ok (.getfield 127, 3) := by decide +kernel
theorem dX7_writeLog_17 : decode cX7_writeLog 17 = .ok (.if_icmp .ge 63, 3) := by decide +kernel
theorem dX7_writeLog_20 : decode cX7_writeLog 20 = .ok (.iload_n 1, 1) := by decide +kernel
theorem dX7_writeLog_21 : decode cX7_writeLog 21 = .ok (.ifCond .le 12, 3) := by decide +kernel
theorem dX7_writeLog_24 : decode cX7_writeLog 24 = .ok (.aload_n 0, 1) := by decide +kernel
theorem dX7_writeLog_25 : decode cX7_writeLog 25 = .ok (.getfield 46, 3) := by decide +kernel
theorem dX7_writeLog_28 : decode cX7_writeLog 28 = .ok (.bipush 32, 2) := by decide +kernel
theorem dX7_writeLog_30 : decode cX7_writeLog 30 = .ok (.invokevirtual 266, 3) := by decide +kernel
theorem dX7_writeLog_33 : decode cX7_writeLog 33 = .ok (.aload_n 0, 1) := by decide +kernel
theorem dX7_writeLog_34 : decode cX7_writeLog 34 = .ok (.getfield 46, 3) := by decide +kernel
theorem dX7_writeLog_37 : decode cX7_writeLog 37 = .ok (.aload_n 0, 1) := by decide +kernel
theorem dX7_writeLog_38 : decode cX7_writeLog 38 = .ok (.getfield 12, 3) := by decide +kernel
theorem dX7_writeLog_41 : decode cX7_writeLog 41 = .ok (.getfield 169, 3) := by decide +kernel
theorem dX7_writeLog_44 : decode cX7_writeLog 44 = .ok (.iload_n 1, 1) := by decide +kernel
theorem dX7_writeLog_45 : decode cX7_writeLog 45 = .ok (.iaload, 1) := by decide +kernel
theorem dX7_writeLog_46 : decode cX7_writeLog 46 = .ok (.invokevirtual 270, 3) := by decide +kernel
theorem dX7_writeLog_49 : decode cX7_writeLog 49 = .ok (.aload_n 0, 1) := by decide +kernel
theorem dX7_writeLog_50 : decode cX7_writeLog 50 = .ok (.getfield 46, 3) := by decide +kernel
theorem dX7_writeLog_53 : decode cX7_writeLog 53 = .ok (.bipush 58, 2) := by decide +kernel
theorem dX7_writeLog_55 : decode cX7_writeLog 55 = .ok (.invokevirtual 266, 3) := by decide +kernel
theorem dX7_writeLog_58 : decode cX7_writeLog 58 = .ok (.aload_n 0, 1) := by decide +kernel
theorem dX7_writeLog_59 : decode cX7_writeLog 59 = .ok (.getfield 46, 3) := by decide +kernel
theorem dX7_writeLog_62 : decode cX7_writeLog 62 = .ok (.aload_n 0, 1) := by decide +kernel
theorem dX7_writeLog_63 : decode cX7_writeLog 63 = .ok (.getfield 12, 3) := by decide +kernel
theorem dX7_writeLog_66 : decode cX7_writeLog 66 = .ok (.getfield 172, 3) := by decide +kernel
theorem dX7_writeLog_69 : decode cX7_writeLog 69 = .ok (.iload_n 1, 1) := by decide +kernel
theorem dX7_writeLog_70 : decode cX7_writeLog 70 = .ok (.iaload, 1) := by decide +kernel
theorem dX7_writeLog_71 : decode cX7_writeLog 71 = .ok (.invokevirtual 270, 3) := by decide +kernel
theorem dX7_writeLog_74 : decode cX7_writeLog 74 = .ok (.iinc 1 1, 3) := by decide +kernel
theorem dX7_writeLog_77 : decode cX7_writeLog 77 = .ok (.goto (-68), 3) := by decide +kernel
theorem dX7_writeLog_80 : decode cX7_writeLog 80 = .ok (.aload_n 0, 1) := by decide +kernel
theorem dX7_writeLog_81 : decode cX7_writeLog 81 = .ok (.getfield 46, 3) := by decide +kernel
theorem dX7_writeLog_84 : decode cX7_writeLog 84 = .ok (.getfield 273, 3) := by decide +kernel
theorem dX7_writeLog_87 : decode cX7_writeLog 87 = .ok (.ireturn, 1) := by decide +kernel
theorem dX7_written_0 : decode cX7_written 0 = .ok (.iload_n 1, 1) := by decide +kernel
theorem dX7_written_1 : decode cX7_written 1 = .ok (.ifCond .lt 26, 3) := by decide +kernel
theorem dX7_written_4 : decode cX7_written 4 = .ok (.iload_n 1, 1) := by decide +kernel
theorem dX7_written_5 : decode cX7_written 5 = .ok (.aload_n 0, 1) := by decide +kernel
theorem dX7_written_6 : decode cX7_written 6 = .ok (.getfield 46, 3) := by decide +kernel
theorem dX7_written_9 : decode cX7_written 9 = .ok (.getfield 273, 3) := by decide +kernel
theorem dX7_written_12 : decode cX7_written 12 = .ok (.if_icmp .ge 15, 3) := by decide +kernel
theorem dX7_written_15 : decode cX7_written 15 = .ok (.aload_n 0, 1) := by decide +kernel
theorem dX7_written_16 : decode cX7_written 16 = .ok (.getfield 46, 3) := by decide +kernel
theorem dX7_written_19 : decode cX7_written 19 = .ok (.getfield 274, 3) := by decide +kernel
theorem dX7_written_22 : decode cX7_written 22 = .ok (.iload_n 1, 1) := by decide +kernel
theorem dX7_written_23 : decode cX7_written 23 = .ok (.caload, 1) := by decide +kernel
theorem dX7_written_24 : decode cX7_written 24 = .ok (.goto 5, 3) := by decide +kernel
theorem dX7_written_27 : decode cX7_written 27 = .ok (.ldc 77, 2) := by decide +kernel
theorem dX7_written_29 : decode cX7_written 29 = .ok (.ireturn, 1) := by decide +kernel
theorem dX7_read_0 : decode cX7_read 0 = .ok (.aload_n 0, 1) := by decide +kernel
theorem dX7_read_1 : decode cX7_read 1 = .ok (.getfield 39, 3) := by decide +kernel
theorem dX7_read_4 : decode cX7_read 4 = .ok (.invokevirtual 283, 3) := by decide +kernel
theorem dX7_read_7 : decode cX7_read 7 = .ok (.istore_n 1, 1) := by decide +kernel
theorem dX7_read_8 : decode cX7_read 8 = .ok (.aload_n 0, 1) := by decide +kernel
theorem dX7_read_9 : decode cX7_read 9 = .ok (.getfield 39, 3) := by decide +kernel
theorem dX7_read_12 : decode cX7_read 12 = .ok (.invokevirtual 286, 3) := by decide +kernel
theorem dX7_read_15 : decode cX7_read 15 = .ok (.iload_n 1, 1) := by decide +kernel
theorem dX7_read_16 : decode cX7_read 16 = .ok (.iconst (-1), 1) := by decide +kernel
theorem dX7_read_17 : decode cX7_read 17 = .ok (.if_icmp .eq 16, 3) := by decide +kernel
theorem dX7_read_20 : decode cX7_read 20 = .ok (.aload_n 0, 1) := by decide +kernel
theorem dX7_read_21 : decode cX7_read 21 = .ok (.iconst 1, 1) := by decide +kernel
theorem dX7_read_22 : decode cX7_read 22 = .ok (.putfield 287, 3) := by decide +kernel
theorem dX7_read_25 : decode cX7_read 25 = .ok (.aload_n 0, 1) := by decide +kernel
theorem dX7_read_26 : decode cX7_read 26 = .ok (.iload_n 1, 1) := by decide +kernel
theorem dX7_read_27 : decode cX7_read 27 = .ok (.putfield 291, 3) := by decide +kernel
theorem dX7_read_30 : decode cX7_read 30 = .ok (.ldc 54, 2) := by decide +kernel
theorem dX7_read_32 : decode cX7_read 32 = .ok (.ireturn, 1) := by decide +kernel
theorem dX7_read_33 : decode cX7_read 33 = .ok (.aload_n 0, 1) := by decide +kernel
theorem dX7_read_34 : decode cX7_read 34 = .ok (.invokevirtual 294, 3) := by decide +kernel
theorem dX7_read_37 : decode cX7_read 37 = .ok (.ifCond .eq 13, 3) := by decide +kernel
theorem dX7_read_40 : decode cX7_read 40 = .ok (.aload_n 0, 1) := by decide +kernel
theorem dX7_read_41 : decode cX7_read 41 = .ok (.getfield 39, 3) := by decide +kernel
theorem dX7_read_44 : decode cX7_read 44 = .ok (.getfield 297, 3) := by decide +kernel
theorem dX7_read_47 : decode cX7_read 47 = .ok (.goto 5, 3) := by decide +kernel
theorem dX7_read_50 : decode cX7_read 50 = .ok (.ldc 65, 2) := by decide +kernel
theorem dX7_read_52 : decode cX7_read 52 = .ok (.ireturn, 1) := by decide +kernel
theorem dX7_fault_0 : decode cX7_fault 0 = .ok (.aload_n 0, 1) := by decide +kernel
theorem dX7_fault_1 : decode cX7_fault 1 = .ok (.getfield 287, 3) := by decide +kernel
theorem dX7_fault_4 : decode cX7_fault 4 = .ok (.ifCond .eq 10, 3) := by decide +kernel
theorem dX7_fault_7 : decode cX7_fault 7 = .ok (.aload_n 0, 1) := by decide +kernel
theorem dX7_fault_8 : decode cX7_fault 8 = .ok (.getfield 291, 3) := by decide +kernel
theorem dX7_fault_11 : decode cX7_fault 11 = .ok (.goto 6, 3) := by decide +kernel
theorem dX7_fault_14 : decode cX7_fault 14 = .ok (.ldc_w 300, 3) := by decide +kernel
theorem dX7_fault_17 : decode cX7_fault 17 = .ok (.ireturn, 1) := by decide +kernel
theorem dX7_reason_0 : decode cX7_reason 0 = .ok (.iload_n 1, 1) := by decide +kernel
theorem dX7_reason_1 : decode cX7_reason 1 = .ok (.ifCond .lt 8, 3) := by decide +kernel
theorem dX7_reason_4 : decode cX7_reason 4 = .ok (.iload_n 1, 1) := by decide +kernel
theorem dX7_reason_5 : decode cX7_reason 5 = .ok (.iconst 1, 1) := by decide +kernel
theorem dX7_reason_6 : decode cX7_reason 6 = .ok (.if_icmp .le 6, 3) := by decide +kernel
theorem dX7_reason_9 : decode cX7_reason 9 = .ok (.ldc 54, 2) := by decide +kernel
theorem dX7_reason_11 : decode cX7_reason 11 = .ok (.ireturn, 1) := by decide +kernel
theorem dX7_reason_12 : decode cX7_reason 12 = .ok (.aload_n 0, 1) := by decide +kernel
theorem dX7_reason_13 : decode cX7_reason 13 = .ok (.getfield 32, 3) := by decide +kernel
theorem dX7_reason_16 : decode cX7_reason 16 = .ok (.getfield 301, 3) := by decide +kernel
theorem dX7_reason_19 : decode cX7_reason 19 = .ok (.ifCond .ne 7, 3) := by decide +kernel
theorem dX7_reason_22 : decode cX7_reason 22 = .ok (.ldc_w 300, 3) := by decide +kernel
theorem dX7_reason_25 : decode cX7_reason 25 = .ok (.ireturn, 1) := by decide +kernel
theorem dX7_reason_26 : decode cX7_reason 26 = .ok (.iload_n 1, 1) := by decide +kernel
theorem dX7_reason_27 : decode cX7_reason 27 = .ok (.aload_n 0, 1) := by decide +kernel
theorem dX7_reason_28 : decode cX7_reason 28 = .ok (.getfield 32, 3) := by decide +kernel
theorem dX7_reason_31 : decode cX7_reason 31 = .ok (.getfield 301, 3) := by decide +kernel
theorem dX7_reason_34 : decode cX7_reason 34 = .ok (.if_icmp .lt 6, 3) := by decide +kernel
theorem dX7_reason_37 : decode cX7_reason 37 = .ok (.ldc 194, 2) := by decide +kernel
theorem dX7_reason_39 : decode cX7_reason 39 = .ok (.ireturn, 1) := by decide +kernel
theorem dX7_reason_40 : decode cX7_reason 40 = .ok (.iload_n 2, 1) := by decide +kernel
theorem dX7_reason_41 : decode cX7_reason 41 = .ok (.ifCond .eq 15, 3) := by decide +kernel
theorem dX7_reason_44 : decode cX7_reason 44 = .ok (.aload_n 0, 1) := by decide +kernel
theorem dX7_reason_45 : decode cX7_reason 45 = .ok (.getfield 32, 3) := by decide +kernel
theorem dX7_reason_48 : decode cX7_reason 48 = .ok (.getfield 304, 3) := by decide +kernel
theorem dX7_reason_51 : decode cX7_reason 51 = .ok (.iload_n 1, 1) := by decide +kernel
theorem dX7_reason_52 : decode cX7_reason 52 = .ok (.iaload, 1) := by decide +kernel
theorem dX7_reason_53 : decode cX7_reason 53 = .ok (.goto 12, 3) := by decide +kernel
theorem dX7_reason_56 : decode cX7_reason 56 = .ok (.aload_n 0, 1) := by decide +kernel
theorem dX7_reason_57 : decode cX7_reason 57 = .ok (.getfield 32, 3) := by decide +kernel
theorem dX7_reason_60 : decode cX7_reason 60 = .ok (.getfield 307, 3) := by decide +kernel
theorem dX7_reason_63 : decode cX7_reason 63 = .ok (.iload_n 1, 1) := by decide +kernel
theorem dX7_reason_64 : decode cX7_reason 64 = .ok (.iaload, 1) := by decide +kernel
theorem dX7_reason_65 : decode cX7_reason 65 = .ok (.ireturn, 1) := by decide +kernel
theorem dX7_undo_0 : decode cX7_undo 0 = .ok (.aload_n 0, 1) := by decide +kernel
theorem dX7_undo_1 : decode cX7_undo 1 = .ok (.getfield 25, 3) := by decide +kernel
theorem dX7_undo_4 : decode cX7_undo 4 = .ok (.aload_n 0, 1) := by decide +kernel
theorem dX7_undo_5 : decode cX7_undo 5 = .ok (.getfield 12, 3) := by decide +kernel
theorem dX7_undo_8 : decode cX7_undo 8 = .ok (.invokevirtual 310, 3) := by decide +kernel
theorem dX7_undo_11 : decode cX7_undo 11 = .ok (.ifCond .eq 13, 3) := by decide +kernel
theorem dX7_undo_14 : decode cX7_undo 14 = .ok (.aload_n 0, 1) := by decide +kernel
theorem dX7_undo_15 : decode cX7_undo 15 = .ok (.getfield 25, 3) := by decide +kernel
theorem dX7_undo_18 : decode cX7_undo 18 = .ok (.getfield 256, 3) := by decide +kernel
theorem dX7_undo_21 : decode cX7_undo 21 = .ok (.goto 6, 3) := by decide +kernel
theorem dX7_undo_24 : decode cX7_undo 24 = .ok (.ldc_w 300, 3) := by decide +kernel
theorem dX7_undo_27 : decode cX7_undo 27 = .ok (.ireturn, 1) := by decide +kernel
theorem dX7_save_0 : decode cX7_save 0 = .ok (.aload_n 0, 1) := by decide +kernel
theorem dX7_save_1 : decode cX7_save 1 = .ok (.getfield 19, 3) := by decide +kernel
theorem dX7_save_4 : decode cX7_save 4 = .ok (.aload_n 0, 1) := by decide +kernel
theorem dX7_save_5 : decode cX7_save 5 = .ok (.getfield 12, 3) := by decide +kernel
theorem dX7_save_8 : decode cX7_save 8 = .ok (.invokevirtual 314, 3) := by decide +kernel
theorem dX7_save_11 : decode cX7_save 11 = .ok (.aload_n 0, 1) := by decide +kernel
theorem dX7_save_12 : decode cX7_save 12 = .ok (.iconst 1, 1) := by decide +kernel
theorem dX7_save_13 : decode cX7_save 13 = .ok (.putfield 318, 3) := by decide +kernel
theorem dX7_save_16 : decode cX7_save 16 = .ok (.aload_n 0, 1) := by decide +kernel
theorem dX7_save_17 : decode cX7_save 17 = .ok (.getfield 12, 3) := by decide +kernel
theorem dX7_save_20 : decode cX7_save 20 = .ok (.getfield 70, 3) := by decide +kernel
theorem dX7_save_23 : decode cX7_save 23 = .ok (.ireturn, 1) := by decide +kernel
theorem dX7_restore_0 : decode cX7_restore 0 = .ok (.aload_n 0, 1) := by decide +kernel
theorem dX7_restore_1 : decode cX7_restore 1 = .ok (.getfield 318, 3) := by decide +kernel
theorem dX7_restore_4 : decode cX7_restore 4 = .ok (.ifCond .ne 7, 3) := by decide +kernel
theorem dX7_restore_7 : decode cX7_restore 7 = .ok (.ldc_w 300, 3) := by decide +kernel
theorem dX7_restore_10 : decode cX7_restore 10 = .ok (.ireturn, 1) := by decide +kernel
theorem dX7_restore_11 : decode cX7_restore 11 = .ok (.aload_n 0, 1) := by decide +kernel
theorem dX7_restore_12 : decode cX7_restore 12 = .ok (.getfield 12, 3) := by decide +kernel
theorem dX7_restore_15 : decode cX7_restore 15 = .ok (.aload_n 0, 1) := by decide +kernel
theorem dX7_restore_16 : decode cX7_restore 16 = .ok (.getfield 19, 3) := by decide +kernel
theorem dX7_restore_19 : decode cX7_restore 19 = .ok (.invokevirtual 314, 3) := by decide +kernel
theorem dX7_restore_22 : decode cX7_restore 22 = .ok (.aload_n 0, 1) := by decide +kernel
theorem dX7_restore_23 : decode cX7_restore 23 = .ok (.getfield 25, 3) := by decide +kernel
theorem dX7_restore_26 : decode cX7_restore 26 = .ok (.invokevirtual 321, 3) := by decide +kernel
theorem dX7_restore_29 : decode cX7_restore 29 = .ok (.aload_n 0, 1) := by decide +kernel
theorem dX7_restore_30 : decode cX7_restore 30 = .ok (.getfield 12, 3) := by decide +kernel
theorem dX7_restore_33 : decode cX7_restore 33 = .ok (.getfield 70, 3) := by decide +kernel
theorem dX7_restore_36 : decode cX7_restore 36 = .ok (.ireturn, 1) := by decide +kernel
theorem dX7_isRefused_0 : decode cX7_isRefused 0 = .ok (.aload_n 0, 1) := by decide +kernel
theorem dX7_isRefused_1 : decode cX7_isRefused 1 = .ok (.getfield 12, 3) := by decide +kernel
theorem dX7_isRefused_4 : decode cX7_isRefused 4 = .ok (.aload_n 1, 1) := by decide +kernel
theorem dX7_isRefused_5 : decode cX7_isRefused 5 = .ok (.iload_n 2, 1) := by decide +kernel
theorem dX7_isRefused_6 : decode cX7_isRefused 6 = .ok (.iload_n 3, 1) := by decide +kernel
theorem dX7_isRefused_7 : decode cX7_isRefused 7 = .ok (.invokevirtual 324, 3) := by decide +kernel
theorem dX7_isRefused_10 : decode cX7_isRefused 10 = .ok (.istore 4, 2) := by decide +kernel
theorem dX7_isRefused_12 : decode cX7_isRefused 12 = .ok (.iload 4, 2) := by decide +kernel
theorem dX7_isRefused_14 : decode cX7_isRefused 14 = .ok (.ifCond .ne 5, 3) := by decide +kernel
theorem dX7_isRefused_17 : decode cX7_isRefused 17 = .ok (.iconst 0, 1) := by decide +kernel
theorem dX7_isRefused_18 : decode cX7_isRefused 18 = .ok (.ireturn, 1) := by decide +kernel
theorem dX7_isRefused_19 : decode cX7_isRefused 19 = .ok (.aload_n 0, 1) := by decide +kernel
theorem dX7_isRefused_20 : decode cX7_isRefused 20 = .ok (.getfield 32, 3) := by decide +kernel
theorem dX7_isRefused_23 : decode cX7_isRefused 23 = .ok (.iload 4, 2) := by decide +kernel
theorem dX7_isRefused_25 : decode cX7_isRefused 25 = .ok (.aload_n 0, 1) := by decide +kernel
theorem dX7_isRefused_26 : decode cX7_isRefused 26 = .ok (.getfield 12, 3) := by decide +kernel
theorem dX7_isRefused_29 : decode cX7_isRefused 29 = .ok (.iload 4, 2) := by decide +kernel
theorem dX7_isRefused_31 : decode cX7_isRefused 31 = .ok (.iload_n 2, 1) := by decide +kernel
theorem dX7_isRefused_32 : decode cX7_isRefused 32 = .ok (.iload_n 3, 1) := by decide +kernel
theorem dX7_isRefused_33 : decode cX7_isRefused 33 = .ok (.invokevirtual 328, 3) := by decide +kernel
theorem dX7_isRefused_36 : decode cX7_isRefused 36 = .ok (.invokevirtual 332, 3) := by decide +kernel
theorem dX7_isRefused_39 : decode cX7_isRefused 39 = .ok (.iconst 1, 1) := by decide +kernel
theorem dX7_isRefused_40 : decode cX7_isRefused 40 = .ok (.ireturn, 1) := by decide +kernel
theorem dX7_change_0 : decode cX7_change 0 = .ok (.aload_n 0, 1) := by decide +kernel
theorem dX7_change_1 : decode cX7_change 1 = .ok (.getfield 25, 3) := by decide +kernel
theorem dX7_change_4 : decode cX7_change 4 = .ok (.aload_n 0, 1) := by decide +kernel
theorem dX7_change_5 : decode cX7_change 5 = .ok (.getfield 12, 3) := by decide +kernel
theorem dX7_change_8 : decode cX7_change 8 = .ok (.invokevirtual 336, 3) := by decide +kernel
theorem dX7_change_11 : decode cX7_change 11 = .ok (.aload_n 0, 1) := by decide +kernel
theorem dX7_change_12 : decode cX7_change 12 = .ok (.getfield 12, 3) := by decide +kernel
theorem dX7_change_15 : decode cX7_change 15 = .ok (.aload_n 1, 1) := by decide +kernel
theorem dX7_change_16 : decode cX7_change 16 = .ok (.iload_n 2, 1) := by decide +kernel
theorem dX7_change_17 : decode cX7_change 17 = .ok (.iload_n 3, 1) := by decide +kernel
theorem dX7_change_18 : decode cX7_change 18 = .ok (.invokevirtual 339, 3) := by decide +kernel
theorem dX7_change_21 : decode cX7_change 21 = .ok (.return_, 1) := by decide +kernel
theorem dX7_isTextDone_0 : decode cX7_isTextDone 0 = .ok (.aload_n 0, 1) := by decide +kernel
theorem dX7_isTextDone_1 : decode cX7_isTextDone 1 = .ok (.getfield 16, 3) := by decide +kernel
theorem dX7_isTextDone_4 : decode cX7_isTextDone 4 = .ok (.aload_n 0, 1) := by decide +kernel
theorem dX7_isTextDone_5 : decode cX7_isTextDone 5 = .ok (.getfield 12, 3) := by decide +kernel
theorem dX7_isTextDone_8 : decode cX7_isTextDone 8 = .ok (.invokevirtual 314, 3) := by decide +kernel
theorem dX7_isTextDone_11 : decode cX7_isTextDone 11 = .ok (.iconst 0, 1) := by decide +kernel
theorem dX7_isTextDone_12 : decode cX7_isTextDone 12 = .ok (.istore_n 1, 1) := by decide +kernel
theorem dX7_isTextDone_13 : decode cX7_isTextDone 13 = .ok (.iload_n 1, 1) := by decide +kernel
theorem dX7_isTextDone_14 : decode cX7_isTextDone 14 = .ok (.aload_n 0, 1) := by decide +kernel
theorem dX7_isTextDone_15 : decode cX7_isTextDone 15 = .ok (.getfield 39, 3) := by decide +kernel
theorem dX7_isTextDone_18 : decode cX7_isTextDone 18 = .ok (.getfield 297, 3) := by decide +kernel
theorem dX7_isTextDone_21 : decode cX7_isTextDone 21 = .ok (.if_icmp .ge 126, 3) := by decide +kernel
theorem dX7_isTextDone_24 : decode cX7_isTextDone 24 = .ok (.aload_n 0, 1) := by decide +kernel
theorem dX7_isTextDone_25 : decode cX7_isTextDone 25 = .ok (.getfield 39, 3) := by decide +kernel
theorem dX7_isTextDone_28 : decode cX7_isTextDone 28 = .ok (.getfield 342, 3) := by decide +kernel
theorem dX7_isTextDone_31 : decode cX7_isTextDone 31 = .ok (.iload_n 1, 1) := by decide +kernel
theorem dX7_isTextDone_32 : decode cX7_isTextDone 32 = .ok (.aaload, 1) := by decide +kernel
theorem dX7_isTextDone_33 : decode cX7_isTextDone 33 = .ok (.astore_n 2, 1) := by decide +kernel
theorem dX7_isTextDone_34 : decode cX7_isTextDone 34 = .ok (.aload_n 0, 1) := by decide +kernel
theorem dX7_isTextDone_35 : decode cX7_isTextDone 35 = .ok (.getfield 39, 3) := by decide +kernel
theorem dX7_isTextDone_38 : decode cX7_isTextDone 38 = .ok (.getfield 346, 3) := by decide +kernel
theorem dX7_isTextDone_41 : decode cX7_isTextDone 41 = .ok (.iload_n 1, 1) := by decide +kernel
theorem dX7_isTextDone_42 : decode cX7_isTextDone 42 = .ok (.iaload, 1) := by decide +kernel
theorem dX7_isTextDone_43 : decode cX7_isTextDone 43 = .ok (.istore_n 3, 1) := by decide +kernel
theorem dX7_isTextDone_44 : decode cX7_isTextDone 44 = .ok (.aload_n 0, 1) := by decide +kernel
theorem dX7_isTextDone_45 : decode cX7_isTextDone 45 = .ok (.getfield 39, 3) := by decide +kernel
theorem dX7_isTextDone_48 : decode cX7_isTextDone 48 = .ok (.getfield 349, 3) := by decide +kernel
theorem dX7_isTextDone_51 : decode cX7_isTextDone 51 = .ok (.iload_n 1, 1) := by decide +kernel
theorem dX7_isTextDone_52 : decode cX7_isTextDone 52 = .ok (.iaload, 1) := by decide +kernel
theorem dX7_isTextDone_53 : decode cX7_isTextDone 53 = .ok (.istore 4, 2) := by decide +kernel
theorem dX7_isTextDone_55 : decode cX7_isTextDone 55 = .ok (.aload_n 0, 1) := by decide +kernel
theorem dX7_isTextDone_56 : decode cX7_isTextDone 56 = .ok (.getfield 16, 3) := by decide +kernel
theorem dX7_isTextDone_59 : decode cX7_isTextDone 59 = .ok (.aload_n 2, 1) := by decide +kernel
theorem dX7_isTextDone_60 : decode cX7_isTextDone 60 = .ok (.iload_n 3, 1) := by decide +kernel
theorem dX7_isTextDone_61 : decode cX7_isTextDone 61 = .ok (.iload 4, 2) := by decide +kernel
theorem dX7_isTextDone_63 : decode cX7_isTextDone 63 = .ok (.invokevirtual 352, 3) := by decide +kernel
theorem dX7_isTextDone_66 : decode cX7_isTextDone 66 = .ok (.ifCond .ne 14, 3) := by decide +kernel
theorem dX7_isTextDone_69 : decode cX7_isTextDone 69 = .ok (.aload_n 0, 1) := by decide +kernel
theorem dX7_isTextDone_70 : decode cX7_isTextDone 70 = .ok (.getfield 32, 3) := by decide +kernel
theorem dX7_isTextDone_73 : decode cX7_isTextDone 73 = .ok (.iconst 5, 1) := by decide +kernel
theorem dX7_isTextDone_74 : decode cX7_isTextDone 74 = .ok (.iload_n 1, 1) := by decide +kernel
theorem dX7_isTextDone_75 : decode cX7_isTextDone 75 = .ok (.invokevirtual 332, 3) := by decide +kernel
theorem dX7_isTextDone_78 : decode cX7_isTextDone 78 = .ok (.iconst 0, 1) := by decide +kernel
theorem dX7_isTextDone_79 : decode cX7_isTextDone 79 = .ok (.ireturn, 1) := by decide +kernel
theorem dX7_isTextDone_80 : decode cX7_isTextDone 80 = .ok (.aload_n 0, 1) := by decide +kernel
theorem dX7_isTextDone_81 : decode cX7_isTextDone 81 = .ok (.getfield 16, 3) := by decide +kernel
theorem dX7_isTextDone_84 : decode cX7_isTextDone 84 = .ok (.aload_n 2, 1) := by decide +kernel
theorem dX7_isTextDone_85 : decode cX7_isTextDone 85 = .ok (.iload_n 3, 1) := by decide +kernel
theorem dX7_isTextDone_86 : decode cX7_isTextDone 86 = .ok (.iload 4, 2) := by decide +kernel
theorem dX7_isTextDone_88 : decode cX7_isTextDone 88 = .ok (.invokevirtual 324, 3) := by decide +kernel
theorem dX7_isTextDone_91 : decode cX7_isTextDone 91 = .ok (.istore 5, 2) := by decide +kernel
theorem dX7_isTextDone_93 : decode cX7_isTextDone 93 = .ok (.iload 5, 2) := by decide +kernel
theorem dX7_isTextDone_95 : decode cX7_isTextDone 95 = .ok (.ifCond .eq 35, 3) := by decide +kernel
theorem dX7_isTextDone_98 : decode cX7_isTextDone 98 = .ok (.aload_n 0, 1) := by decide +kernel
theorem dX7_isTextDone_99 : decode cX7_isTextDone 99 = .ok (.getfield 32, 3) := by decide +kernel
theorem dX7_isTextDone_102 : decode cX7_isTextDone 102 = .ok (.iconst 5, 1) := by decide +kernel
theorem dX7_isTextDone_103 : decode cX7_isTextDone 103 = .ok (.iload_n 1, 1) := by decide +kernel
theorem dX7_isTextDone_104 : decode cX7_isTextDone 104 = .ok (.invokevirtual 332, 3) := by decide +kernel
theorem dX7_isTextDone_107 : decode cX7_isTextDone 107 = .ok (.aload_n 0, 1) := by decide +kernel
theorem dX7_isTextDone_108 : decode cX7_isTextDone 108 = .ok (.getfield 32, 3) := by decide +kernel
theorem dX7_isTextDone_111 : decode cX7_isTextDone 111 = .ok (.iload 5, 2) := by decide +kernel
theorem dX7_isTextDone_113 : decode cX7_isTextDone 113 = .ok (.aload_n 0, 1) := by decide +kernel
theorem dX7_isTextDone_114 : decode cX7_isTextDone 114 = .ok (.getfield 16, 3) := by decide +kernel
theorem dX7_isTextDone_117 : decode cX7_isTextDone 117 = .ok (.iload 5, 2) := by decide +kernel
theorem dX7_isTextDone_119 : decode cX7_isTextDone 119 = .ok (.iload_n 3, 1) := by decide +kernel
theorem dX7_isTextDone_120 : decode cX7_isTextDone 120 = .ok (.iload 4, 2) := by decide +kernel
theorem dX7_isTextDone_122 : decode cX7_isTextDone 122 = .ok (.invokevirtual 328, 3) := by decide +kernel
theorem dX7_isTextDone_125 : decode cX7_isTextDone 125 = .ok (.invokevirtual 355, 3) := by decide +kernel
theorem dX7_isTextDone_128 : decode cX7_isTextDone 128 = .ok (.iconst 0, 1) := by decide +kernel
theorem dX7_isTextDone_129 : decode cX7_isTextDone 129 = .ok (.ireturn, 1) := by decide +kernel
theorem dX7_isTextDone_130 : decode cX7_isTextDone 130 = .ok (.aload_n 0, 1) := by decide +kernel
theorem dX7_isTextDone_131 : decode cX7_isTextDone 131 = .ok (.getfield 16, 3) := by decide +kernel
theorem dX7_isTextDone_134 : decode cX7_isTextDone 134 = .ok (.aload_n 2, 1) := by decide +kernel
theorem dX7_isTextDone_135 : decode cX7_isTextDone 135 = .ok (.iload_n 3, 1) := by decide +kernel
theorem dX7_isTextDone_136 : decode cX7_isTextDone 136 = .ok (.iload 4, 2) := by decide +kernel
theorem dX7_isTextDone_138 : decode cX7_isTextDone 138 = .ok (.invokevirtual 339, 3) := by decide +kernel
theorem dX7_isTextDone_141 : decode cX7_isTextDone 141 = .ok (.iinc 1 1, 3) := by decide +kernel
theorem dX7_isTextDone_144 : decode cX7_isTextDone 144 = .ok (.goto (-131), 3) := by decide +kernel
theorem dX7_isTextDone_147 : decode cX7_isTextDone 147 = .ok (.aload_n 0, 1) := by decide +kernel
theorem dX7_isTextDone_148 : decode cX7_isTextDone 148 = .ok (.getfield 25, 3) := by decide +kernel
theorem dX7_isTextDone_151 : decode cX7_isTextDone 151 = .ok (.aload_n 0, 1) := by decide +kernel
theorem dX7_isTextDone_152 : decode cX7_isTextDone 152 = .ok (.getfield 12, 3) := by decide +kernel
theorem dX7_isTextDone_155 : decode cX7_isTextDone 155 = .ok (.invokevirtual 336, 3) := by decide +kernel
theorem dX7_isTextDone_158 : decode cX7_isTextDone 158 = .ok (.aload_n 0, 1) := by decide +kernel
theorem dX7_isTextDone_159 : decode cX7_isTextDone 159 = .ok (.getfield 12, 3) := by decide +kernel
theorem dX7_isTextDone_162 : decode cX7_isTextDone 162 = .ok (.aload_n 0, 1) := by decide +kernel
theorem dX7_isTextDone_163 : decode cX7_isTextDone 163 = .ok (.getfield 16, 3) := by decide +kernel
theorem dX7_isTextDone_166 : decode cX7_isTextDone 166 = .ok (.invokevirtual 314, 3) := by decide +kernel
theorem dX7_isTextDone_169 : decode cX7_isTextDone 169 = .ok (.iconst 1, 1) := by decide +kernel
theorem dX7_isTextDone_170 : decode cX7_isTextDone 170 = .ok (.ireturn, 1) := by decide +kernel
theorem dX7_bitsOf_0 : decode cX7_bitsOf 0 = .ok (.fload_n 0, 1) := by decide +kernel
theorem dX7_bitsOf_1 : decode cX7_bitsOf 1 = .ok (.fconst 0, 1) := by decide +kernel
theorem dX7_bitsOf_2 : decode cX7_bitsOf 2 = .ok (.fcmp .l, 1) := by decide +kernel
theorem dX7_bitsOf_3 : decode cX7_bitsOf 3 = .ok (.ifCond .ne 5, 3) := by decide +kernel
theorem dX7_bitsOf_6 : decode cX7_bitsOf 6 = .ok (.iconst 0, 1) := by decide +kernel
theorem dX7_bitsOf_7 : decode cX7_bitsOf 7 = .ok (.ireturn, 1) := by decide +kernel
theorem dX7_bitsOf_8 : decode cX7_bitsOf 8 = .ok (.fload_n 0, 1) := by decide +kernel
theorem dX7_bitsOf_9 : decode cX7_bitsOf 9 = .ok (.fconst 0, 1) := by decide +kernel
theorem dX7_bitsOf_10 : decode cX7_bitsOf 10 = .ok (.fcmp .g, 1) := by decide +kernel
theorem dX7_bitsOf_11 : decode cX7_bitsOf 11 = .ok (.ifCond .ge 8, 3) := by decide +kernel
theorem dX7_bitsOf_14 : decode cX7_bitsOf 14 = .ok (.fload_n 0, 1) := by decide +kernel
theorem dX7_bitsOf_15 : decode cX7_bitsOf 15 = .ok (.fneg, 1) := by decide +kernel
theorem dX7_bitsOf_16 : decode cX7_bitsOf 16 = .ok (.goto 4, 3) := by decide +kernel
theorem dX7_bitsOf_19 : decode cX7_bitsOf 19 = .ok (.fload_n 0, 1) := by decide +kernel
theorem dX7_bitsOf_20 : decode cX7_bitsOf 20 = .ok (.fstore_n 1, 1) := by decide +kernel
theorem dX7_bitsOf_21 : decode cX7_bitsOf 21 = .ok (.bipush 127, 2) := by decide +kernel
theorem dX7_bitsOf_23 : decode cX7_bitsOf 23 = .ok (.istore_n 2, 1) := by decide +kernel
theorem dX7_bitsOf_24 : decode cX7_bitsOf 24 = .ok (.fload_n 1, 1) := by decide +kernel
theorem dX7_bitsOf_25 : decode cX7_bitsOf 25 = .ok (.fconst 2, 1) := by decide +kernel
theorem dX7_bitsOf_26 : decode cX7_bitsOf 26 = .ok (.fcmp .l, 1) := by decide +kernel
theorem dX7_bitsOf_27 : decode cX7_bitsOf 27 = .ok (.ifCond .lt 20, 3) := by decide +kernel
theorem dX7_bitsOf_30 : decode cX7_bitsOf 30 = .ok (.iload_n 2, 1) := by decide +kernel
theorem dX7_bitsOf_31 : decode cX7_bitsOf 31 = .ok (.sipush 254, 3) := by decide +kernel
theorem dX7_bitsOf_34 : decode cX7_bitsOf 34 = .ok (.if_icmp .ge 13, 3) := by decide +kernel
theorem dX7_bitsOf_37 : decode cX7_bitsOf 37 = .ok (.fload_n 1, 1) := by decide +kernel
theorem dX7_bitsOf_38 : decode cX7_bitsOf 38 = .ok (.fconst 2, 1) := by decide +kernel
theorem dX7_bitsOf_39 : decode cX7_bitsOf 39 = .ok (.fdiv, 1) := by decide +kernel
theorem dX7_bitsOf_40 : decode cX7_bitsOf 40 = .ok (.fstore_n 1, 1) := by decide +kernel
theorem dX7_bitsOf_41 : decode cX7_bitsOf 41 = .ok (.iinc 2 1, 3) := by decide +kernel
theorem dX7_bitsOf_44 : decode cX7_bitsOf 44 = .ok (.goto (-20), 3) := by decide +kernel
theorem dX7_bitsOf_47 : decode cX7_bitsOf 47 = .ok (.fload_n 1, 1) := by decide +kernel
theorem dX7_bitsOf_48 : decode cX7_bitsOf 48 = .ok (.fconst 1, 1) := by decide +kernel
theorem dX7_bitsOf_49 : decode cX7_bitsOf 49 = .ok (.fcmp .g, 1) := by decide +kernel
theorem dX7_bitsOf_50 : decode cX7_bitsOf 50 = .ok (.ifCond .ge 18, 3) := by decide +kernel
theorem dX7_bitsOf_53 : decode cX7_bitsOf 53 = .ok (.iload_n 2, 1) := by decide +kernel
theorem dX7_bitsOf_54 : decode cX7_bitsOf 54 = .ok (.iconst 1, 1) := by decide +kernel
theorem dX7_bitsOf_55 : decode cX7_bitsOf 55 = .ok (.if_icmp .le 13, 3) := by decide +kernel
theorem dX7_bitsOf_58 : decode cX7_bitsOf 58 = .ok (.fload_n 1, 1) := by decide +kernel
theorem dX7_bitsOf_59 : decode cX7_bitsOf 59 = .ok (.fconst 2, 1) := by decide +kernel
theorem dX7_bitsOf_60 : decode cX7_bitsOf 60 = .ok (.fmul, 1) := by decide +kernel
theorem dX7_bitsOf_61 : decode cX7_bitsOf 61 = .ok (.fstore_n 1, 1) := by decide +kernel
theorem dX7_bitsOf_62 : decode cX7_bitsOf 62 = .ok (.iinc 2 (-1), 3) := by decide +kernel
theorem dX7_bitsOf_65 : decode cX7_bitsOf 65 = .ok (.goto (-18), 3) := by decide +kernel
theorem dX7_bitsOf_68 : decode cX7_bitsOf 68 = .ok (.iload_n 2, 1) := by decide +kernel
theorem dX7_bitsOf_69 : decode cX7_bitsOf 69 = .ok (.bipush 23, 2) := by decide +kernel
theorem dX7_bitsOf_71 : decode cX7_bitsOf 71 = .ok (.ishl, 1) := by decide +kernel
theorem dX7_bitsOf_72 : decode cX7_bitsOf 72 = .ok (.fload_n 1, 1) := by decide +kernel
theorem dX7_bitsOf_73 : decode cX7_bitsOf 73 = .ok (.fconst 1, 1) := by decide +kernel
theorem dX7_bitsOf_74 : decode cX7_bitsOf 74 = .ok (.fsub, 1) := by decide +kernel
theorem dX7_bitsOf_75 : decode cX7_bitsOf 75 = .ok (.ldc_w 358, 3) := by decide +kernel
theorem dX7_bitsOf_78 : decode cX7_bitsOf 78 = .ok (.fmul, 1) := by decide +kernel
theorem dX7_bitsOf_79 : decode cX7_bitsOf 79 = .ok (.f2i, 1) := by decide +kernel
theorem dX7_bitsOf_80 : decode cX7_bitsOf 80 = .ok (.ior, 1) := by decide +kernel
theorem dX7_bitsOf_81 : decode cX7_bitsOf 81 = .ok (.istore_n 3, 1) := by decide +kernel
theorem dX7_bitsOf_82 : decode cX7_bitsOf 82 = .ok (.fload_n 0, 1) := by decide +kernel
theorem dX7_bitsOf_83 : decode cX7_bitsOf 83 = .ok (.fconst 0, 1) := by decide +kernel
theorem dX7_bitsOf_84 : decode cX7_bitsOf 84 = .ok (.fcmp .g, 1) := by decide +kernel
theorem dX7_bitsOf_85 : decode cX7_bitsOf 85 = .ok (.ifCond .ge 11, 3) := by decide +kernel
theorem dX7_bitsOf_88 : decode cX7_bitsOf 88 = .ok (.iload_n 3, 1) := by decide +kernel
theorem dX7_bitsOf_89 : decode cX7_bitsOf 89 = .ok (.ldc_w 359, 3) := by decide +kernel
theorem dX7_bitsOf_92 : decode cX7_bitsOf 92 = .ok (.ior, 1) := by decide +kernel
theorem dX7_bitsOf_93 : decode cX7_bitsOf 93 = .ok (.goto 4, 3) := by decide +kernel
theorem dX7_bitsOf_96 : decode cX7_bitsOf 96 = .ok (.iload_n 3, 1) := by decide +kernel
theorem dX7_bitsOf_97 : decode cX7_bitsOf 97 = .ok (.ireturn, 1) := by decide +kernel
