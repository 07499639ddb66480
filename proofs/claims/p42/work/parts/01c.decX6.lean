theorem dX6_init_0 : decode cX6_init 0 = .ok (.aload_n 0, 1) := by decide +kernel
theorem dX6_init_1 : decode cX6_init 1 = .ok (.invokespecial 3, 3) := by decide +kernel
theorem dX6_init_4 : decode cX6_init 4 = .ok (.aload_n 0, 1) := by decide +kernel
theorem dX6_init_5 : decode cX6_init 5 = .ok (.bipush 60, 2) := by decide +kernel
theorem dX6_init_7 : decode cX6_init 7 = .ok (.newarray .char, 2) := by decide +kernel
theorem dX6_init_9 : decode cX6_init 9 = .ok (.putfield 9, 3) := by decide +kernel
theorem dX6_init_12 : decode cX6_init 12 = .ok (.aload_n 0, 1) := by decide +kernel
theorem dX6_init_13 : decode cX6_init 13 = .ok (.bipush 15, 2) := by decide +kernel
theorem dX6_init_15 : decode cX6_init 15 = .ok (.anewarray 15, 3) := by decide +kernel
theorem dX6_init_18 : decode cX6_init 18 = .ok (.putfield 17, 3) := by decide +kernel
theorem dX6_init_21 : decode cX6_init 21 = .ok (.aload_n 0, 1) := by decide +kernel
theorem dX6_init_22 : decode cX6_init 22 = .ok (.bipush 15, 2) := by decide +kernel
theorem dX6_init_24 : decode cX6_init 24 = .ok (.newarray .int, 2) := by decide +kernel
theorem dX6_init_26 : decode cX6_init 26 = .ok (.putfield 21, 3) := by decide +kernel
theorem dX6_init_29 : decode cX6_init 29 = .ok (.aload_n 0, 1) := by decide +kernel
theorem dX6_init_30 : decode cX6_init 30 = .ok (.bipush 15, 2) := by decide +kernel
theorem dX6_init_32 : decode cX6_init 32 = .ok (.newarray .int, 2) := by decide +kernel
theorem dX6_init_34 : decode cX6_init 34 = .ok (.putfield 25, 3) := by decide +kernel
theorem dX6_init_37 : decode cX6_init 37 = .ok (.return_, 1) := by decide +kernel
theorem dX6_clear_0 : decode cX6_clear 0 = .ok (.aload_n 0, 1) := by decide +kernel
theorem dX6_clear_1 : decode cX6_clear 1 = .ok (.iconst 0, 1) := by decide +kernel
theorem dX6_clear_2 : decode cX6_clear 2 = .ok (.putfield 28, 3) := by decide +kernel
theorem dX6_clear_5 : decode cX6_clear 5 = .ok (.return_, 1) := by decide +kernel
theorem dX6_parse_0 : decode cX6_parse 0 = .ok (.aload_n 0, 1) := by decide +kernel
theorem dX6_parse_1 : decode cX6_parse 1 = .ok (.iconst 0, 1) := by decide +kernel
theorem dX6_parse_2 : decode cX6_parse 2 = .ok (.putfield 32, 3) := by decide +kernel
theorem dX6_parse_5 : decode cX6_parse 5 = .ok (.iconst 0, 1) := by decide +kernel
theorem dX6_parse_6 : decode cX6_parse 6 = .ok (.istore_n 1, 1) := by decide +kernel
theorem dX6_parse_7 : decode cX6_parse 7 = .ok (.iload_n 1, 1) := by decide +kernel
theorem dX6_parse_8 : decode cX6_parse 8 = .ok (.aload_n 0, 1) := by decide +kernel
theorem dX6_parse_9 : decode cX6_parse 9 = .ok (.getfield 28, 3) := by decide +kernel
theorem dX6_parse_12 : decode cX6_parse 12 = .ok (.if_icmp .gt 66, 3) := by decide +kernel
theorem dX6_parse_15 : decode cX6_parse 15 = .ok (.aload_n 0, 1) := by decide +kernel
theorem dX6_parse_16 : decode cX6_parse 16 = .ok (.iload_n 1, 1) := by decide +kernel
theorem dX6_parse_17 : decode cX6_parse 17 = .ok (.invokevirtual 35, 3) := by decide +kernel
theorem dX6_parse_20 : decode cX6_parse 20 = .ok (.astore_n 2, 1) := by decide +kernel
theorem dX6_parse_21 : decode cX6_parse 21 = .ok (.aload_n 2, 1) := by decide +kernel
theorem dX6_parse_22 : decode cX6_parse 22 = .ok (.ifnonnull 11, 3) := by decide +kernel
theorem dX6_parse_25 : decode cX6_parse 25 = .ok (.iload_n 1, 1) := by decide +kernel
theorem dX6_parse_26 : decode cX6_parse 26 = .ok (.aload_n 0, 1) := by decide +kernel
theorem dX6_parse_27 : decode cX6_parse 27 = .ok (.iload_n 1, 1) := by decide +kernel
theorem dX6_parse_28 : decode cX6_parse 28 = .ok (.invokevirtual 39, 3) := by decide +kernel
theorem dX6_parse_31 : decode cX6_parse 31 = .ok (.iadd, 1) := by decide +kernel
theorem dX6_parse_32 : decode cX6_parse 32 = .ok (.ireturn, 1) := by decide +kernel
theorem dX6_parse_33 : decode cX6_parse 33 = .ok (.aload_n 0, 1) := by decide +kernel
theorem dX6_parse_34 : decode cX6_parse 34 = .ok (.aload_n 2, 1) := by decide +kernel
theorem dX6_parse_35 : decode cX6_parse 35 = .ok (.iload_n 1, 1) := by decide +kernel
theorem dX6_parse_36 : decode cX6_parse 36 = .ok (.invokevirtual 43, 3) := by decide +kernel
theorem dX6_parse_39 : decode cX6_parse 39 = .ok (.iload_n 1, 1) := by decide +kernel
theorem dX6_parse_40 : decode cX6_parse 40 = .ok (.aload_n 2, 1) := by decide +kernel
theorem dX6_parse_41 : decode cX6_parse 41 = .ok (.getfield 47, 3) := by decide +kernel
theorem dX6_parse_44 : decode cX6_parse 44 = .ok (.invokevirtual 51, 3) := by decide +kernel
theorem dX6_parse_47 : decode cX6_parse 47 = .ok (.iadd, 1) := by decide +kernel
theorem dX6_parse_48 : decode cX6_parse 48 = .ok (.istore_n 1, 1) := by decide +kernel
theorem dX6_parse_49 : decode cX6_parse 49 = .ok (.iload_n 1, 1) := by decide +kernel
theorem dX6_parse_50 : decode cX6_parse 50 = .ok (.aload_n 0, 1) := by decide +kernel
theorem dX6_parse_51 : decode cX6_parse 51 = .ok (.getfield 28, 3) := by decide +kernel
theorem dX6_parse_54 : decode cX6_parse 54 = .ok (.if_icmp .lt 5, 3) := by decide +kernel
theorem dX6_parse_57 : decode cX6_parse 57 = .ok (.iconst (-1), 1) := by decide +kernel
theorem dX6_parse_58 : decode cX6_parse 58 = .ok (.ireturn, 1) := by decide +kernel
theorem dX6_parse_59 : decode cX6_parse 59 = .ok (.aload_n 0, 1) := by decide +kernel
theorem dX6_parse_60 : decode cX6_parse 60 = .ok (.getfield 9, 3) := by decide +kernel
theorem dX6_parse_63 : decode cX6_parse 63 = .ok (.iload_n 1, 1) := by decide +kernel
theorem dX6_parse_64 : decode cX6_parse 64 = .ok (.caload, 1) := by decide +kernel
theorem dX6_parse_65 : decode cX6_parse 65 = .ok (.bipush 59, 2) := by decide +kernel
theorem dX6_parse_67 : decode cX6_parse 67 = .ok (.if_icmp .eq 5, 3) := by decide +kernel
theorem dX6_parse_70 : decode cX6_parse 70 = .ok (.iload_n 1, 1) := by decide +kernel
theorem dX6_parse_71 : decode cX6_parse 71 = .ok (.ireturn, 1) := by decide +kernel
theorem dX6_parse_72 : decode cX6_parse 72 = .ok (.iinc 1 1, 3) := by decide +kernel
theorem dX6_parse_75 : decode cX6_parse 75 = .ok (.goto (-68), 3) := by decide +kernel
theorem dX6_parse_78 : decode cX6_parse 78 = .ok (.aload_n 0, 1) := by decide +kernel
theorem dX6_parse_79 : decode cX6_parse 79 = .ok (.getfield 28, 3) := by decide +kernel
theorem dX6_parse_82 : decode cX6_parse 82 = .ok (.ireturn, 1) := by decide +kernel
theorem dX6_formAt_0 : decode cX6_formAt 0 = .ok (.iconst 0, 1) := by decide +kernel
theorem dX6_formAt_1 : decode cX6_formAt 1 = .ok (.istore_n 2, 1) := by decide +kernel
theorem dX6_formAt_2 : decode cX6_formAt 2 = .ok (.iload_n 2, 1) := by decide +kernel
theorem dX6_formAt_3 : decode cX6_formAt 3 = .ok (.getstatic 56, 3) := by decide +kernel
theorem dX6_formAt_6 : decode cX6_formAt 6 = .ok (.arraylength, 1) := by decide +kernel
theorem dX6_formAt_7 : decode cX6_formAt 7 = .ok (.if_icmp .ge 42, 3) := by decide +kernel
theorem dX6_formAt_10 : decode cX6_formAt 10 = .ok (.aload_n 0, 1) := by decide +kernel
theorem dX6_formAt_11 : decode cX6_formAt 11 = .ok (.getstatic 56, 3) := by decide +kernel
theorem dX6_formAt_14 : decode cX6_formAt 14 = .ok (.iload_n 2, 1) := by decide +kernel
theorem dX6_formAt_15 : decode cX6_formAt 15 = .ok (.aaload, 1) := by decide +kernel
theorem dX6_formAt_16 : decode cX6_formAt 16 = .ok (.getfield 47, 3) := by decide +kernel
theorem dX6_formAt_19 : decode cX6_formAt 19 = .ok (.iload_n 1, 1) := by decide +kernel
theorem dX6_formAt_20 : decode cX6_formAt 20 = .ok (.invokevirtual 59, 3) := by decide +kernel
theorem dX6_formAt_23 : decode cX6_formAt 23 = .ok (.getstatic 56, 3) := by decide +kernel
theorem dX6_formAt_26 : decode cX6_formAt 26 = .ok (.iload_n 2, 1) := by decide +kernel
theorem dX6_formAt_27 : decode cX6_formAt 27 = .ok (.aaload, 1) := by decide +kernel
theorem dX6_formAt_28 : decode cX6_formAt 28 = .ok (.getfield 47, 3) := by decide +kernel
theorem dX6_formAt_31 : decode cX6_formAt 31 = .ok (.invokevirtual 51, 3) := by decide +kernel
theorem dX6_formAt_34 : decode cX6_formAt 34 = .ok (.if_icmp .ne 9, 3) := by decide +kernel
theorem dX6_formAt_37 : decode cX6_formAt 37 = .ok (.getstatic 56, 3) := by decide +kernel
theorem dX6_formAt_40 : decode cX6_formAt 40 = .ok (.iload_n 2, 1) := by decide +kernel
theorem dX6_formAt_41 : decode cX6_formAt 41 = .ok (.aaload, 1) := by decide +kernel
theorem dX6_formAt_42 : decode cX6_formAt 42 = .ok (.areturn, 1) := by decide +kernel
theorem dX6_formAt_43 : decode cX6_formAt 43 = .ok (.iinc 2 1, 3) := by decide +kernel
theorem dX6_formAt_46 : decode cX6_formAt 46 = .ok (.goto (-44), 3) := by decide +kernel
theorem dX6_formAt_49 : decode cX6_formAt 49 = .ok (.aconst_null, 1) := by decide +kernel
theorem dX6_formAt_50 : decode cX6_formAt 50 = .ok (.areturn, 1) := by decide +kernel
theorem dX6_farthestAt_0 : decode cX6_farthestAt 0 = .ok (.iconst 0, 1) := by decide +kernel
theorem dX6_farthestAt_1 : decode cX6_farthestAt 1 = .ok (.istore_n 2, 1) := by decide +kernel
theorem dX6_farthestAt_2 : decode cX6_farthestAt 2 = .ok (.iconst 0, 1) := by decide +kernel
theorem dX6_farthestAt_3 : decode cX6_farthestAt 3 = .ok (.istore_n 3, 1) := by decide +kernel
theorem dX6_farthestAt_4 : decode cX6_farthestAt 4 = .ok (.iload_n 3, 1) := by decide +kernel
theorem dX6_farthestAt_5 : decode cX6_farthestAt 5 = .ok (.getstatic 56, 3) := by decide +kernel
theorem dX6_farthestAt_8 : decode cX6_farthestAt 8 = .ok (.arraylength, 1) := by decide +kernel
theorem dX6_farthestAt_9 : decode cX6_farthestAt 9 = .ok (.if_icmp .ge 27, 3) := by decide +kernel
theorem dX6_farthestAt_12 : decode cX6_farthestAt 12 = .ok (.iload_n 2, 1) := by decide +kernel
theorem dX6_farthestAt_13 : decode cX6_farthestAt 13 = .ok (.aload_n 0, 1) := by decide +kernel
theorem dX6_farthestAt_14 : decode cX6_farthestAt 14 = .ok (.getstatic 56, 3) := by decide +kernel
theorem dX6_farthestAt_17 : decode cX6_farthestAt 17 = .ok (.iload_n 3, 1) := by decide +kernel
theorem dX6_farthestAt_18 : decode cX6_farthestAt 18 = .ok (.aaload, 1) := by decide +kernel
theorem dX6_farthestAt_19 : decode cX6_farthestAt 19 = .ok (.getfield 47, 3) := by decide +kernel
theorem dX6_farthestAt_22 : decode cX6_farthestAt 22 = .ok (.iload_n 1, 1) := by decide +kernel
theorem dX6_farthestAt_23 : decode cX6_farthestAt 23 = .ok (.invokevirtual 59, 3) := by decide +kernel
theorem dX6_farthestAt_26 : decode cX6_farthestAt 26 = .ok (.invokestatic 63, 3) := by decide +kernel
theorem dX6_farthestAt_29 : decode cX6_farthestAt 29 = .ok (.istore_n 2, 1) := by decide +kernel
theorem dX6_farthestAt_30 : decode cX6_farthestAt 30 = .ok (.iinc 3 1, 3) := by decide +kernel
theorem dX6_farthestAt_33 : decode cX6_farthestAt 33 = .ok (.goto (-29), 3) := by decide +kernel
theorem dX6_farthestAt_36 : decode cX6_farthestAt 36 = .ok (.iload_n 2, 1) := by decide +kernel
theorem dX6_farthestAt_37 : decode cX6_farthestAt 37 = .ok (.ireturn, 1) := by decide +kernel
theorem dX6_matchedAt_0 : decode cX6_matchedAt 0 = .ok (.iconst 0, 1) := by decide +kernel
theorem dX6_matchedAt_1 : decode cX6_matchedAt 1 = .ok (.istore_n 3, 1) := by decide +kernel
theorem dX6_matchedAt_2 : decode cX6_matchedAt 2 = .ok (.iload_n 3, 1) := by decide +kernel
theorem dX6_matchedAt_3 : decode cX6_matchedAt 3 = .ok (.aload_n 1, 1) := by decide +kernel
theorem dX6_matchedAt_4 : decode cX6_matchedAt 4 = .ok (.invokevirtual 51, 3) := by decide +kernel
theorem dX6_matchedAt_7 : decode cX6_matchedAt 7 = .ok (.if_icmp .ge 38, 3) := by decide +kernel
theorem dX6_matchedAt_10 : decode cX6_matchedAt 10 = .ok (.iload_n 2, 1) := by decide +kernel
theorem dX6_matchedAt_11 : decode cX6_matchedAt 11 = .ok (.iload_n 3, 1) := by decide +kernel
theorem dX6_matchedAt_12 : decode cX6_matchedAt 12 = .ok (.iadd, 1) := by decide +kernel
theorem dX6_matchedAt_13 : decode cX6_matchedAt 13 = .ok (.aload_n 0, 1) := by decide +kernel
theorem dX6_matchedAt_14 : decode cX6_matchedAt 14 = .ok (.getfield 28, 3) := by decide +kernel
theorem dX6_matchedAt_17 : decode cX6_matchedAt 17 = .ok (.if_icmp .ge 28, 3) := by decide +kernel
theorem dX6_matchedAt_20 : decode cX6_matchedAt 20 = .ok (.aload_n 1, 1) := by decide +kernel
theorem dX6_matchedAt_21 : decode cX6_matchedAt 21 = .ok (.iload_n 3, 1) := by decide +kernel
theorem dX6_matchedAt_22 : decode cX6_matchedAt 22 = .ok (.invokevirtual 69, 3) := by decide +kernel
theorem dX6_matchedAt_25 : decode cX6_matchedAt 25 = .ok (.aload_n 0, 1) := by decide +kernel
theorem dX6_matchedAt_26 : decode cX6_matchedAt 26 = .ok (.getfield 9, 3) := by decide +kernel
theorem dX6_matchedAt_29 : decode cX6_matchedAt 29 = .ok (.iload_n 2, 1) := by decide +kernel
theorem dX6_matchedAt_30 : decode cX6_matchedAt 30 = .ok (.iload_n 3, 1) := by decide +kernel
theorem dX6_matchedAt_31 : decode cX6_matchedAt 31 = .ok (.iadd, 1) := by decide +kernel
theorem dX6_matchedAt_32 : decode cX6_matchedAt 32 = .ok (.caload, 1) := by decide +kernel
theorem dX6_matchedAt_33 : decode cX6_matchedAt 33 = .ok (.invokestatic 73, 3) := by decide +kernel
theorem dX6_matchedAt_36 : decode cX6_matchedAt 36 = .ok (.ifCond .eq 9, 3) := by decide +kernel
theorem dX6_matchedAt_39 : decode cX6_matchedAt 39 = .ok (.iinc 3 1, 3) := by decide +kernel
theorem dX6_matchedAt_42 : decode cX6_matchedAt 42 = .ok (.goto (-40), 3) := by decide +kernel
theorem dX6_matchedAt_45 : decode cX6_matchedAt 45 = .ok (.iload_n 3, 1) := by decide +kernel
theorem dX6_matchedAt_46 : decode cX6_matchedAt 46 = .ok (.ireturn, 1) := by decide +kernel
theorem dX6_isFit_0 : decode cX6_isFit 0 = .ok (.iload_n 0, 1) := by decide +kernel
theorem dX6_isFit_1 : decode cX6_isFit 1 = .ok (.tableswitch 62 86 88 #[32, 27, 37], 27) := by decide +kernel
theorem dX6_isFit_28 : decode cX6_isFit 28 = .ok (.iload_n 1, 1) := by decide +kernel
theorem dX6_isFit_29 : decode cX6_isFit 29 = .ok (.invokestatic 77, 3) := by decide +kernel
theorem dX6_isFit_32 : decode cX6_isFit 32 = .ok (.ireturn, 1) := by decide +kernel
theorem dX6_isFit_33 : decode cX6_isFit 33 = .ok (.iload_n 1, 1) := by decide +kernel
theorem dX6_isFit_34 : decode cX6_isFit 34 = .ok (.invokestatic 77, 3) := by decide +kernel
theorem dX6_isFit_37 : decode cX6_isFit 37 = .ok (.ireturn, 1) := by decide +kernel
theorem dX6_isFit_38 : decode cX6_isFit 38 = .ok (.iload_n 1, 1) := by decide +kernel
theorem dX6_isFit_39 : decode cX6_isFit 39 = .ok (.invokestatic 77, 3) := by decide +kernel
theorem dX6_isFit_42 : decode cX6_isFit 42 = .ok (.ifCond .ne 15, 3) := by decide +kernel
theorem dX6_isFit_45 : decode cX6_isFit 45 = .ok (.iload_n 1, 1) := by decide +kernel
theorem dX6_isFit_46 : decode cX6_isFit 46 = .ok (.bipush 97, 2) := by decide +kernel
theorem dX6_isFit_48 : decode cX6_isFit 48 = .ok (.if_icmp .lt 13, 3) := by decide +kernel
theorem dX6_isFit_51 : decode cX6_isFit 51 = .ok (.iload_n 1, 1) := by decide +kernel
theorem dX6_isFit_52 : decode cX6_isFit 52 = .ok (.bipush 102, 2) := by decide +kernel
theorem dX6_isFit_54 : decode cX6_isFit 54 = .ok (.if_icmp .gt 7, 3) := by decide +kernel
theorem dX6_isFit_57 : decode cX6_isFit 57 = .ok (.iconst 1, 1) := by decide +kernel
theorem dX6_isFit_58 : decode cX6_isFit 58 = .ok (.goto 4, 3) := by decide +kernel
theorem dX6_isFit_61 : decode cX6_isFit 61 = .ok (.iconst 0, 1) := by decide +kernel
theorem dX6_isFit_62 : decode cX6_isFit 62 = .ok (.ireturn, 1) := by decide +kernel
theorem dX6_isFit_63 : decode cX6_isFit 63 = .ok (.iload_n 1, 1) := by decide +kernel
theorem dX6_isFit_64 : decode cX6_isFit 64 = .ok (.iload_n 0, 1) := by decide +kernel
theorem dX6_isFit_65 : decode cX6_isFit 65 = .ok (.if_icmp .ne 7, 3) := by decide +kernel
theorem dX6_isFit_68 : decode cX6_isFit 68 = .ok (.iconst 1, 1) := by decide +kernel
theorem dX6_isFit_69 : decode cX6_isFit 69 = .ok (.goto 4, 3) := by decide +kernel
theorem dX6_isFit_72 : decode cX6_isFit 72 = .ok (.iconst 0, 1) := by decide +kernel
theorem dX6_isFit_73 : decode cX6_isFit 73 = .ok (.ireturn, 1) := by decide +kernel
theorem dX6_isDigit_0 : decode cX6_isDigit 0 = .ok (.iload_n 0, 1) := by decide +kernel
theorem dX6_isDigit_1 : decode cX6_isDigit 1 = .ok (.bipush 48, 2) := by decide +kernel
theorem dX6_isDigit_3 : decode cX6_isDigit 3 = .ok (.if_icmp .lt 13, 3) := by decide +kernel
theorem dX6_isDigit_6 : decode cX6_isDigit 6 = .ok (.iload_n 0, 1) := by decide +kernel
theorem dX6_isDigit_7 : decode cX6_isDigit 7 = .ok (.bipush 57, 2) := by decide +kernel
theorem dX6_isDigit_9 : decode cX6_isDigit 9 = .ok (.if_icmp .gt 7, 3) := by decide +kernel
theorem dX6_isDigit_12 : decode cX6_isDigit 12 = .ok (.iconst 1, 1) := by decide +kernel
theorem dX6_isDigit_13 : decode cX6_isDigit 13 = .ok (.goto 4, 3) := by decide +kernel
theorem dX6_isDigit_16 : decode cX6_isDigit 16 = .ok (.iconst 0, 1) := by decide +kernel
theorem dX6_isDigit_17 : decode cX6_isDigit 17 = .ok (.ireturn, 1) := by decide +kernel
theorem dX6_hexOf_0 : decode cX6_hexOf 0 = .ok (.iload_n 0, 1) := by decide +kernel
theorem dX6_hexOf_1 : decode cX6_hexOf 1 = .ok (.invokestatic 77, 3) := by decide +kernel
theorem dX6_hexOf_4 : decode cX6_hexOf 4 = .ok (.ifCond .eq 10, 3) := by decide +kernel
theorem dX6_hexOf_7 : decode cX6_hexOf 7 = .ok (.iload_n 0, 1) := by decide +kernel
theorem dX6_hexOf_8 : decode cX6_hexOf 8 = .ok (.bipush 48, 2) := by decide +kernel
theorem dX6_hexOf_10 : decode cX6_hexOf 10 = .ok (.isub, 1) := by decide +kernel
theorem dX6_hexOf_11 : decode cX6_hexOf 11 = .ok (.goto 10, 3) := by decide +kernel
theorem dX6_hexOf_14 : decode cX6_hexOf 14 = .ok (.iload_n 0, 1) := by decide +kernel
theorem dX6_hexOf_15 : decode cX6_hexOf 15 = .ok (.bipush 97, 2) := by decide +kernel
theorem dX6_hexOf_17 : decode cX6_hexOf 17 = .ok (.isub, 1) := by decide +kernel
theorem dX6_hexOf_18 : decode cX6_hexOf 18 = .ok (.bipush 10, 2) := by decide +kernel
theorem dX6_hexOf_20 : decode cX6_hexOf 20 = .ok (.iadd, 1) := by decide +kernel
theorem dX6_hexOf_21 : decode cX6_hexOf 21 = .ok (.ireturn, 1) := by decide +kernel
theorem dX6_keep_0 : decode cX6_keep 0 = .ok (.aload_n 0, 1) := by decide +kernel
theorem dX6_keep_1 : decode cX6_keep 1 = .ok (.getfield 32, 3) := by decide +kernel
theorem dX6_keep_4 : decode cX6_keep 4 = .ok (.bipush 15, 2) := by decide +kernel
theorem dX6_keep_6 : decode cX6_keep 6 = .ok (.if_icmp .lt 4, 3) := by decide +kernel
theorem dX6_keep_9 : decode cX6_keep 9 = .ok (.return_, 1) := by decide +kernel
theorem dX6_keep_10 : decode cX6_keep 10 = .ok (.iconst 0, 1) := by decide +kernel
theorem dX6_keep_11 : decode cX6_keep 11 = .ok (.istore_n 3, 1) := by decide +kernel
theorem dX6_keep_12 : decode cX6_keep 12 = .ok (.iconst 0, 1) := by decide +kernel
theorem dX6_keep_13 : decode cX6_keep 13 = .ok (.istore 4, 2) := by decide +kernel
theorem dX6_keep_15 : decode cX6_keep 15 = .ok (.iconst 0, 1) := by decide +kernel
theorem dX6_keep_16 : decode cX6_keep 16 = .ok (.istore 5, 2) := by decide +kernel
theorem dX6_keep_18 : decode cX6_keep 18 = .ok (.iload 5, 2) := by decide +kernel
theorem dX6_keep_20 : decode cX6_keep 20 = .ok (.aload_n 1, 1) := by decide +kernel
theorem dX6_keep_21 : decode cX6_keep 21 = .ok (.getfield 47, 3) := by decide +kernel
theorem dX6_keep_24 : decode cX6_keep 24 = .ok (.invokevirtual 51, 3) := by decide +kernel
theorem dX6_keep_27 : decode cX6_keep 27 = .ok (.if_icmp .ge 88, 3) := by decide +kernel
theorem dX6_keep_30 : decode cX6_keep 30 = .ok (.iload_n 2, 1) := by decide +kernel
theorem dX6_keep_31 : decode cX6_keep 31 = .ok (.iload 5, 2) := by decide +kernel
theorem dX6_keep_33 : decode cX6_keep 33 = .ok (.iadd, 1) := by decide +kernel
theorem dX6_keep_34 : decode cX6_keep 34 = .ok (.aload_n 0, 1) := by decide +kernel
theorem dX6_keep_35 : decode cX6_keep 35 = .ok (.getfield 28, 3) := by decide +kernel
theorem dX6_keep_38 : decode cX6_keep 38 = .ok (.if_icmp .ge 77, 3) := by decide +kernel
theorem dX6_keep_41 : decode cX6_keep 41 = .ok (.aload_n 1, 1) := by decide +kernel
theorem dX6_keep_42 : decode cX6_keep 42 = .ok (.getfield 47, 3) := by decide +kernel
theorem dX6_keep_45 : decode cX6_keep 45 = .ok (.iload 5, 2) := by decide +kernel
theorem dX6_keep_47 : decode cX6_keep 47 = .ok (.invokevirtual 69, 3) := by decide +kernel
theorem dX6_keep_50 : decode cX6_keep 50 = .ok (.istore 6, 2) := by decide +kernel
theorem dX6_keep_52 : decode cX6_keep 52 = .ok (.iload 6, 2) := by decide +kernel
theorem dX6_keep_54 : decode cX6_keep 54 = .ok (.bipush 87, 2) := by decide +kernel
theorem dX6_keep_56 : decode cX6_keep 56 = .ok (.if_icmp .ne 19, 3) := by decide +kernel
theorem dX6_keep_59 : decode cX6_keep 59 = .ok (.aload_n 0, 1) := by decide +kernel
theorem dX6_keep_60 : decode cX6_keep 60 = .ok (.getfield 9, 3) := by decide +kernel
theorem dX6_keep_63 : decode cX6_keep 63 = .ok (.iload_n 2, 1) := by decide +kernel
theorem dX6_keep_64 : decode cX6_keep 64 = .ok (.iload 5, 2) := by decide +kernel
theorem dX6_keep_66 : decode cX6_keep 66 = .ok (.iadd, 1) := by decide +kernel
theorem dX6_keep_67 : decode cX6_keep 67 = .ok (.caload, 1) := by decide +kernel
theorem dX6_keep_68 : decode cX6_keep 68 = .ok (.invokestatic 81, 3) := by decide +kernel
theorem dX6_keep_71 : decode cX6_keep 71 = .ok (.istore_n 3, 1) := by decide +kernel
theorem dX6_keep_72 : decode cX6_keep 72 = .ok (.goto 37, 3) := by decide +kernel
theorem dX6_keep_75 : decode cX6_keep 75 = .ok (.iload 6, 2) := by decide +kernel
theorem dX6_keep_77 : decode cX6_keep 77 = .ok (.bipush 86, 2) := by decide +kernel
theorem dX6_keep_79 : decode cX6_keep 79 = .ok (.if_icmp .eq 10, 3) := by decide +kernel
theorem dX6_keep_82 : decode cX6_keep 82 = .ok (.iload 6, 2) := by decide +kernel
theorem dX6_keep_84 : decode cX6_keep 84 = .ok (.bipush 88, 2) := by decide +kernel
theorem dX6_keep_86 : decode cX6_keep 86 = .ok (.if_icmp .ne 23, 3) := by decide +kernel
theorem dX6_keep_89 : decode cX6_keep 89 = .ok (.iload 4, 2) := by decide +kernel
theorem dX6_keep_91 : decode cX6_keep 91 = .ok (.bipush 16, 2) := by decide +kernel
theorem dX6_keep_93 : decode cX6_keep 93 = .ok (.imul, 1) := by decide +kernel
theorem dX6_keep_94 : decode cX6_keep 94 = .ok (.aload_n 0, 1) := by decide +kernel
theorem dX6_keep_95 : decode cX6_keep 95 = .ok (.getfield 9, 3) := by decide +kernel
theorem dX6_keep_98 : decode cX6_keep 98 = .ok (.iload_n 2, 1) := by decide +kernel
theorem dX6_keep_99 : decode cX6_keep 99 = .ok (.iload 5, 2) := by decide +kernel
theorem dX6_keep_101 : decode cX6_keep 101 = .ok (.iadd, 1) := by decide +kernel
theorem dX6_keep_102 : decode cX6_keep 102 = .ok (.caload, 1) := by decide +kernel
theorem dX6_keep_103 : decode cX6_keep 103 = .ok (.invokestatic 81, 3) := by decide +kernel
theorem dX6_keep_106 : decode cX6_keep 106 = .ok (.iadd, 1) := by decide +kernel
theorem dX6_keep_107 : decode cX6_keep 107 = .ok (.istore 4, 2) := by decide +kernel
theorem dX6_keep_109 : decode cX6_keep 109 = .ok (.iinc 5 1, 3) := by decide +kernel
theorem dX6_keep_112 : decode cX6_keep 112 = .ok (.goto (-94), 3) := by decide +kernel
theorem dX6_keep_115 : decode cX6_keep 115 = .ok (.aload_n 1, 1) := by decide +kernel
theorem dX6_keep_116 : decode cX6_keep 116 = .ok (.getstatic 85, 3) := by decide +kernel
theorem dX6_keep_119 : decode cX6_keep 119 = .ok (.if_acmp .ne 7, 3) := by decide +kernel
theorem dX6_keep_122 : decode cX6_keep 122 = .ok (.iconst 1, 1) := by decide +kernel
theorem dX6_keep_123 : decode cX6_keep 123 = .ok (.goto 4, 3) := by decide +kernel
theorem dX6_keep_126 : decode cX6_keep 126 = .ok (.iconst 0, 1) := by decide +kernel
theorem dX6_keep_127 : decode cX6_keep 127 = .ok (.istore 5, 2) := by decide +kernel
theorem dX6_keep_129 : decode cX6_keep 129 = .ok (.aload_n 0, 1) := by decide +kernel
theorem dX6_keep_130 : decode cX6_keep 130 = .ok (.getfield 17, 3) := by decide +kernel
theorem dX6_keep_133 : decode cX6_keep 133 = .ok (.aload_n 0, 1) := by decide +kernel
theorem dX6_keep_134 : decode cX6_keep 134 = .ok (.getfield 32, 3) := by decide +kernel
theorem dX6_keep_137 : decode cX6_keep 137 = .ok (.iload 5, 2) := by decide +kernel
theorem dX6_keep_139 : decode cX6_keep 139 = .ok (.ifCond .eq 9, 3) := by decide +kernel
theorem dX6_keep_142 : decode cX6_keep 142 = .ok (.getstatic 89, 3) := by decide +kernel
theorem dX6_keep_145 : decode cX6_keep 145 = .ok (.goto 4, 3) := by decide +kernel
theorem dX6_keep_148 : decode cX6_keep 148 = .ok (.aload_n 1, 1) := by decide +kernel
theorem dX6_keep_149 : decode cX6_keep 149 = .ok (.aastore, 1) := by decide +kernel
theorem dX6_keep_150 : decode cX6_keep 150 = .ok (.aload_n 0, 1) := by decide +kernel
theorem dX6_keep_151 : decode cX6_keep 151 = .ok (.getfield 21, 3) := by decide +kernel
theorem dX6_keep_154 : decode cX6_keep 154 = .ok (.aload_n 0, 1) := by decide +kernel
theorem dX6_keep_155 : decode cX6_keep 155 = .ok (.getfield 32, 3) := by decide +kernel
theorem dX6_keep_158 : decode cX6_keep 158 = .ok (.iload_n 3, 1) := by decide +kernel
theorem dX6_keep_159 : decode cX6_keep 159 = .ok (.iastore, 1) := by decide +kernel
theorem dX6_keep_160 : decode cX6_keep 160 = .ok (.aload_n 0, 1) := by decide +kernel
theorem dX6_keep_161 : decode cX6_keep 161 = .ok (.getfield 25, 3) := by decide +kernel
theorem dX6_keep_164 : decode cX6_keep 164 = .ok (.aload_n 0, 1) := by decide +kernel
theorem dX6_keep_165 : decode cX6_keep 165 = .ok (.getfield 32, 3) := by decide +kernel
theorem dX6_keep_168 : decode cX6_keep 168 = .ok (.iload 5, 2) := by decide +kernel
theorem dX6_keep_170 : decode cX6_keep 170 = .ok (.ifCond .eq 9, 3) := by decide +kernel
theorem dX6_keep_173 : decode cX6_keep 173 = .ok (.iload 4, 2) := by decide +kernel
theorem dX6_keep_175 : decode cX6_keep 175 = .ok (.ineg, 1) := by decide +kernel
theorem dX6_keep_176 : decode cX6_keep 176 = .ok (.goto 5, 3) := by decide +kernel
theorem dX6_keep_179 : decode cX6_keep 179 = .ok (.iload 4, 2) := by decide +kernel
theorem dX6_keep_181 : decode cX6_keep 181 = .ok (.iastore, 1) := by decide +kernel
theorem dX6_keep_182 : decode cX6_keep 182 = .ok (.aload_n 0, 1) := by decide +kernel
theorem dX6_keep_183 : decode cX6_keep 183 = .ok (.dup, 1) := by decide +kernel
theorem dX6_keep_184 : decode cX6_keep 184 = .ok (.getfield 32, 3) := by decide +kernel
theorem dX6_keep_187 : decode cX6_keep 187 = .ok (.iconst 1, 1) := by decide +kernel
theorem dX6_keep_188 : decode cX6_keep 188 = .ok (.iadd, 1) := by decide +kernel
theorem dX6_keep_189 : decode cX6_keep 189 = .ok (.putfield 32, 3) := by decide +kernel
theorem dX6_keep_192 : decode cX6_keep 192 = .ok (.return_, 1) := by decide +kernel
