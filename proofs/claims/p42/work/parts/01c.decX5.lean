theorem dX5_init_0 : decode cX5_init 0 = .ok (.aload_n 0, 1) := by decide +kernel
theorem dX5_init_1 : decode cX5_init 1 = .ok (.invokespecial 3, 3) := by decide +kernel
theorem dX5_init_4 : decode cX5_init 4 = .ok (.aload_n 0, 1) := by decide +kernel
theorem dX5_init_5 : decode cX5_init 5 = .ok (.bipush 8, 2) := by decide +kernel
theorem dX5_init_7 : decode cX5_init 7 = .ok (.newarray .int, 2) := by decide +kernel
theorem dX5_init_9 : decode cX5_init 9 = .ok (.putfield 9, 3) := by decide +kernel
theorem dX5_init_12 : decode cX5_init 12 = .ok (.aload_n 0, 1) := by decide +kernel
theorem dX5_init_13 : decode cX5_init 13 = .ok (.bipush 8, 2) := by decide +kernel
theorem dX5_init_15 : decode cX5_init 15 = .ok (.newarray .int, 2) := by decide +kernel
theorem dX5_init_17 : decode cX5_init 17 = .ok (.putfield 15, 3) := by decide +kernel
theorem dX5_init_20 : decode cX5_init 20 = .ok (.aload_n 0, 1) := by decide +kernel
theorem dX5_init_21 : decode cX5_init 21 = .ok (.bipush 8, 2) := by decide +kernel
theorem dX5_init_23 : decode cX5_init 23 = .ok (.newarray .int, 2) := by decide +kernel
theorem dX5_init_25 : decode cX5_init 25 = .ok (.putfield 18, 3) := by decide +kernel
theorem dX5_init_28 : decode cX5_init 28 = .ok (.aload_n 0, 1) := by decide +kernel
theorem dX5_init_29 : decode cX5_init 29 = .ok (.iconst 4, 1) := by decide +kernel
theorem dX5_init_30 : decode cX5_init 30 = .ok (.newarray .int, 2) := by decide +kernel
theorem dX5_init_32 : decode cX5_init 32 = .ok (.putfield 21, 3) := by decide +kernel
theorem dX5_init_35 : decode cX5_init 35 = .ok (.aload_n 0, 1) := by decide +kernel
theorem dX5_init_36 : decode cX5_init 36 = .ok (.bipush 10, 2) := by decide +kernel
theorem dX5_init_38 : decode cX5_init 38 = .ok (.newarray .int, 2) := by decide +kernel
theorem dX5_init_40 : decode cX5_init 40 = .ok (.putfield 24, 3) := by decide +kernel
theorem dX5_init_43 : decode cX5_init 43 = .ok (.aload_n 0, 1) := by decide +kernel
theorem dX5_init_44 : decode cX5_init 44 = .ok (.bipush 10, 2) := by decide +kernel
theorem dX5_init_46 : decode cX5_init 46 = .ok (.newarray .int, 2) := by decide +kernel
theorem dX5_init_48 : decode cX5_init 48 = .ok (.putfield 27, 3) := by decide +kernel
theorem dX5_init_51 : decode cX5_init 51 = .ok (.aload_n 0, 1) := by decide +kernel
theorem dX5_init_52 : decode cX5_init 52 = .ok (.bipush 10, 2) := by decide +kernel
theorem dX5_init_54 : decode cX5_init 54 = .ok (.newarray .float, 2) := by decide +kernel
theorem dX5_init_56 : decode cX5_init 56 = .ok (.putfield 30, 3) := by decide +kernel
theorem dX5_init_59 : decode cX5_init 59 = .ok (.iconst 0, 1) := by decide +kernel
theorem dX5_init_60 : decode cX5_init 60 = .ok (.istore_n 1, 1) := by decide +kernel
theorem dX5_init_61 : decode cX5_init 61 = .ok (.iload_n 1, 1) := by decide +kernel
theorem dX5_init_62 : decode cX5_init 62 = .ok (.iconst 4, 1) := by decide +kernel
theorem dX5_init_63 : decode cX5_init 63 = .ok (.if_icmp .ge 16, 3) := by decide +kernel
theorem dX5_init_66 : decode cX5_init 66 = .ok (.aload_n 0, 1) := by decide +kernel
theorem dX5_init_67 : decode cX5_init 67 = .ok (.getfield 21, 3) := by decide +kernel
theorem dX5_init_70 : decode cX5_init 70 = .ok (.iload_n 1, 1) := by decide +kernel
theorem dX5_init_71 : decode cX5_init 71 = .ok (.iconst 4, 1) := by decide +kernel
theorem dX5_init_72 : decode cX5_init 72 = .ok (.iastore, 1) := by decide +kernel
theorem dX5_init_73 : decode cX5_init 73 = .ok (.iinc 1 1, 3) := by decide +kernel
theorem dX5_init_76 : decode cX5_init 76 = .ok (.goto (-15), 3) := by decide +kernel
theorem dX5_init_79 : decode cX5_init 79 = .ok (.return_, 1) := by decide +kernel
theorem dX5_copyFrom_0 : decode cX5_copyFrom 0 = .ok (.aload_n 0, 1) := by decide +kernel
theorem dX5_copyFrom_1 : decode cX5_copyFrom 1 = .ok (.aload_n 1, 1) := by decide +kernel
theorem dX5_copyFrom_2 : decode cX5_copyFrom 2 = .ok (.getfield 34, 3) := by decide +kernel
theorem dX5_copyFrom_5 : decode cX5_copyFrom 5 = .ok (.putfield 34, 3) := by decide +kernel
theorem dX5_copyFrom_8 : decode cX5_copyFrom 8 = .ok (.aload_n 1, 1) := by decide +kernel
theorem dX5_copyFrom_9 : decode cX5_copyFrom 9 = .ok (.getfield 9, 3) := by decide +kernel
theorem dX5_copyFrom_12 : decode cX5_copyFrom 12 = .ok (.iconst 0, 1) := by decide +kernel
theorem dX5_copyFrom_13 : decode cX5_copyFrom 13 = .ok (.aload_n 0, 1) := by decide +kernel
theorem dX5_copyFrom_14 : decode cX5_copyFrom 14 = .ok (.getfield 9, 3) := by decide +kernel
theorem dX5_copyFrom_17 : decode cX5_copyFrom 17 = .ok (.iconst 0, 1) := by decide +kernel
theorem dX5_copyFrom_18 : decode cX5_copyFrom 18 = .ok (.bipush 8, 2) := by decide +kernel
theorem dX5_copyFrom_20 : decode cX5_copyFrom 20 = .ok (.invokestatic 38, 3) := by decide +kernel
theorem dX5_copyFrom_23 : decode cX5_copyFrom 23 = .ok (.aload_n 1, 1) := by decide +kernel
theorem dX5_copyFrom_24 : decode cX5_copyFrom 24 = .ok (.getfield 15, 3) := by decide +kernel
theorem dX5_copyFrom_27 : decode cX5_copyFrom 27 = .ok (.iconst 0, 1) := by decide +kernel
theorem dX5_copyFrom_28 : decode cX5_copyFrom 28 = .ok (.aload_n 0, 1) := by decide +kernel
theorem dX5_copyFrom_29 : decode cX5_copyFrom 29 = .ok (.getfield 15, 3) := by decide +kernel
theorem dX5_copyFrom_32 : decode cX5_copyFrom 32 = .ok (.iconst 0, 1) := by decide +kernel
theorem dX5_copyFrom_33 : decode cX5_copyFrom 33 = .ok (.bipush 8, 2) := by decide +kernel
theorem dX5_copyFrom_35 : decode cX5_copyFrom 35 = .ok (.invokestatic 38, 3) := by decide +kernel
theorem dX5_copyFrom_38 : decode cX5_copyFrom 38 = .ok (.aload_n 1, 1) := by decide +kernel
theorem dX5_copyFrom_39 : decode cX5_copyFrom 39 = .ok (.getfield 18, 3) := by decide +kernel
theorem dX5_copyFrom_42 : decode cX5_copyFrom 42 = .ok (.iconst 0, 1) := by decide +kernel
theorem dX5_copyFrom_43 : decode cX5_copyFrom 43 = .ok (.aload_n 0, 1) := by decide +kernel
theorem dX5_copyFrom_44 : decode cX5_copyFrom 44 = .ok (.getfield 18, 3) := by decide +kernel
theorem dX5_copyFrom_47 : decode cX5_copyFrom 47 = .ok (.iconst 0, 1) := by decide +kernel
theorem dX5_copyFrom_48 : decode cX5_copyFrom 48 = .ok (.bipush 8, 2) := by decide +kernel
theorem dX5_copyFrom_50 : decode cX5_copyFrom 50 = .ok (.invokestatic 38, 3) := by decide +kernel
theorem dX5_copyFrom_53 : decode cX5_copyFrom 53 = .ok (.aload_n 1, 1) := by decide +kernel
theorem dX5_copyFrom_54 : decode cX5_copyFrom 54 = .ok (.getfield 21, 3) := by decide +kernel
theorem dX5_copyFrom_57 : decode cX5_copyFrom 57 = .ok (.iconst 0, 1) := by decide +kernel
theorem dX5_copyFrom_58 : decode cX5_copyFrom 58 = .ok (.aload_n 0, 1) := by decide +kernel
theorem dX5_copyFrom_59 : decode cX5_copyFrom 59 = .ok (.getfield 21, 3) := by decide +kernel
theorem dX5_copyFrom_62 : decode cX5_copyFrom 62 = .ok (.iconst 0, 1) := by decide +kernel
theorem dX5_copyFrom_63 : decode cX5_copyFrom 63 = .ok (.iconst 4, 1) := by decide +kernel
theorem dX5_copyFrom_64 : decode cX5_copyFrom 64 = .ok (.invokestatic 38, 3) := by decide +kernel
theorem dX5_copyFrom_67 : decode cX5_copyFrom 67 = .ok (.aload_n 0, 1) := by decide +kernel
theorem dX5_copyFrom_68 : decode cX5_copyFrom 68 = .ok (.aload_n 1, 1) := by decide +kernel
theorem dX5_copyFrom_69 : decode cX5_copyFrom 69 = .ok (.getfield 44, 3) := by decide +kernel
theorem dX5_copyFrom_72 : decode cX5_copyFrom 72 = .ok (.putfield 44, 3) := by decide +kernel
theorem dX5_copyFrom_75 : decode cX5_copyFrom 75 = .ok (.aload_n 0, 1) := by decide +kernel
theorem dX5_copyFrom_76 : decode cX5_copyFrom 76 = .ok (.aload_n 1, 1) := by decide +kernel
theorem dX5_copyFrom_77 : decode cX5_copyFrom 77 = .ok (.getfield 47, 3) := by decide +kernel
theorem dX5_copyFrom_80 : decode cX5_copyFrom 80 = .ok (.putfield 47, 3) := by decide +kernel
theorem dX5_copyFrom_83 : decode cX5_copyFrom 83 = .ok (.aload_n 0, 1) := by decide +kernel
theorem dX5_copyFrom_84 : decode cX5_copyFrom 84 = .ok (.aload_n 1, 1) := by decide +kernel
theorem dX5_copyFrom_85 : decode cX5_copyFrom 85 = .ok (.getfield 50, 3) := by decide +kernel
theorem dX5_copyFrom_88 : decode cX5_copyFrom 88 = .ok (.putfield 50, 3) := by decide +kernel
theorem dX5_copyFrom_91 : decode cX5_copyFrom 91 = .ok (.aload_n 1, 1) := by decide +kernel
theorem dX5_copyFrom_92 : decode cX5_copyFrom 92 = .ok (.getfield 24, 3) := by decide +kernel
theorem dX5_copyFrom_95 : decode cX5_copyFrom 95 = .ok (.iconst 0, 1) := by decide +kernel
theorem dX5_copyFrom_96 : decode cX5_copyFrom 96 = .ok (.aload_n 0, 1) := by decide +kernel
theorem dX5_copyFrom_97 : decode cX5_copyFrom 97 = .ok (.getfield 24, 3) := by decide +kernel
theorem dX5_copyFrom_100 : decode cX5_copyFrom 100 = .ok (.iconst 0, 1) := by decide +kernel
theorem dX5_copyFrom_101 : decode cX5_copyFrom 101 = .ok (.bipush 10, 2) := by decide +kernel
theorem dX5_copyFrom_103 : decode cX5_copyFrom 103 = .ok (.invokestatic 38, 3) := by decide +kernel
theorem dX5_copyFrom_106 : decode cX5_copyFrom 106 = .ok (.aload_n 1, 1) := by decide +kernel
theorem dX5_copyFrom_107 : decode cX5_copyFrom 107 = .ok (.getfield 27, 3) := by decide +kernel
theorem dX5_copyFrom_110 : decode cX5_copyFrom 110 = .ok (.iconst 0, 1) := by decide +kernel
theorem dX5_copyFrom_111 : decode cX5_copyFrom 111 = .ok (.aload_n 0, 1) := by decide +kernel
theorem dX5_copyFrom_112 : decode cX5_copyFrom 112 = .ok (.getfield 27, 3) := by decide +kernel
theorem dX5_copyFrom_115 : decode cX5_copyFrom 115 = .ok (.iconst 0, 1) := by decide +kernel
theorem dX5_copyFrom_116 : decode cX5_copyFrom 116 = .ok (.bipush 10, 2) := by decide +kernel
theorem dX5_copyFrom_118 : decode cX5_copyFrom 118 = .ok (.invokestatic 38, 3) := by decide +kernel
theorem dX5_copyFrom_121 : decode cX5_copyFrom 121 = .ok (.aload_n 1, 1) := by decide +kernel
theorem dX5_copyFrom_122 : decode cX5_copyFrom 122 = .ok (.getfield 30, 3) := by decide +kernel
theorem dX5_copyFrom_125 : decode cX5_copyFrom 125 = .ok (.iconst 0, 1) := by decide +kernel
theorem dX5_copyFrom_126 : decode cX5_copyFrom 126 = .ok (.aload_n 0, 1) := by decide +kernel
theorem dX5_copyFrom_127 : decode cX5_copyFrom 127 = .ok (.getfield 30, 3) := by decide +kernel
theorem dX5_copyFrom_130 : decode cX5_copyFrom 130 = .ok (.iconst 0, 1) := by decide +kernel
theorem dX5_copyFrom_131 : decode cX5_copyFrom 131 = .ok (.bipush 10, 2) := by decide +kernel
theorem dX5_copyFrom_133 : decode cX5_copyFrom 133 = .ok (.invokestatic 38, 3) := by decide +kernel
theorem dX5_copyFrom_136 : decode cX5_copyFrom 136 = .ok (.aload_n 0, 1) := by decide +kernel
theorem dX5_copyFrom_137 : decode cX5_copyFrom 137 = .ok (.aload_n 1, 1) := by decide +kernel
theorem dX5_copyFrom_138 : decode cX5_copyFrom 138 = .ok (.getfield 53, 3) := by decide +kernel
theorem dX5_copyFrom_141 : decode cX5_copyFrom 141 = .ok (.putfield 53, 3) := by decide +kernel
theorem dX5_copyFrom_144 : decode cX5_copyFrom 144 = .ok (.aload_n 0, 1) := by decide +kernel
theorem dX5_copyFrom_145 : decode cX5_copyFrom 145 = .ok (.aload_n 1, 1) := by decide +kernel
theorem dX5_copyFrom_146 : decode cX5_copyFrom 146 = .ok (.getfield 56, 3) := by decide +kernel
theorem dX5_copyFrom_149 : decode cX5_copyFrom 149 = .ok (.putfield 56, 3) := by decide +kernel
theorem dX5_copyFrom_152 : decode cX5_copyFrom 152 = .ok (.aload_n 0, 1) := by decide +kernel
theorem dX5_copyFrom_153 : decode cX5_copyFrom 153 = .ok (.aload_n 1, 1) := by decide +kernel
theorem dX5_copyFrom_154 : decode cX5_copyFrom 154 = .ok (.getfield 59, 3) := by decide +kernel
theorem dX5_copyFrom_157 : decode cX5_copyFrom 157 = .ok (.putfield 59, 3) := by decide +kernel
theorem dX5_copyFrom_160 : decode cX5_copyFrom 160 = .ok (.aload_n 0, 1) := by decide +kernel
theorem dX5_copyFrom_161 : decode cX5_copyFrom 161 = .ok (.aload_n 1, 1) := by decide +kernel
theorem dX5_copyFrom_162 : decode cX5_copyFrom 162 = .ok (.getfield 62, 3) := by decide +kernel
theorem dX5_copyFrom_165 : decode cX5_copyFrom 165 = .ok (.putfield 62, 3) := by decide +kernel
theorem dX5_copyFrom_168 : decode cX5_copyFrom 168 = .ok (.return_, 1) := by decide +kernel
theorem dX5_isMood_0 : decode cX5_isMood 0 = .ok (.iload_n 0, 1) := by decide +kernel
theorem dX5_isMood_1 : decode cX5_isMood 1 = .ok (.ifCond .lt 13, 3) := by decide +kernel
theorem dX5_isMood_4 : decode cX5_isMood 4 = .ok (.iload_n 0, 1) := by decide +kernel
theorem dX5_isMood_5 : decode cX5_isMood 5 = .ok (.ldc 65, 2) := by decide +kernel
theorem dX5_isMood_7 : decode cX5_isMood 7 = .ok (.if_icmp .gt 7, 3) := by decide +kernel
theorem dX5_isMood_10 : decode cX5_isMood 10 = .ok (.iconst 1, 1) := by decide +kernel
theorem dX5_isMood_11 : decode cX5_isMood 11 = .ok (.goto 4, 3) := by decide +kernel
theorem dX5_isMood_14 : decode cX5_isMood 14 = .ok (.iconst 0, 1) := by decide +kernel
theorem dX5_isMood_15 : decode cX5_isMood 15 = .ok (.ireturn, 1) := by decide +kernel
theorem dX5_isGift_0 : decode cX5_isGift 0 = .ok (.iload_n 0, 1) := by decide +kernel
theorem dX5_isGift_1 : decode cX5_isGift 1 = .ok (.iconst 1, 1) := by decide +kernel
theorem dX5_isGift_2 : decode cX5_isGift 2 = .ok (.if_icmp .lt 13, 3) := by decide +kernel
theorem dX5_isGift_5 : decode cX5_isGift 5 = .ok (.iload_n 0, 1) := by decide +kernel
theorem dX5_isGift_6 : decode cX5_isGift 6 = .ok (.bipush 9, 2) := by decide +kernel
theorem dX5_isGift_8 : decode cX5_isGift 8 = .ok (.if_icmp .gt 7, 3) := by decide +kernel
theorem dX5_isGift_11 : decode cX5_isGift 11 = .ok (.iconst 1, 1) := by decide +kernel
theorem dX5_isGift_12 : decode cX5_isGift 12 = .ok (.goto 4, 3) := by decide +kernel
theorem dX5_isGift_15 : decode cX5_isGift 15 = .ok (.iconst 0, 1) := by decide +kernel
theorem dX5_isGift_16 : decode cX5_isGift 16 = .ok (.ireturn, 1) := by decide +kernel
theorem dX5_isWatch_0 : decode cX5_isWatch 0 = .ok (.iload_n 0, 1) := by decide +kernel
theorem dX5_isWatch_1 : decode cX5_isWatch 1 = .ok (.ifCond .lt 12, 3) := by decide +kernel
theorem dX5_isWatch_4 : decode cX5_isWatch 4 = .ok (.iload_n 0, 1) := by decide +kernel
theorem dX5_isWatch_5 : decode cX5_isWatch 5 = .ok (.iconst 4, 1) := by decide +kernel
theorem dX5_isWatch_6 : decode cX5_isWatch 6 = .ok (.if_icmp .ge 7, 3) := by decide +kernel
theorem dX5_isWatch_9 : decode cX5_isWatch 9 = .ok (.iconst 1, 1) := by decide +kernel
theorem dX5_isWatch_10 : decode cX5_isWatch 10 = .ok (.goto 4, 3) := by decide +kernel
theorem dX5_isWatch_13 : decode cX5_isWatch 13 = .ok (.iconst 0, 1) := by decide +kernel
theorem dX5_isWatch_14 : decode cX5_isWatch 14 = .ok (.ireturn, 1) := by decide +kernel
theorem dX5_isHorizon_0 : decode cX5_isHorizon 0 = .ok (.iload_n 0, 1) := by decide +kernel
theorem dX5_isHorizon_1 : decode cX5_isHorizon 1 = .ok (.ifCond .lt 13, 3) := by decide +kernel
theorem dX5_isHorizon_4 : decode cX5_isHorizon 4 = .ok (.iload_n 0, 1) := by decide +kernel
theorem dX5_isHorizon_5 : decode cX5_isHorizon 5 = .ok (.bipush 8, 2) := by decide +kernel
theorem dX5_isHorizon_7 : decode cX5_isHorizon 7 = .ok (.if_icmp .gt 7, 3) := by decide +kernel
theorem dX5_isHorizon_10 : decode cX5_isHorizon 10 = .ok (.iconst 1, 1) := by decide +kernel
theorem dX5_isHorizon_11 : decode cX5_isHorizon 11 = .ok (.goto 4, 3) := by decide +kernel
theorem dX5_isHorizon_14 : decode cX5_isHorizon 14 = .ok (.iconst 0, 1) := by decide +kernel
theorem dX5_isHorizon_15 : decode cX5_isHorizon 15 = .ok (.ireturn, 1) := by decide +kernel
theorem dX5_isError_0 : decode cX5_isError 0 = .ok (.iload_n 0, 1) := by decide +kernel
theorem dX5_isError_1 : decode cX5_isError 1 = .ok (.bipush (-3), 2) := by decide +kernel
theorem dX5_isError_3 : decode cX5_isError 3 = .ok (.if_icmp .lt 12, 3) := by decide +kernel
theorem dX5_isError_6 : decode cX5_isError 6 = .ok (.iload_n 0, 1) := by decide +kernel
theorem dX5_isError_7 : decode cX5_isError 7 = .ok (.iconst 3, 1) := by decide +kernel
theorem dX5_isError_8 : decode cX5_isError 8 = .ok (.if_icmp .gt 7, 3) := by decide +kernel
theorem dX5_isError_11 : decode cX5_isError 11 = .ok (.iconst 1, 1) := by decide +kernel
theorem dX5_isError_12 : decode cX5_isError 12 = .ok (.goto 4, 3) := by decide +kernel
theorem dX5_isError_15 : decode cX5_isError 15 = .ok (.iconst 0, 1) := by decide +kernel
theorem dX5_isError_16 : decode cX5_isError 16 = .ok (.ireturn, 1) := by decide +kernel
theorem dX5_hasSailor_0 : decode cX5_hasSailor 0 = .ok (.iload_n 1, 1) := by decide +kernel
theorem dX5_hasSailor_1 : decode cX5_hasSailor 1 = .ok (.ifCond .lt 15, 3) := by decide +kernel
theorem dX5_hasSailor_4 : decode cX5_hasSailor 4 = .ok (.iload_n 1, 1) := by decide +kernel
theorem dX5_hasSailor_5 : decode cX5_hasSailor 5 = .ok (.aload_n 0, 1) := by decide +kernel
theorem dX5_hasSailor_6 : decode cX5_hasSailor 6 = .ok (.getfield 34, 3) := by decide +kernel
theorem dX5_hasSailor_9 : decode cX5_hasSailor 9 = .ok (.if_icmp .ge 7, 3) := by decide +kernel
theorem dX5_hasSailor_12 : decode cX5_hasSailor 12 = .ok (.iconst 1, 1) := by decide +kernel
theorem dX5_hasSailor_13 : decode cX5_hasSailor 13 = .ok (.goto 4, 3) := by decide +kernel
theorem dX5_hasSailor_16 : decode cX5_hasSailor 16 = .ok (.iconst 0, 1) := by decide +kernel
theorem dX5_hasSailor_17 : decode cX5_hasSailor 17 = .ok (.ireturn, 1) := by decide +kernel
theorem dX5_hasBoth_0 : decode cX5_hasBoth 0 = .ok (.aload_n 0, 1) := by decide +kernel
theorem dX5_hasBoth_1 : decode cX5_hasBoth 1 = .ok (.iload_n 1, 1) := by decide +kernel
theorem dX5_hasBoth_2 : decode cX5_hasBoth 2 = .ok (.invokevirtual 66, 3) := by decide +kernel
theorem dX5_hasBoth_5 : decode cX5_hasBoth 5 = .ok (.ifCond .eq 15, 3) := by decide +kernel
theorem dX5_hasBoth_8 : decode cX5_hasBoth 8 = .ok (.aload_n 0, 1) := by decide +kernel
theorem dX5_hasBoth_9 : decode cX5_hasBoth 9 = .ok (.iload_n 2, 1) := by decide +kernel
theorem dX5_hasBoth_10 : decode cX5_hasBoth 10 = .ok (.invokevirtual 66, 3) := by decide +kernel
theorem dX5_hasBoth_13 : decode cX5_hasBoth 13 = .ok (.ifCond .eq 7, 3) := by decide +kernel
theorem dX5_hasBoth_16 : decode cX5_hasBoth 16 = .ok (.iconst 1, 1) := by decide +kernel
theorem dX5_hasBoth_17 : decode cX5_hasBoth 17 = .ok (.goto 4, 3) := by decide +kernel
theorem dX5_hasBoth_20 : decode cX5_hasBoth 20 = .ok (.iconst 0, 1) := by decide +kernel
theorem dX5_hasBoth_21 : decode cX5_hasBoth 21 = .ok (.ireturn, 1) := by decide +kernel
theorem dX5_hasSight_0 : decode cX5_hasSight 0 = .ok (.iload_n 1, 1) := by decide +kernel
theorem dX5_hasSight_1 : decode cX5_hasSight 1 = .ok (.ifCond .lt 15, 3) := by decide +kernel
theorem dX5_hasSight_4 : decode cX5_hasSight 4 = .ok (.iload_n 1, 1) := by decide +kernel
theorem dX5_hasSight_5 : decode cX5_hasSight 5 = .ok (.aload_n 0, 1) := by decide +kernel
theorem dX5_hasSight_6 : decode cX5_hasSight 6 = .ok (.getfield 50, 3) := by decide +kernel
theorem dX5_hasSight_9 : decode cX5_hasSight 9 = .ok (.if_icmp .ge 7, 3) := by decide +kernel
theorem dX5_hasSight_12 : decode cX5_hasSight 12 = .ok (.iconst 1, 1) := by decide +kernel
theorem dX5_hasSight_13 : decode cX5_hasSight 13 = .ok (.goto 4, 3) := by decide +kernel
theorem dX5_hasSight_16 : decode cX5_hasSight 16 = .ok (.iconst 0, 1) := by decide +kernel
theorem dX5_hasSight_17 : decode cX5_hasSight 17 = .ok (.ireturn, 1) := by decide +kernel
theorem dX5_isInRange_0 : decode cX5_isInRange 0 = .ok (.getstatic 70, 3) := by decide +kernel
theorem dX5_isInRange_3 : decode cX5_isInRange 3 = .ok (.aload_n 1, 1) := by decide +kernel
theorem dX5_isInRange_4 : decode cX5_isInRange 4 = .ok (.invokevirtual 75, 3) := by decide +kernel
theorem dX5_isInRange_7 : decode cX5_isInRange 7 = .ok (.iaload, 1) := by decide +kernel
theorem dX5_isInRange_8 : decode cX5_isInRange 8 = .ok (.tableswitch 153 1 8 #[48, 53, 59, 65, 86, 107, 128, 148], 48) := by decide +kernel
theorem dX5_isInRange_56 : decode cX5_isInRange 56 = .ok (.iload_n 3, 1) := by decide +kernel
theorem dX5_isInRange_57 : decode cX5_isInRange 57 = .ok (.invokestatic 81, 3) := by decide +kernel
theorem dX5_isInRange_60 : decode cX5_isInRange 60 = .ok (.ireturn, 1) := by decide +kernel
theorem dX5_isInRange_61 : decode cX5_isInRange 61 = .ok (.aload_n 0, 1) := by decide +kernel
theorem dX5_isInRange_62 : decode cX5_isInRange 62 = .ok (.iload_n 2, 1) := by decide +kernel
theorem dX5_isInRange_63 : decode cX5_isInRange 63 = .ok (.invokevirtual 66, 3) := by decide +kernel
theorem dX5_isInRange_66 : decode cX5_isInRange 66 = .ok (.ireturn, 1) := by decide +kernel
theorem dX5_isInRange_67 : decode cX5_isInRange 67 = .ok (.aload_n 0, 1) := by decide +kernel
theorem dX5_isInRange_68 : decode cX5_isInRange 68 = .ok (.iload_n 2, 1) := by decide +kernel
theorem dX5_isInRange_69 : decode cX5_isInRange 69 = .ok (.invokevirtual 66, 3) := by decide +kernel
theorem dX5_isInRange_72 : decode cX5_isInRange 72 = .ok (.ireturn, 1) := by decide +kernel
theorem dX5_isInRange_73 : decode cX5_isInRange 73 = .ok (.aload_n 0, 1) := by decide +kernel
theorem dX5_isInRange_74 : decode cX5_isInRange 74 = .ok (.iload_n 2, 1) := by decide +kernel
theorem dX5_isInRange_75 : decode cX5_isInRange 75 = .ok (.invokevirtual 66, 3) := by decide +kernel
theorem dX5_isInRange_78 : decode cX5_isInRange 78 = .ok (.ifCond .eq 14, 3) := by decide +kernel
theorem dX5_isInRange_81 : decode cX5_isInRange 81 = .ok (.iload_n 3, 1) := by decide +kernel
theorem dX5_isInRange_82 : decode cX5_isInRange 82 = .ok (.invokestatic 81, 3) := by decide +kernel
theorem dX5_isInRange_85 : decode cX5_isInRange 85 = .ok (.ifCond .eq 7, 3) := by decide +kernel
theorem dX5_isInRange_88 : decode cX5_isInRange 88 = .ok (.iconst 1, 1) := by decide +kernel
theorem dX5_isInRange_89 : decode cX5_isInRange 89 = .ok (.goto 4, 3) := by decide +kernel
theorem dX5_isInRange_92 : decode cX5_isInRange 92 = .ok (.iconst 0, 1) := by decide +kernel
theorem dX5_isInRange_93 : decode cX5_isInRange 93 = .ok (.ireturn, 1) := by decide +kernel
theorem dX5_isInRange_94 : decode cX5_isInRange 94 = .ok (.aload_n 0, 1) := by decide +kernel
theorem dX5_isInRange_95 : decode cX5_isInRange 95 = .ok (.iload_n 2, 1) := by decide +kernel
theorem dX5_isInRange_96 : decode cX5_isInRange 96 = .ok (.invokevirtual 66, 3) := by decide +kernel
theorem dX5_isInRange_99 : decode cX5_isInRange 99 = .ok (.ifCond .eq 14, 3) := by decide +kernel
theorem dX5_isInRange_102 : decode cX5_isInRange 102 = .ok (.iload_n 3, 1) := by decide +kernel
theorem dX5_isInRange_103 : decode cX5_isInRange 103 = .ok (.invokestatic 84, 3) := by decide +kernel
theorem dX5_isInRange_106 : decode cX5_isInRange 106 = .ok (.ifCond .eq 7, 3) := by decide +kernel
theorem dX5_isInRange_109 : decode cX5_isInRange 109 = .ok (.iconst 1, 1) := by decide +kernel
theorem dX5_isInRange_110 : decode cX5_isInRange 110 = .ok (.goto 4, 3) := by decide +kernel
theorem dX5_isInRange_113 : decode cX5_isInRange 113 = .ok (.iconst 0, 1) := by decide +kernel
theorem dX5_isInRange_114 : decode cX5_isInRange 114 = .ok (.ireturn, 1) := by decide +kernel
theorem dX5_isInRange_115 : decode cX5_isInRange 115 = .ok (.aload_n 0, 1) := by decide +kernel
theorem dX5_isInRange_116 : decode cX5_isInRange 116 = .ok (.iload_n 2, 1) := by decide +kernel
theorem dX5_isInRange_117 : decode cX5_isInRange 117 = .ok (.invokevirtual 66, 3) := by decide +kernel
theorem dX5_isInRange_120 : decode cX5_isInRange 120 = .ok (.ifCond .eq 14, 3) := by decide +kernel
theorem dX5_isInRange_123 : decode cX5_isInRange 123 = .ok (.iload_n 3, 1) := by decide +kernel
theorem dX5_isInRange_124 : decode cX5_isInRange 124 = .ok (.invokestatic 87, 3) := by decide +kernel
theorem dX5_isInRange_127 : decode cX5_isInRange 127 = .ok (.ifCond .eq 7, 3) := by decide +kernel
theorem dX5_isInRange_130 : decode cX5_isInRange 130 = .ok (.iconst 1, 1) := by decide +kernel
theorem dX5_isInRange_131 : decode cX5_isInRange 131 = .ok (.goto 4, 3) := by decide +kernel
theorem dX5_isInRange_134 : decode cX5_isInRange 134 = .ok (.iconst 0, 1) := by decide +kernel
theorem dX5_isInRange_135 : decode cX5_isInRange 135 = .ok (.ireturn, 1) := by decide +kernel
theorem dX5_isInRange_136 : decode cX5_isInRange 136 = .ok (.iload_n 2, 1) := by decide +kernel
theorem dX5_isInRange_137 : decode cX5_isInRange 137 = .ok (.invokestatic 87, 3) := by decide +kernel
theorem dX5_isInRange_140 : decode cX5_isInRange 140 = .ok (.ifCond .eq 14, 3) := by decide +kernel
theorem dX5_isInRange_143 : decode cX5_isInRange 143 = .ok (.iload_n 3, 1) := by decide +kernel
theorem dX5_isInRange_144 : decode cX5_isInRange 144 = .ok (.invokestatic 90, 3) := by decide +kernel
theorem dX5_isInRange_147 : decode cX5_isInRange 147 = .ok (.ifCond .eq 7, 3) := by decide +kernel
theorem dX5_isInRange_150 : decode cX5_isInRange 150 = .ok (.iconst 1, 1) := by decide +kernel
theorem dX5_isInRange_151 : decode cX5_isInRange 151 = .ok (.goto 4, 3) := by decide +kernel
theorem dX5_isInRange_154 : decode cX5_isInRange 154 = .ok (.iconst 0, 1) := by decide +kernel
theorem dX5_isInRange_155 : decode cX5_isInRange 155 = .ok (.ireturn, 1) := by decide +kernel
theorem dX5_isInRange_156 : decode cX5_isInRange 156 = .ok (.iload_n 3, 1) := by decide +kernel
theorem dX5_isInRange_157 : decode cX5_isInRange 157 = .ok (.invokestatic 93, 3) := by decide +kernel
theorem dX5_isInRange_160 : decode cX5_isInRange 160 = .ok (.ireturn, 1) := by decide +kernel
theorem dX5_isInRange_161 : decode cX5_isInRange 161 = .ok (.iconst 1, 1) := by decide +kernel
theorem dX5_isInRange_162 : decode cX5_isInRange 162 = .ok (.ireturn, 1) := by decide +kernel
theorem dX5_reasonAgainst_0 : decode cX5_reasonAgainst 0 = .ok (.getstatic 70, 3) := by decide +kernel
theorem dX5_reasonAgainst_3 : decode cX5_reasonAgainst 3 = .ok (.aload_n 1, 1) := by decide +kernel
theorem dX5_reasonAgainst_4 : decode cX5_reasonAgainst 4 = .ok (.invokevirtual 75, 3) := by decide +kernel
theorem dX5_reasonAgainst_7 : decode cX5_reasonAgainst 7 = .ok (.iaload, 1) := by decide +kernel
theorem dX5_reasonAgainst_8 : decode cX5_reasonAgainst 8 = .ok (.tableswitch 158 1 8 #[48, 158, 144, 63, 79, 98, 114, 130], 48) := by decide +kernel
theorem dX5_reasonAgainst_56 : decode cX5_reasonAgainst 56 = .ok (.aload_n 0, 1) := by decide +kernel
theorem dX5_reasonAgainst_57 : decode cX5_reasonAgainst 57 = .ok (.getfield 34, 3) := by decide +kernel
theorem dX5_reasonAgainst_60 : decode cX5_reasonAgainst 60 = .ok (.bipush 8, 2) := by decide +kernel
theorem dX5_reasonAgainst_62 : decode cX5_reasonAgainst 62 = .ok (.if_icmp .lt 7, 3) := by decide +kernel
theorem dX5_reasonAgainst_65 : decode cX5_reasonAgainst 65 = .ok (.iconst 1, 1) := by decide +kernel
theorem dX5_reasonAgainst_66 : decode cX5_reasonAgainst 66 = .ok (.goto 4, 3) := by decide +kernel
theorem dX5_reasonAgainst_69 : decode cX5_reasonAgainst 69 = .ok (.iconst 0, 1) := by decide +kernel
theorem dX5_reasonAgainst_70 : decode cX5_reasonAgainst 70 = .ok (.ireturn, 1) := by decide +kernel
theorem dX5_reasonAgainst_71 : decode cX5_reasonAgainst 71 = .ok (.aload_n 0, 1) := by decide +kernel
theorem dX5_reasonAgainst_72 : decode cX5_reasonAgainst 72 = .ok (.getfield 9, 3) := by decide +kernel
theorem dX5_reasonAgainst_75 : decode cX5_reasonAgainst 75 = .ok (.iload_n 2, 1) := by decide +kernel
theorem dX5_reasonAgainst_76 : decode cX5_reasonAgainst 76 = .ok (.iaload, 1) := by decide +kernel
theorem dX5_reasonAgainst_77 : decode cX5_reasonAgainst 77 = .ok (.iload_n 3, 1) := by decide +kernel
theorem dX5_reasonAgainst_78 : decode cX5_reasonAgainst 78 = .ok (.if_icmp .ne 7, 3) := by decide +kernel
theorem dX5_reasonAgainst_81 : decode cX5_reasonAgainst 81 = .ok (.iconst 2, 1) := by decide +kernel
theorem dX5_reasonAgainst_82 : decode cX5_reasonAgainst 82 = .ok (.goto 4, 3) := by decide +kernel
theorem dX5_reasonAgainst_85 : decode cX5_reasonAgainst 85 = .ok (.iconst 0, 1) := by decide +kernel
theorem dX5_reasonAgainst_86 : decode cX5_reasonAgainst 86 = .ok (.ireturn, 1) := by decide +kernel
theorem dX5_reasonAgainst_87 : decode cX5_reasonAgainst 87 = .ok (.aload_n 0, 1) := by decide +kernel
theorem dX5_reasonAgainst_88 : decode cX5_reasonAgainst 88 = .ok (.getfield 15, 3) := by decide +kernel
theorem dX5_reasonAgainst_91 : decode cX5_reasonAgainst 91 = .ok (.iload_n 2, 1) := by decide +kernel
theorem dX5_reasonAgainst_92 : decode cX5_reasonAgainst 92 = .ok (.iaload, 1) := by decide +kernel
theorem dX5_reasonAgainst_93 : decode cX5_reasonAgainst 93 = .ok (.iload_n 3, 1) := by decide +kernel
theorem dX5_reasonAgainst_94 : decode cX5_reasonAgainst 94 = .ok (.iadd, 1) := by decide +kernel
theorem dX5_reasonAgainst_95 : decode cX5_reasonAgainst 95 = .ok (.bipush 9, 2) := by decide +kernel
theorem dX5_reasonAgainst_97 : decode cX5_reasonAgainst 97 = .ok (.if_icmp .le 7, 3) := by decide +kernel
theorem dX5_reasonAgainst_100 : decode cX5_reasonAgainst 100 = .ok (.iconst 3, 1) := by decide +kernel
theorem dX5_reasonAgainst_101 : decode cX5_reasonAgainst 101 = .ok (.goto 4, 3) := by decide +kernel
theorem dX5_reasonAgainst_104 : decode cX5_reasonAgainst 104 = .ok (.iconst 0, 1) := by decide +kernel
theorem dX5_reasonAgainst_105 : decode cX5_reasonAgainst 105 = .ok (.ireturn, 1) := by decide +kernel
theorem dX5_reasonAgainst_106 : decode cX5_reasonAgainst 106 = .ok (.aload_n 0, 1) := by decide +kernel
theorem dX5_reasonAgainst_107 : decode cX5_reasonAgainst 107 = .ok (.getfield 18, 3) := by decide +kernel
theorem dX5_reasonAgainst_110 : decode cX5_reasonAgainst 110 = .ok (.iload_n 2, 1) := by decide +kernel
theorem dX5_reasonAgainst_111 : decode cX5_reasonAgainst 111 = .ok (.iaload, 1) := by decide +kernel
theorem dX5_reasonAgainst_112 : decode cX5_reasonAgainst 112 = .ok (.iload_n 3, 1) := by decide +kernel
theorem dX5_reasonAgainst_113 : decode cX5_reasonAgainst 113 = .ok (.if_icmp .ne 7, 3) := by decide +kernel
theorem dX5_reasonAgainst_116 : decode cX5_reasonAgainst 116 = .ok (.iconst 2, 1) := by decide +kernel
theorem dX5_reasonAgainst_117 : decode cX5_reasonAgainst 117 = .ok (.goto 4, 3) := by decide +kernel
theorem dX5_reasonAgainst_120 : decode cX5_reasonAgainst 120 = .ok (.iconst 0, 1) := by decide +kernel
theorem dX5_reasonAgainst_121 : decode cX5_reasonAgainst 121 = .ok (.ireturn, 1) := by decide +kernel
theorem dX5_reasonAgainst_122 : decode cX5_reasonAgainst 122 = .ok (.aload_n 0, 1) := by decide +kernel
theorem dX5_reasonAgainst_123 : decode cX5_reasonAgainst 123 = .ok (.getfield 21, 3) := by decide +kernel
theorem dX5_reasonAgainst_126 : decode cX5_reasonAgainst 126 = .ok (.iload_n 2, 1) := by decide +kernel
theorem dX5_reasonAgainst_127 : decode cX5_reasonAgainst 127 = .ok (.iaload, 1) := by decide +kernel
theorem dX5_reasonAgainst_128 : decode cX5_reasonAgainst 128 = .ok (.iload_n 3, 1) := by decide +kernel
theorem dX5_reasonAgainst_129 : decode cX5_reasonAgainst 129 = .ok (.if_icmp .ne 7, 3) := by decide +kernel
theorem dX5_reasonAgainst_132 : decode cX5_reasonAgainst 132 = .ok (.iconst 2, 1) := by decide +kernel
theorem dX5_reasonAgainst_133 : decode cX5_reasonAgainst 133 = .ok (.goto 4, 3) := by decide +kernel
theorem dX5_reasonAgainst_136 : decode cX5_reasonAgainst 136 = .ok (.iconst 0, 1) := by decide +kernel
theorem dX5_reasonAgainst_137 : decode cX5_reasonAgainst 137 = .ok (.ireturn, 1) := by decide +kernel
theorem dX5_reasonAgainst_138 : decode cX5_reasonAgainst 138 = .ok (.aload_n 0, 1) := by decide +kernel
theorem dX5_reasonAgainst_139 : decode cX5_reasonAgainst 139 = .ok (.getfield 44, 3) := by decide +kernel
theorem dX5_reasonAgainst_142 : decode cX5_reasonAgainst 142 = .ok (.iload_n 3, 1) := by decide +kernel
theorem dX5_reasonAgainst_143 : decode cX5_reasonAgainst 143 = .ok (.if_icmp .ne 7, 3) := by decide +kernel
theorem dX5_reasonAgainst_146 : decode cX5_reasonAgainst 146 = .ok (.iconst 2, 1) := by decide +kernel
theorem dX5_reasonAgainst_147 : decode cX5_reasonAgainst 147 = .ok (.goto 4, 3) := by decide +kernel
theorem dX5_reasonAgainst_150 : decode cX5_reasonAgainst 150 = .ok (.iconst 0, 1) := by decide +kernel
theorem dX5_reasonAgainst_151 : decode cX5_reasonAgainst 151 = .ok (.ireturn, 1) := by decide +kernel
theorem dX5_reasonAgainst_152 : decode cX5_reasonAgainst 152 = .ok (.aload_n 0, 1) := by decide +kernel
theorem dX5_reasonAgainst_153 : decode cX5_reasonAgainst 153 = .ok (.iload_n 2, 1) := by decide +kernel
theorem dX5_reasonAgainst_154 : decode cX5_reasonAgainst 154 = .ok (.invokevirtual 96, 3) := by decide +kernel
theorem dX5_reasonAgainst_157 : decode cX5_reasonAgainst 157 = .ok (.ifCond .eq 7, 3) := by decide +kernel
theorem dX5_reasonAgainst_160 : decode cX5_reasonAgainst 160 = .ok (.iconst 4, 1) := by decide +kernel
theorem dX5_reasonAgainst_161 : decode cX5_reasonAgainst 161 = .ok (.goto 4, 3) := by decide +kernel
theorem dX5_reasonAgainst_164 : decode cX5_reasonAgainst 164 = .ok (.iconst 0, 1) := by decide +kernel
theorem dX5_reasonAgainst_165 : decode cX5_reasonAgainst 165 = .ok (.ireturn, 1) := by decide +kernel
theorem dX5_reasonAgainst_166 : decode cX5_reasonAgainst 166 = .ok (.iconst 0, 1) := by decide +kernel
theorem dX5_reasonAgainst_167 : decode cX5_reasonAgainst 167 = .ok (.ireturn, 1) := by decide +kernel
theorem dX5_detailOf_0 : decode cX5_detailOf 0 = .ok (.iload_n 1, 1) := by decide +kernel
theorem dX5_detailOf_1 : decode cX5_detailOf 1 = .ok (.tableswitch 41 1 3 #[27, 32, 34], 27) := by decide +kernel
theorem dX5_detailOf_28 : decode cX5_detailOf 28 = .ok (.aload_n 0, 1) := by decide +kernel
theorem dX5_detailOf_29 : decode cX5_detailOf 29 = .ok (.getfield 34, 3) := by decide +kernel
theorem dX5_detailOf_32 : decode cX5_detailOf 32 = .ok (.ireturn, 1) := by decide +kernel
theorem dX5_detailOf_33 : decode cX5_detailOf 33 = .ok (.iload_n 3, 1) := by decide +kernel
theorem dX5_detailOf_34 : decode cX5_detailOf 34 = .ok (.ireturn, 1) := by decide +kernel
theorem dX5_detailOf_35 : decode cX5_detailOf 35 = .ok (.aload_n 0, 1) := by decide +kernel
theorem dX5_detailOf_36 : decode cX5_detailOf 36 = .ok (.getfield 15, 3) := by decide +kernel
theorem dX5_detailOf_39 : decode cX5_detailOf 39 = .ok (.iload_n 2, 1) := by decide +kernel
theorem dX5_detailOf_40 : decode cX5_detailOf 40 = .ok (.iaload, 1) := by decide +kernel
theorem dX5_detailOf_41 : decode cX5_detailOf 41 = .ok (.ireturn, 1) := by decide +kernel
theorem dX5_detailOf_42 : decode cX5_detailOf 42 = .ok (.iload_n 2, 1) := by decide +kernel
theorem dX5_detailOf_43 : decode cX5_detailOf 43 = .ok (.ireturn, 1) := by decide +kernel
theorem dX5_carryOut_0 : decode cX5_carryOut 0 = .ok (.getstatic 70, 3) := by decide +kernel
theorem dX5_carryOut_3 : decode cX5_carryOut 3 = .ok (.aload_n 1, 1) := by decide +kernel
theorem dX5_carryOut_4 : decode cX5_carryOut 4 = .ok (.invokevirtual 75, 3) := by decide +kernel
theorem dX5_carryOut_7 : decode cX5_carryOut 7 = .ok (.iaload, 1) := by decide +kernel
theorem dX5_carryOut_8 : decode cX5_carryOut 8 = .ok (.tableswitch 119 1 8 #[48, 56, 64, 72, 82, 91, 101, 111], 48) := by decide +kernel
theorem dX5_carryOut_56 : decode cX5_carryOut 56 = .ok (.aload_n 0, 1) := by decide +kernel
theorem dX5_carryOut_57 : decode cX5_carryOut 57 = .ok (.iload_n 3, 1) := by decide +kernel
theorem dX5_carryOut_58 : decode cX5_carryOut 58 = .ok (.invokevirtual 99, 3) := by decide +kernel
theorem dX5_carryOut_61 : decode cX5_carryOut 61 = .ok (.goto 70, 3) := by decide +kernel
theorem dX5_carryOut_64 : decode cX5_carryOut 64 = .ok (.aload_n 0, 1) := by decide +kernel
theorem dX5_carryOut_65 : decode cX5_carryOut 65 = .ok (.iload_n 2, 1) := by decide +kernel
theorem dX5_carryOut_66 : decode cX5_carryOut 66 = .ok (.invokevirtual 103, 3) := by decide +kernel
theorem dX5_carryOut_69 : decode cX5_carryOut 69 = .ok (.goto 62, 3) := by decide +kernel
theorem dX5_carryOut_72 : decode cX5_carryOut 72 = .ok (.aload_n 0, 1) := by decide +kernel
theorem dX5_carryOut_73 : decode cX5_carryOut 73 = .ok (.iload_n 2, 1) := by decide +kernel
theorem dX5_carryOut_74 : decode cX5_carryOut 74 = .ok (.invokevirtual 106, 3) := by decide +kernel
theorem dX5_carryOut_77 : decode cX5_carryOut 77 = .ok (.goto 54, 3) := by decide +kernel
theorem dX5_carryOut_80 : decode cX5_carryOut 80 = .ok (.aload_n 0, 1) := by decide +kernel
theorem dX5_carryOut_81 : decode cX5_carryOut 81 = .ok (.getfield 9, 3) := by decide +kernel
theorem dX5_carryOut_84 : decode cX5_carryOut 84 = .ok (.iload_n 2, 1) := by decide +kernel
theorem dX5_carryOut_85 : decode cX5_carryOut 85 = .ok (.iload_n 3, 1) := by decide +kernel
theorem dX5_carryOut_86 : decode cX5_carryOut 86 = .ok (.iastore, 1) := by decide +kernel
theorem dX5_carryOut_87 : decode cX5_carryOut 87 = .ok (.goto 44, 3) := by decide +kernel
theorem dX5_carryOut_90 : decode cX5_carryOut 90 = .ok (.aload_n 0, 1) := by decide +kernel
theorem dX5_carryOut_91 : decode cX5_carryOut 91 = .ok (.iload_n 2, 1) := by decide +kernel
theorem dX5_carryOut_92 : decode cX5_carryOut 92 = .ok (.iload_n 3, 1) := by decide +kernel
theorem dX5_carryOut_93 : decode cX5_carryOut 93 = .ok (.invokevirtual 109, 3) := by decide +kernel
theorem dX5_carryOut_96 : decode cX5_carryOut 96 = .ok (.goto 35, 3) := by decide +kernel
theorem dX5_carryOut_99 : decode cX5_carryOut 99 = .ok (.aload_n 0, 1) := by decide +kernel
theorem dX5_carryOut_100 : decode cX5_carryOut 100 = .ok (.getfield 18, 3) := by decide +kernel
theorem dX5_carryOut_103 : decode cX5_carryOut 103 = .ok (.iload_n 2, 1) := by decide +kernel
theorem dX5_carryOut_104 : decode cX5_carryOut 104 = .ok (.iload_n 3, 1) := by decide +kernel
theorem dX5_carryOut_105 : decode cX5_carryOut 105 = .ok (.iastore, 1) := by decide +kernel
theorem dX5_carryOut_106 : decode cX5_carryOut 106 = .ok (.goto 25, 3) := by decide +kernel
theorem dX5_carryOut_109 : decode cX5_carryOut 109 = .ok (.aload_n 0, 1) := by decide +kernel
theorem dX5_carryOut_110 : decode cX5_carryOut 110 = .ok (.getfield 21, 3) := by decide +kernel
theorem dX5_carryOut_113 : decode cX5_carryOut 113 = .ok (.iload_n 2, 1) := by decide +kernel
theorem dX5_carryOut_114 : decode cX5_carryOut 114 = .ok (.iload_n 3, 1) := by decide +kernel
theorem dX5_carryOut_115 : decode cX5_carryOut 115 = .ok (.iastore, 1) := by decide +kernel
theorem dX5_carryOut_116 : decode cX5_carryOut 116 = .ok (.goto 15, 3) := by decide +kernel
theorem dX5_carryOut_119 : decode cX5_carryOut 119 = .ok (.aload_n 0, 1) := by decide +kernel
theorem dX5_carryOut_120 : decode cX5_carryOut 120 = .ok (.iload_n 3, 1) := by decide +kernel
theorem dX5_carryOut_121 : decode cX5_carryOut 121 = .ok (.putfield 44, 3) := by decide +kernel
theorem dX5_carryOut_124 : decode cX5_carryOut 124 = .ok (.goto 7, 3) := by decide +kernel
theorem dX5_carryOut_127 : decode cX5_carryOut 127 = .ok (.aload_n 0, 1) := by decide +kernel
theorem dX5_carryOut_128 : decode cX5_carryOut 128 = .ok (.invokevirtual 113, 3) := by decide +kernel
theorem dX5_carryOut_131 : decode cX5_carryOut 131 = .ok (.return_, 1) := by decide +kernel
theorem dX5_addSailor_0 : decode cX5_addSailor 0 = .ok (.aload_n 0, 1) := by decide +kernel
theorem dX5_addSailor_1 : decode cX5_addSailor 1 = .ok (.getfield 9, 3) := by decide +kernel
theorem dX5_addSailor_4 : decode cX5_addSailor 4 = .ok (.aload_n 0, 1) := by decide +kernel
theorem dX5_addSailor_5 : decode cX5_addSailor 5 = .ok (.getfield 34, 3) := by decide +kernel
theorem dX5_addSailor_8 : decode cX5_addSailor 8 = .ok (.iload_n 1, 1) := by decide +kernel
theorem dX5_addSailor_9 : decode cX5_addSailor 9 = .ok (.iastore, 1) := by decide +kernel
theorem dX5_addSailor_10 : decode cX5_addSailor 10 = .ok (.aload_n 0, 1) := by decide +kernel
theorem dX5_addSailor_11 : decode cX5_addSailor 11 = .ok (.getfield 15, 3) := by decide +kernel
theorem dX5_addSailor_14 : decode cX5_addSailor 14 = .ok (.aload_n 0, 1) := by decide +kernel
theorem dX5_addSailor_15 : decode cX5_addSailor 15 = .ok (.getfield 34, 3) := by decide +kernel
theorem dX5_addSailor_18 : decode cX5_addSailor 18 = .ok (.iconst 0, 1) := by decide +kernel
theorem dX5_addSailor_19 : decode cX5_addSailor 19 = .ok (.iastore, 1) := by decide +kernel
theorem dX5_addSailor_20 : decode cX5_addSailor 20 = .ok (.aload_n 0, 1) := by decide +kernel
theorem dX5_addSailor_21 : decode cX5_addSailor 21 = .ok (.getfield 18, 3) := by decide +kernel
theorem dX5_addSailor_24 : decode cX5_addSailor 24 = .ok (.aload_n 0, 1) := by decide +kernel
theorem dX5_addSailor_25 : decode cX5_addSailor 25 = .ok (.getfield 34, 3) := by decide +kernel
theorem dX5_addSailor_28 : decode cX5_addSailor 28 = .ok (.iconst 0, 1) := by decide +kernel
theorem dX5_addSailor_29 : decode cX5_addSailor 29 = .ok (.iastore, 1) := by decide +kernel
theorem dX5_addSailor_30 : decode cX5_addSailor 30 = .ok (.aload_n 0, 1) := by decide +kernel
theorem dX5_addSailor_31 : decode cX5_addSailor 31 = .ok (.dup, 1) := by decide +kernel
theorem dX5_addSailor_32 : decode cX5_addSailor 32 = .ok (.getfield 34, 3) := by decide +kernel
theorem dX5_addSailor_35 : decode cX5_addSailor 35 = .ok (.iconst 1, 1) := by decide +kernel
theorem dX5_addSailor_36 : decode cX5_addSailor 36 = .ok (.iadd, 1) := by decide +kernel
theorem dX5_addSailor_37 : decode cX5_addSailor 37 = .ok (.putfield 34, 3) := by decide +kernel
theorem dX5_addSailor_40 : decode cX5_addSailor 40 = .ok (.return_, 1) := by decide +kernel
theorem dX5_removeSailor_0 : decode cX5_removeSailor 0 = .ok (.aload_n 0, 1) := by decide +kernel
theorem dX5_removeSailor_1 : decode cX5_removeSailor 1 = .ok (.dup, 1) := by decide +kernel
theorem dX5_removeSailor_2 : decode cX5_removeSailor 2 = .ok (.getfield 62, 3) := by decide +kernel
theorem dX5_removeSailor_5 : decode cX5_removeSailor 5 = .ok (.aload_n 0, 1) := by decide +kernel
theorem dX5_removeSailor_6 : decode cX5_removeSailor 6 = .ok (.getfield 15, 3) := by decide +kernel
theorem dX5_removeSailor_9 : decode cX5_removeSailor 9 = .ok (.iload_n 1, 1) := by decide +kernel
theorem dX5_removeSailor_10 : decode cX5_removeSailor 10 = .ok (.iaload, 1) := by decide +kernel
theorem dX5_removeSailor_11 : decode cX5_removeSailor 11 = .ok (.iadd, 1) := by decide +kernel
theorem dX5_removeSailor_12 : decode cX5_removeSailor 12 = .ok (.putfield 62, 3) := by decide +kernel
theorem dX5_removeSailor_15 : decode cX5_removeSailor 15 = .ok (.iload_n 1, 1) := by decide +kernel
theorem dX5_removeSailor_16 : decode cX5_removeSailor 16 = .ok (.iconst 1, 1) := by decide +kernel
theorem dX5_removeSailor_17 : decode cX5_removeSailor 17 = .ok (.iadd, 1) := by decide +kernel
theorem dX5_removeSailor_18 : decode cX5_removeSailor 18 = .ok (.istore_n 2, 1) := by decide +kernel
theorem dX5_removeSailor_19 : decode cX5_removeSailor 19 = .ok (.iload_n 2, 1) := by decide +kernel
theorem dX5_removeSailor_20 : decode cX5_removeSailor 20 = .ok (.aload_n 0, 1) := by decide +kernel
theorem dX5_removeSailor_21 : decode cX5_removeSailor 21 = .ok (.getfield 34, 3) := by decide +kernel
theorem dX5_removeSailor_24 : decode cX5_removeSailor 24 = .ok (.if_icmp .ge 51, 3) := by decide +kernel
theorem dX5_removeSailor_27 : decode cX5_removeSailor 27 = .ok (.aload_n 0, 1) := by decide +kernel
theorem dX5_removeSailor_28 : decode cX5_removeSailor 28 = .ok (.getfield 9, 3) := by decide +kernel
theorem dX5_removeSailor_31 : decode cX5_removeSailor 31 = .ok (.iload_n 2, 1) := by decide +kernel
theorem dX5_removeSailor_32 : decode cX5_removeSailor 32 = .ok (.iconst 1, 1) := by decide +kernel
theorem dX5_removeSailor_33 : decode cX5_removeSailor 33 = .ok (.isub, 1) := by decide +kernel
theorem dX5_removeSailor_34 : decode cX5_removeSailor 34 = .ok (.aload_n 0, 1) := by decide +kernel
theorem dX5_removeSailor_35 : decode cX5_removeSailor 35 = .ok (.getfield 9, 3) := by decide +kernel
theorem dX5_removeSailor_38 : decode cX5_removeSailor 38 = .ok (.iload_n 2, 1) := by decide +kernel
theorem dX5_removeSailor_39 : decode cX5_removeSailor 39 = .ok (.iaload, 1) := by decide +kernel
theorem dX5_removeSailor_40 : decode cX5_removeSailor 40 = .ok (.iastore, 1) := by decide +kernel
theorem dX5_removeSailor_41 : decode cX5_removeSailor 41 = .ok (.aload_n 0, 1) := by decide +kernel
theorem dX5_removeSailor_42 : decode cX5_removeSailor 42 = .ok (.getfield 15, 3) := by decide +kernel
theorem dX5_removeSailor_45 : decode cX5_removeSailor 45 = .ok (.iload_n 2, 1) := by decide +kernel
theorem dX5_removeSailor_46 : decode cX5_removeSailor 46 = .ok (.iconst 1, 1) := by decide +kernel
theorem dX5_removeSailor_47 : decode cX5_removeSailor 47 = .ok (.isub, 1) := by decide +kernel
theorem dX5_removeSailor_48 : decode cX5_removeSailor 48 = .ok (.aload_n 0, 1) := by decide +kernel
theorem dX5_removeSailor_49 : decode cX5_removeSailor 49 = .ok (.getfield 15, 3) := by decide +kernel
theorem dX5_removeSailor_52 : decode cX5_removeSailor 52 = .ok (.iload_n 2, 1) := by decide +kernel
theorem dX5_removeSailor_53 : decode cX5_removeSailor 53 = .ok (.iaload, 1) := by decide +kernel
theorem dX5_removeSailor_54 : decode cX5_removeSailor 54 = .ok (.iastore, 1) := by decide +kernel
theorem dX5_removeSailor_55 : decode cX5_removeSailor 55 = .ok (.aload_n 0, 1) := by decide +kernel
theorem dX5_removeSailor_56 : decode cX5_removeSailor 56 = .ok (.getfield 18, 3) := by decide +kernel
theorem dX5_removeSailor_59 : decode cX5_removeSailor 59 = .ok (.iload_n 2, 1) := by decide +kernel
theorem dX5_removeSailor_60 : decode cX5_removeSailor 60 = .ok (.iconst 1, 1) := by decide +kernel
theorem dX5_removeSailor_61 : decode cX5_removeSailor 61 = .ok (.isub, 1) := by decide +kernel
theorem dX5_removeSailor_62 : decode cX5_removeSailor 62 = .ok (.aload_n 0, 1) := by decide +kernel
theorem dX5_removeSailor_63 : decode cX5_removeSailor 63 = .ok (.getfield 18, 3) := by decide +kernel
theorem dX5_removeSailor_66 : decode cX5_removeSailor 66 = .ok (.iload_n 2, 1) := by decide +kernel
theorem dX5_removeSailor_67 : decode cX5_removeSailor 67 = .ok (.iaload, 1) := by decide +kernel
theorem dX5_removeSailor_68 : decode cX5_removeSailor 68 = .ok (.iastore, 1) := by decide +kernel
theorem dX5_removeSailor_69 : decode cX5_removeSailor 69 = .ok (.iinc 2 1, 3) := by decide +kernel
theorem dX5_removeSailor_72 : decode cX5_removeSailor 72 = .ok (.goto (-53), 3) := by decide +kernel
theorem dX5_removeSailor_75 : decode cX5_removeSailor 75 = .ok (.aload_n 0, 1) := by decide +kernel
theorem dX5_removeSailor_76 : decode cX5_removeSailor 76 = .ok (.dup, 1) := by decide +kernel
theorem dX5_removeSailor_77 : decode cX5_removeSailor 77 = .ok (.getfield 34, 3) := by decide +kernel
theorem dX5_removeSailor_80 : decode cX5_removeSailor 80 = .ok (.iconst 1, 1) := by decide +kernel
theorem dX5_removeSailor_81 : decode cX5_removeSailor 81 = .ok (.isub, 1) := by decide +kernel
theorem dX5_removeSailor_82 : decode cX5_removeSailor 82 = .ok (.putfield 34, 3) := by decide +kernel
theorem dX5_removeSailor_85 : decode cX5_removeSailor 85 = .ok (.aload_n 0, 1) := by decide +kernel
theorem dX5_removeSailor_86 : decode cX5_removeSailor 86 = .ok (.iload_n 1, 1) := by decide +kernel
theorem dX5_removeSailor_87 : decode cX5_removeSailor 87 = .ok (.invokevirtual 116, 3) := by decide +kernel
theorem dX5_removeSailor_90 : decode cX5_removeSailor 90 = .ok (.return_, 1) := by decide +kernel
theorem dX5_forgetSightsOf_0 : decode cX5_forgetSightsOf 0 = .ok (.iconst 0, 1) := by decide +kernel
theorem dX5_forgetSightsOf_1 : decode cX5_forgetSightsOf 1 = .ok (.istore_n 2, 1) := by decide +kernel
theorem dX5_forgetSightsOf_2 : decode cX5_forgetSightsOf 2 = .ok (.iconst 0, 1) := by decide +kernel
theorem dX5_forgetSightsOf_3 : decode cX5_forgetSightsOf 3 = .ok (.istore_n 3, 1) := by decide +kernel
theorem dX5_forgetSightsOf_4 : decode cX5_forgetSightsOf 4 = .ok (.iload_n 3, 1) := by decide +kernel
theorem dX5_forgetSightsOf_5 : decode cX5_forgetSightsOf 5 = .ok (.aload_n 0, 1) := by decide +kernel
theorem dX5_forgetSightsOf_6 : decode cX5_forgetSightsOf 6 = .ok (.getfield 50, 3) := by decide +kernel
theorem dX5_forgetSightsOf_9 : decode cX5_forgetSightsOf 9 = .ok (.if_icmp .ge 79, 3) := by decide +kernel
theorem dX5_forgetSightsOf_12 : decode cX5_forgetSightsOf 12 = .ok (.aload_n 0, 1) := by decide +kernel
theorem dX5_forgetSightsOf_13 : decode cX5_forgetSightsOf 13 = .ok (.getfield 24, 3) := by decide +kernel
theorem dX5_forgetSightsOf_16 : decode cX5_forgetSightsOf 16 = .ok (.iload_n 3, 1) := by decide +kernel
theorem dX5_forgetSightsOf_17 : decode cX5_forgetSightsOf 17 = .ok (.iaload, 1) := by decide +kernel
theorem dX5_forgetSightsOf_18 : decode cX5_forgetSightsOf 18 = .ok (.iload_n 1, 1) := by decide +kernel
theorem dX5_forgetSightsOf_19 : decode cX5_forgetSightsOf 19 = .ok (.if_icmp .eq 63, 3) := by decide +kernel
theorem dX5_forgetSightsOf_22 : decode cX5_forgetSightsOf 22 = .ok (.aload_n 0, 1) := by decide +kernel
theorem dX5_forgetSightsOf_23 : decode cX5_forgetSightsOf 23 = .ok (.getfield 24, 3) := by decide +kernel
theorem dX5_forgetSightsOf_26 : decode cX5_forgetSightsOf 26 = .ok (.iload_n 2, 1) := by decide +kernel
theorem dX5_forgetSightsOf_27 : decode cX5_forgetSightsOf 27 = .ok (.aload_n 0, 1) := by decide +kernel
theorem dX5_forgetSightsOf_28 : decode cX5_forgetSightsOf 28 = .ok (.getfield 24, 3) := by decide +kernel
theorem dX5_forgetSightsOf_31 : decode cX5_forgetSightsOf 31 = .ok (.iload_n 3, 1) := by decide +kernel
theorem dX5_forgetSightsOf_32 : decode cX5_forgetSightsOf 32 = .ok (.iaload, 1) := by decide +kernel
theorem dX5_forgetSightsOf_33 : decode cX5_forgetSightsOf 33 = .ok (.iload_n 1, 1) := by decide +kernel
theorem dX5_forgetSightsOf_34 : decode cX5_forgetSightsOf 34 = .ok (.if_icmp .le 14, 3) := by decide +kernel
theorem dX5_forgetSightsOf_37 : decode cX5_forgetSightsOf 37 = .ok (.aload_n 0, 1) := by decide +kernel
theorem dX5_forgetSightsOf_38 : decode cX5_forgetSightsOf 38 = .ok (.getfield 24, 3) := by decide +kernel
theorem dX5_forgetSightsOf_41 : decode cX5_forgetSightsOf 41 = .ok (.iload_n 3, 1) := by decide +kernel
theorem dX5_forgetSightsOf_42 : decode cX5_forgetSightsOf 42 = .ok (.iaload, 1) := by decide +kernel
theorem dX5_forgetSightsOf_43 : decode cX5_forgetSightsOf 43 = .ok (.iconst 1, 1) := by decide +kernel
theorem dX5_forgetSightsOf_44 : decode cX5_forgetSightsOf 44 = .ok (.isub, 1) := by decide +kernel
theorem dX5_forgetSightsOf_45 : decode cX5_forgetSightsOf 45 = .ok (.goto 9, 3) := by decide +kernel
theorem dX5_forgetSightsOf_48 : decode cX5_forgetSightsOf 48 = .ok (.aload_n 0, 1) := by decide +kernel
theorem dX5_forgetSightsOf_49 : decode cX5_forgetSightsOf 49 = .ok (.getfield 24, 3) := by decide +kernel
theorem dX5_forgetSightsOf_52 : decode cX5_forgetSightsOf 52 = .ok (.iload_n 3, 1) := by decide +kernel
theorem dX5_forgetSightsOf_53 : decode cX5_forgetSightsOf 53 = .ok (.iaload, 1) := by decide +kernel
theorem dX5_forgetSightsOf_54 : decode cX5_forgetSightsOf 54 = .ok (.iastore, 1) := by decide +kernel
theorem dX5_forgetSightsOf_55 : decode cX5_forgetSightsOf 55 = .ok (.aload_n 0, 1) := by decide +kernel
theorem dX5_forgetSightsOf_56 : decode cX5_forgetSightsOf 56 = .ok (.getfield 27, 3) := by decide +kernel
theorem dX5_forgetSightsOf_59 : decode cX5_forgetSightsOf 59 = .ok (.iload_n 2, 1) := by decide +kernel
theorem dX5_forgetSightsOf_60 : decode cX5_forgetSightsOf 60 = .ok (.aload_n 0, 1) := by decide +kernel
theorem dX5_forgetSightsOf_61 : decode cX5_forgetSightsOf 61 = .ok (.getfield 27, 3) := by decide +kernel
theorem dX5_forgetSightsOf_64 : decode cX5_forgetSightsOf 64 = .ok (.iload_n 3, 1) := by decide +kernel
theorem dX5_forgetSightsOf_65 : decode cX5_forgetSightsOf 65 = .ok (.iaload, 1) := by decide +kernel
theorem dX5_forgetSightsOf_66 : decode cX5_forgetSightsOf 66 = .ok (.iastore, 1) := by decide +kernel
theorem dX5_forgetSightsOf_67 : decode cX5_forgetSightsOf 67 = .ok (.aload_n 0, 1) := by decide +kernel
theorem dX5_forgetSightsOf_68 : decode cX5_forgetSightsOf 68 = .ok (.getfield 30, 3) := by decide +kernel
theorem dX5_forgetSightsOf_71 : decode cX5_forgetSightsOf 71 = .ok (.iload_n 2, 1) := by decide +kernel
theorem dX5_forgetSightsOf_72 : decode cX5_forgetSightsOf 72 = .ok (.aload_n 0, 1) := by decide +kernel
theorem dX5_forgetSightsOf_73 : decode cX5_forgetSightsOf 73 = .ok (.getfield 30, 3) := by decide +kernel
theorem dX5_forgetSightsOf_76 : decode cX5_forgetSightsOf 76 = .ok (.iload_n 3, 1) := by decide +kernel
theorem dX5_forgetSightsOf_77 : decode cX5_forgetSightsOf 77 = .ok (.faload, 1) := by decide +kernel
theorem dX5_forgetSightsOf_78 : decode cX5_forgetSightsOf 78 = .ok (.fastore, 1) := by decide +kernel
theorem dX5_forgetSightsOf_79 : decode cX5_forgetSightsOf 79 = .ok (.iinc 2 1, 3) := by decide +kernel
theorem dX5_forgetSightsOf_82 : decode cX5_forgetSightsOf 82 = .ok (.iinc 3 1, 3) := by decide +kernel
theorem dX5_forgetSightsOf_85 : decode cX5_forgetSightsOf 85 = .ok (.goto (-81), 3) := by decide +kernel
theorem dX5_forgetSightsOf_88 : decode cX5_forgetSightsOf 88 = .ok (.aload_n 0, 1) := by decide +kernel
theorem dX5_forgetSightsOf_89 : decode cX5_forgetSightsOf 89 = .ok (.iload_n 2, 1) := by decide +kernel
theorem dX5_forgetSightsOf_90 : decode cX5_forgetSightsOf 90 = .ok (.putfield 50, 3) := by decide +kernel
theorem dX5_forgetSightsOf_93 : decode cX5_forgetSightsOf 93 = .ok (.return_, 1) := by decide +kernel
theorem dX5_give_0 : decode cX5_give 0 = .ok (.aload_n 0, 1) := by decide +kernel
theorem dX5_give_1 : decode cX5_give 1 = .ok (.getfield 15, 3) := by decide +kernel
theorem dX5_give_4 : decode cX5_give 4 = .ok (.iload_n 1, 1) := by decide +kernel
theorem dX5_give_5 : decode cX5_give 5 = .ok (.dup2, 1) := by decide +kernel
theorem dX5_give_6 : decode cX5_give 6 = .ok (.iaload, 1) := by decide +kernel
theorem dX5_give_7 : decode cX5_give 7 = .ok (.iload_n 2, 1) := by decide +kernel
theorem dX5_give_8 : decode cX5_give 8 = .ok (.iadd, 1) := by decide +kernel
theorem dX5_give_9 : decode cX5_give 9 = .ok (.iastore, 1) := by decide +kernel
theorem dX5_give_10 : decode cX5_give 10 = .ok (.aload_n 0, 1) := by decide +kernel
theorem dX5_give_11 : decode cX5_give 11 = .ok (.dup, 1) := by decide +kernel
theorem dX5_give_12 : decode cX5_give 12 = .ok (.getfield 56, 3) := by decide +kernel
theorem dX5_give_15 : decode cX5_give 15 = .ok (.iload_n 2, 1) := by decide +kernel
theorem dX5_give_16 : decode cX5_give 16 = .ok (.iadd, 1) := by decide +kernel
theorem dX5_give_17 : decode cX5_give 17 = .ok (.putfield 56, 3) := by decide +kernel
theorem dX5_give_20 : decode cX5_give 20 = .ok (.return_, 1) := by decide +kernel
theorem dX5_addSight_0 : decode cX5_addSight 0 = .ok (.aload_n 0, 1) := by decide +kernel
theorem dX5_addSight_1 : decode cX5_addSight 1 = .ok (.getfield 50, 3) := by decide +kernel
theorem dX5_addSight_4 : decode cX5_addSight 4 = .ok (.bipush 10, 2) := by decide +kernel
theorem dX5_addSight_6 : decode cX5_addSight 6 = .ok (.if_icmp .ge 13, 3) := by decide +kernel
theorem dX5_addSight_9 : decode cX5_addSight 9 = .ok (.aload_n 0, 1) := by decide +kernel
theorem dX5_addSight_10 : decode cX5_addSight 10 = .ok (.dup, 1) := by decide +kernel
theorem dX5_addSight_11 : decode cX5_addSight 11 = .ok (.getfield 50, 3) := by decide +kernel
theorem dX5_addSight_14 : decode cX5_addSight 14 = .ok (.iconst 1, 1) := by decide +kernel
theorem dX5_addSight_15 : decode cX5_addSight 15 = .ok (.iadd, 1) := by decide +kernel
theorem dX5_addSight_16 : decode cX5_addSight 16 = .ok (.putfield 50, 3) := by decide +kernel
theorem dX5_addSight_19 : decode cX5_addSight 19 = .ok (.aload_n 0, 1) := by decide +kernel
theorem dX5_addSight_20 : decode cX5_addSight 20 = .ok (.getfield 50, 3) := by decide +kernel
theorem dX5_addSight_23 : decode cX5_addSight 23 = .ok (.iconst 1, 1) := by decide +kernel
theorem dX5_addSight_24 : decode cX5_addSight 24 = .ok (.isub, 1) := by decide +kernel
theorem dX5_addSight_25 : decode cX5_addSight 25 = .ok (.istore_n 2, 1) := by decide +kernel
theorem dX5_addSight_26 : decode cX5_addSight 26 = .ok (.iload_n 2, 1) := by decide +kernel
theorem dX5_addSight_27 : decode cX5_addSight 27 = .ok (.ifCond .le 51, 3) := by decide +kernel
theorem dX5_addSight_30 : decode cX5_addSight 30 = .ok (.aload_n 0, 1) := by decide +kernel
theorem dX5_addSight_31 : decode cX5_addSight 31 = .ok (.getfield 24, 3) := by decide +kernel
theorem dX5_addSight_34 : decode cX5_addSight 34 = .ok (.iload_n 2, 1) := by decide +kernel
theorem dX5_addSight_35 : decode cX5_addSight 35 = .ok (.aload_n 0, 1) := by decide +kernel
theorem dX5_addSight_36 : decode cX5_addSight 36 = .ok (.getfield 24, 3) := by decide +kernel
theorem dX5_addSight_39 : decode cX5_addSight 39 = .ok (.iload_n 2, 1) := by decide +kernel
theorem dX5_addSight_40 : decode cX5_addSight 40 = .ok (.iconst 1, 1) := by decide +kernel
theorem dX5_addSight_41 : decode cX5_addSight 41 = .ok (.isub, 1) := by decide +kernel
theorem dX5_addSight_42 : decode cX5_addSight 42 = .ok (.iaload, 1) := by decide +kernel
theorem dX5_addSight_43 : decode cX5_addSight 43 = .ok (.iastore, 1) := by decide +kernel
theorem dX5_addSight_44 : decode cX5_addSight 44 = .ok (.aload_n 0, 1) := by decide +kernel
theorem dX5_addSight_45 : decode cX5_addSight 45 = .ok (.getfield 27, 3) := by decide +kernel
theorem dX5_addSight_48 : decode cX5_addSight 48 = .ok (.iload_n 2, 1) := by decide +kernel
theorem dX5_addSight_49 : decode cX5_addSight 49 = .ok (.aload_n 0, 1) := by decide +kernel
theorem dX5_addSight_50 : decode cX5_addSight 50 = .ok (.getfield 27, 3) := by decide +kernel
theorem dX5_addSight_53 : decode cX5_addSight 53 = .ok (.iload_n 2, 1) := by decide +kernel
theorem dX5_addSight_54 : decode cX5_addSight 54 = .ok (.iconst 1, 1) := by decide +kernel
theorem dX5_addSight_55 : decode cX5_addSight 55 = .ok (.isub, 1) := by decide +kernel
theorem dX5_addSight_56 : decode cX5_addSight 56 = .ok (.iaload, 1) := by decide +kernel
theorem dX5_addSight_57 : decode cX5_addSight 57 = .ok (.iastore, 1) := by decide +kernel
theorem dX5_addSight_58 : decode cX5_addSight 58 = .ok (.aload_n 0, 1) := by decide +kernel
theorem dX5_addSight_59 : decode cX5_addSight 59 = .ok (.getfield 30, 3) := by decide +kernel
theorem dX5_addSight_62 : decode cX5_addSight 62 = .ok (.iload_n 2, 1) := by decide +kernel
theorem dX5_addSight_63 : decode cX5_addSight 63 = .ok (.aload_n 0, 1) := by decide +kernel
theorem dX5_addSight_64 : decode cX5_addSight 64 = .ok (.getfield 30, 3) := by decide +kernel
theorem dX5_addSight_67 : decode cX5_addSight 67 = .ok (.iload_n 2, 1) := by decide +kernel
theorem dX5_addSight_68 : decode cX5_addSight 68 = .ok (.iconst 1, 1) := by decide +kernel
theorem dX5_addSight_69 : decode cX5_addSight 69 = .ok (.isub, 1) := by decide +kernel
theorem dX5_addSight_70 : decode cX5_addSight 70 = .ok (.faload, 1) := by decide +kernel
theorem dX5_addSight_71 : decode cX5_addSight 71 = .ok (.fastore, 1) := by decide +kernel
theorem dX5_addSight_72 : decode cX5_addSight 72 = .ok (.iinc 2 (-1), 3) := by decide +kernel
theorem dX5_addSight_75 : decode cX5_addSight 75 = .ok (.goto (-49), 3) := by decide +kernel
theorem dX5_addSight_78 : decode cX5_addSight 78 = .ok (.aload_n 0, 1) := by decide +kernel
theorem dX5_addSight_79 : decode cX5_addSight 79 = .ok (.getfield 24, 3) := by decide +kernel
theorem dX5_addSight_82 : decode cX5_addSight 82 = .ok (.iconst 0, 1) := by decide +kernel
theorem dX5_addSight_83 : decode cX5_addSight 83 = .ok (.iload_n 1, 1) := by decide +kernel
theorem dX5_addSight_84 : decode cX5_addSight 84 = .ok (.iastore, 1) := by decide +kernel
theorem dX5_addSight_85 : decode cX5_addSight 85 = .ok (.aload_n 0, 1) := by decide +kernel
theorem dX5_addSight_86 : decode cX5_addSight 86 = .ok (.getfield 27, 3) := by decide +kernel
theorem dX5_addSight_89 : decode cX5_addSight 89 = .ok (.iconst 0, 1) := by decide +kernel
theorem dX5_addSight_90 : decode cX5_addSight 90 = .ok (.aload_n 0, 1) := by decide +kernel
theorem dX5_addSight_91 : decode cX5_addSight 91 = .ok (.getfield 47, 3) := by decide +kernel
theorem dX5_addSight_94 : decode cX5_addSight 94 = .ok (.iastore, 1) := by decide +kernel
theorem dX5_addSight_95 : decode cX5_addSight 95 = .ok (.aload_n 0, 1) := by decide +kernel
theorem dX5_addSight_96 : decode cX5_addSight 96 = .ok (.getfield 30, 3) := by decide +kernel
theorem dX5_addSight_99 : decode cX5_addSight 99 = .ok (.iconst 0, 1) := by decide +kernel
theorem dX5_addSight_100 : decode cX5_addSight 100 = .ok (.aload_n 0, 1) := by decide +kernel
theorem dX5_addSight_101 : decode cX5_addSight 101 = .ok (.iload_n 1, 1) := by decide +kernel
theorem dX5_addSight_102 : decode cX5_addSight 102 = .ok (.invokevirtual 119, 3) := by decide +kernel
theorem dX5_addSight_105 : decode cX5_addSight 105 = .ok (.fastore, 1) := by decide +kernel
theorem dX5_addSight_106 : decode cX5_addSight 106 = .ok (.aload_n 0, 1) := by decide +kernel
theorem dX5_addSight_107 : decode cX5_addSight 107 = .ok (.dup, 1) := by decide +kernel
theorem dX5_addSight_108 : decode cX5_addSight 108 = .ok (.getfield 53, 3) := by decide +kernel
theorem dX5_addSight_111 : decode cX5_addSight 111 = .ok (.iconst 1, 1) := by decide +kernel
theorem dX5_addSight_112 : decode cX5_addSight 112 = .ok (.iadd, 1) := by decide +kernel
theorem dX5_addSight_113 : decode cX5_addSight 113 = .ok (.putfield 53, 3) := by decide +kernel
theorem dX5_addSight_116 : decode cX5_addSight 116 = .ok (.return_, 1) := by decide +kernel
theorem dX5_passHour_0 : decode cX5_passHour 0 = .ok (.aload_n 0, 1) := by decide +kernel
theorem dX5_passHour_1 : decode cX5_passHour 1 = .ok (.dup, 1) := by decide +kernel
theorem dX5_passHour_2 : decode cX5_passHour 2 = .ok (.getfield 47, 3) := by decide +kernel
theorem dX5_passHour_5 : decode cX5_passHour 5 = .ok (.iconst 1, 1) := by decide +kernel
theorem dX5_passHour_6 : decode cX5_passHour 6 = .ok (.iadd, 1) := by decide +kernel
theorem dX5_passHour_7 : decode cX5_passHour 7 = .ok (.putfield 47, 3) := by decide +kernel
theorem dX5_passHour_10 : decode cX5_passHour 10 = .ok (.iconst 0, 1) := by decide +kernel
theorem dX5_passHour_11 : decode cX5_passHour 11 = .ok (.istore_n 1, 1) := by decide +kernel
theorem dX5_passHour_12 : decode cX5_passHour 12 = .ok (.iload_n 1, 1) := by decide +kernel
theorem dX5_passHour_13 : decode cX5_passHour 13 = .ok (.aload_n 0, 1) := by decide +kernel
theorem dX5_passHour_14 : decode cX5_passHour 14 = .ok (.getfield 34, 3) := by decide +kernel
theorem dX5_passHour_17 : decode cX5_passHour 17 = .ok (.if_icmp .ge 79, 3) := by decide +kernel
theorem dX5_passHour_20 : decode cX5_passHour 20 = .ok (.aload_n 0, 1) := by decide +kernel
theorem dX5_passHour_21 : decode cX5_passHour 21 = .ok (.getfield 9, 3) := by decide +kernel
theorem dX5_passHour_24 : decode cX5_passHour 24 = .ok (.iload_n 1, 1) := by decide +kernel
theorem dX5_passHour_25 : decode cX5_passHour 25 = .ok (.aload_n 0, 1) := by decide +kernel
theorem dX5_passHour_26 : decode cX5_passHour 26 = .ok (.getfield 9, 3) := by decide +kernel
theorem dX5_passHour_29 : decode cX5_passHour 29 = .ok (.iload_n 1, 1) := by decide +kernel
theorem dX5_passHour_30 : decode cX5_passHour 30 = .ok (.iaload, 1) := by decide +kernel
theorem dX5_passHour_31 : decode cX5_passHour 31 = .ok (.iconst 1, 1) := by decide +kernel
theorem dX5_passHour_32 : decode cX5_passHour 32 = .ok (.invokestatic 123, 3) := by decide +kernel
theorem dX5_passHour_35 : decode cX5_passHour 35 = .ok (.iastore, 1) := by decide +kernel
theorem dX5_passHour_36 : decode cX5_passHour 36 = .ok (.aload_n 0, 1) := by decide +kernel
theorem dX5_passHour_37 : decode cX5_passHour 37 = .ok (.getfield 15, 3) := by decide +kernel
theorem dX5_passHour_40 : decode cX5_passHour 40 = .ok (.iload_n 1, 1) := by decide +kernel
theorem dX5_passHour_41 : decode cX5_passHour 41 = .ok (.iaload, 1) := by decide +kernel
theorem dX5_passHour_42 : decode cX5_passHour 42 = .ok (.ifCond .le 23, 3) := by decide +kernel
theorem dX5_passHour_45 : decode cX5_passHour 45 = .ok (.aload_n 0, 1) := by decide +kernel
theorem dX5_passHour_46 : decode cX5_passHour 46 = .ok (.getfield 15, 3) := by decide +kernel
theorem dX5_passHour_49 : decode cX5_passHour 49 = .ok (.iload_n 1, 1) := by decide +kernel
theorem dX5_passHour_50 : decode cX5_passHour 50 = .ok (.dup2, 1) := by decide +kernel
theorem dX5_passHour_51 : decode cX5_passHour 51 = .ok (.iaload, 1) := by decide +kernel
theorem dX5_passHour_52 : decode cX5_passHour 52 = .ok (.iconst 1, 1) := by decide +kernel
theorem dX5_passHour_53 : decode cX5_passHour 53 = .ok (.isub, 1) := by decide +kernel
theorem dX5_passHour_54 : decode cX5_passHour 54 = .ok (.iastore, 1) := by decide +kernel
theorem dX5_passHour_55 : decode cX5_passHour 55 = .ok (.aload_n 0, 1) := by decide +kernel
theorem dX5_passHour_56 : decode cX5_passHour 56 = .ok (.dup, 1) := by decide +kernel
theorem dX5_passHour_57 : decode cX5_passHour 57 = .ok (.getfield 59, 3) := by decide +kernel
theorem dX5_passHour_60 : decode cX5_passHour 60 = .ok (.iconst 1, 1) := by decide +kernel
theorem dX5_passHour_61 : decode cX5_passHour 61 = .ok (.iadd, 1) := by decide +kernel
theorem dX5_passHour_62 : decode cX5_passHour 62 = .ok (.putfield 59, 3) := by decide +kernel
theorem dX5_passHour_65 : decode cX5_passHour 65 = .ok (.aload_n 0, 1) := by decide +kernel
theorem dX5_passHour_66 : decode cX5_passHour 66 = .ok (.getfield 47, 3) := by decide +kernel
theorem dX5_passHour_69 : decode cX5_passHour 69 = .ok (.iconst 4, 1) := by decide +kernel
theorem dX5_passHour_70 : decode cX5_passHour 70 = .ok (.irem, 1) := by decide +kernel
theorem dX5_passHour_71 : decode cX5_passHour 71 = .ok (.ifCond .ne 19, 3) := by decide +kernel
theorem dX5_passHour_74 : decode cX5_passHour 74 = .ok (.aload_n 0, 1) := by decide +kernel
theorem dX5_passHour_75 : decode cX5_passHour 75 = .ok (.getfield 18, 3) := by decide +kernel
theorem dX5_passHour_78 : decode cX5_passHour 78 = .ok (.iload_n 1, 1) := by decide +kernel
theorem dX5_passHour_79 : decode cX5_passHour 79 = .ok (.aload_n 0, 1) := by decide +kernel
theorem dX5_passHour_80 : decode cX5_passHour 80 = .ok (.getfield 18, 3) := by decide +kernel
theorem dX5_passHour_83 : decode cX5_passHour 83 = .ok (.iload_n 1, 1) := by decide +kernel
theorem dX5_passHour_84 : decode cX5_passHour 84 = .ok (.iaload, 1) := by decide +kernel
theorem dX5_passHour_85 : decode cX5_passHour 85 = .ok (.iconst 1, 1) := by decide +kernel
theorem dX5_passHour_86 : decode cX5_passHour 86 = .ok (.iadd, 1) := by decide +kernel
theorem dX5_passHour_87 : decode cX5_passHour 87 = .ok (.iconst 4, 1) := by decide +kernel
theorem dX5_passHour_88 : decode cX5_passHour 88 = .ok (.irem, 1) := by decide +kernel
theorem dX5_passHour_89 : decode cX5_passHour 89 = .ok (.iastore, 1) := by decide +kernel
theorem dX5_passHour_90 : decode cX5_passHour 90 = .ok (.iinc 1 1, 3) := by decide +kernel
theorem dX5_passHour_93 : decode cX5_passHour 93 = .ok (.goto (-81), 3) := by decide +kernel
theorem dX5_passHour_96 : decode cX5_passHour 96 = .ok (.return_, 1) := by decide +kernel
theorem dX5_isSightedNow_0 : decode cX5_isSightedNow 0 = .ok (.aload_n 0, 1) := by decide +kernel
theorem dX5_isSightedNow_1 : decode cX5_isSightedNow 1 = .ok (.iload_n 1, 1) := by decide +kernel
theorem dX5_isSightedNow_2 : decode cX5_isSightedNow 2 = .ok (.iconst 0, 1) := by decide +kernel
theorem dX5_isSightedNow_3 : decode cX5_isSightedNow 3 = .ok (.invokevirtual 127, 3) := by decide +kernel
theorem dX5_isSightedNow_6 : decode cX5_isSightedNow 6 = .ok (.istore_n 2, 1) := by decide +kernel
theorem dX5_isSightedNow_7 : decode cX5_isSightedNow 7 = .ok (.iload_n 2, 1) := by decide +kernel
theorem dX5_isSightedNow_8 : decode cX5_isSightedNow 8 = .ok (.iconst (-1), 1) := by decide +kernel
theorem dX5_isSightedNow_9 : decode cX5_isSightedNow 9 = .ok (.if_icmp .eq 20, 3) := by decide +kernel
theorem dX5_isSightedNow_12 : decode cX5_isSightedNow 12 = .ok (.aload_n 0, 1) := by decide +kernel
theorem dX5_isSightedNow_13 : decode cX5_isSightedNow 13 = .ok (.getfield 27, 3) := by decide +kernel
theorem dX5_isSightedNow_16 : decode cX5_isSightedNow 16 = .ok (.iload_n 2, 1) := by decide +kernel
theorem dX5_isSightedNow_17 : decode cX5_isSightedNow 17 = .ok (.iaload, 1) := by decide +kernel
theorem dX5_isSightedNow_18 : decode cX5_isSightedNow 18 = .ok (.aload_n 0, 1) := by decide +kernel
theorem dX5_isSightedNow_19 : decode cX5_isSightedNow 19 = .ok (.getfield 47, 3) := by decide +kernel
theorem dX5_isSightedNow_22 : decode cX5_isSightedNow 22 = .ok (.if_icmp .ne 7, 3) := by decide +kernel
theorem dX5_isSightedNow_25 : decode cX5_isSightedNow 25 = .ok (.iconst 1, 1) := by decide +kernel
theorem dX5_isSightedNow_26 : decode cX5_isSightedNow 26 = .ok (.goto 4, 3) := by decide +kernel
theorem dX5_isSightedNow_29 : decode cX5_isSightedNow 29 = .ok (.iconst 0, 1) := by decide +kernel
theorem dX5_isSightedNow_30 : decode cX5_isSightedNow 30 = .ok (.ireturn, 1) := by decide +kernel
theorem dX5_turned_0 : decode cX5_turned 0 = .ok (.iload_n 1, 1) := by decide +kernel
theorem dX5_turned_1 : decode cX5_turned 1 = .ok (.bipush 16, 2) := by decide +kernel
theorem dX5_turned_3 : decode cX5_turned 3 = .ok (.invokestatic 130, 3) := by decide +kernel
theorem dX5_turned_6 : decode cX5_turned 6 = .ok (.istore_n 2, 1) := by decide +kernel
theorem dX5_turned_7 : decode cX5_turned 7 = .ok (.iload_n 0, 1) := by decide +kernel
theorem dX5_turned_8 : decode cX5_turned 8 = .ok (.iload_n 2, 1) := by decide +kernel
theorem dX5_turned_9 : decode cX5_turned 9 = .ok (.ishl, 1) := by decide +kernel
theorem dX5_turned_10 : decode cX5_turned 10 = .ok (.iload_n 0, 1) := by decide +kernel
theorem dX5_turned_11 : decode cX5_turned 11 = .ok (.bipush 16, 2) := by decide +kernel
theorem dX5_turned_13 : decode cX5_turned 13 = .ok (.iload_n 2, 1) := by decide +kernel
theorem dX5_turned_14 : decode cX5_turned 14 = .ok (.isub, 1) := by decide +kernel
theorem dX5_turned_15 : decode cX5_turned 15 = .ok (.ishr, 1) := by decide +kernel
theorem dX5_turned_16 : decode cX5_turned 16 = .ok (.ior, 1) := by decide +kernel
theorem dX5_turned_17 : decode cX5_turned 17 = .ok (.ldc 65, 2) := by decide +kernel
theorem dX5_turned_19 : decode cX5_turned 19 = .ok (.iand, 1) := by decide +kernel
theorem dX5_turned_20 : decode cX5_turned 20 = .ok (.ireturn, 1) := by decide +kernel
theorem dX5_cheerIn_0 : decode cX5_cheerIn 0 = .ok (.iload_n 0, 1) := by decide +kernel
theorem dX5_cheerIn_1 : decode cX5_cheerIn 1 = .ok (.sipush 255, 3) := by decide +kernel
theorem dX5_cheerIn_4 : decode cX5_cheerIn 4 = .ok (.iand, 1) := by decide +kernel
theorem dX5_cheerIn_5 : decode cX5_cheerIn 5 = .ok (.invokestatic 135, 3) := by decide +kernel
theorem dX5_cheerIn_8 : decode cX5_cheerIn 8 = .ok (.ireturn, 1) := by decide +kernel
theorem dX5_dreadIn_0 : decode cX5_dreadIn 0 = .ok (.iload_n 0, 1) := by decide +kernel
theorem dX5_dreadIn_1 : decode cX5_dreadIn 1 = .ok (.ldc 141, 2) := by decide +kernel
theorem dX5_dreadIn_3 : decode cX5_dreadIn 3 = .ok (.iand, 1) := by decide +kernel
theorem dX5_dreadIn_4 : decode cX5_dreadIn 4 = .ok (.invokestatic 135, 3) := by decide +kernel
theorem dX5_dreadIn_7 : decode cX5_dreadIn 7 = .ok (.ireturn, 1) := by decide +kernel
theorem dX5_angleAfter_0 : decode cX5_angleAfter 0 = .ok (.aload_n 0, 1) := by decide +kernel
theorem dX5_angleAfter_1 : decode cX5_angleAfter 1 = .ok (.getfield 9, 3) := by decide +kernel
theorem dX5_angleAfter_4 : decode cX5_angleAfter 4 = .ok (.iload_n 1, 1) := by decide +kernel
theorem dX5_angleAfter_5 : decode cX5_angleAfter 5 = .ok (.iaload, 1) := by decide +kernel
theorem dX5_angleAfter_6 : decode cX5_angleAfter 6 = .ok (.iload_n 2, 1) := by decide +kernel
theorem dX5_angleAfter_7 : decode cX5_angleAfter 7 = .ok (.invokestatic 123, 3) := by decide +kernel
theorem dX5_angleAfter_10 : decode cX5_angleAfter 10 = .ok (.istore_n 3, 1) := by decide +kernel
theorem dX5_angleAfter_11 : decode cX5_angleAfter 11 = .ok (.iconst 0, 1) := by decide +kernel
theorem dX5_angleAfter_12 : decode cX5_angleAfter 12 = .ok (.aload_n 0, 1) := by decide +kernel
theorem dX5_angleAfter_13 : decode cX5_angleAfter 13 = .ok (.getfield 15, 3) := by decide +kernel
theorem dX5_angleAfter_16 : decode cX5_angleAfter 16 = .ok (.iload_n 1, 1) := by decide +kernel
theorem dX5_angleAfter_17 : decode cX5_angleAfter 17 = .ok (.iaload, 1) := by decide +kernel
theorem dX5_angleAfter_18 : decode cX5_angleAfter 18 = .ok (.iload_n 2, 1) := by decide +kernel
theorem dX5_angleAfter_19 : decode cX5_angleAfter 19 = .ok (.isub, 1) := by decide +kernel
theorem dX5_angleAfter_20 : decode cX5_angleAfter 20 = .ok (.invokestatic 142, 3) := by decide +kernel
theorem dX5_angleAfter_23 : decode cX5_angleAfter 23 = .ok (.istore 4, 2) := by decide +kernel
theorem dX5_angleAfter_25 : decode cX5_angleAfter 25 = .ok (.aload_n 0, 1) := by decide +kernel
theorem dX5_angleAfter_26 : decode cX5_angleAfter 26 = .ok (.getfield 47, 3) := by decide +kernel
theorem dX5_angleAfter_29 : decode cX5_angleAfter 29 = .ok (.iload_n 2, 1) := by decide +kernel
theorem dX5_angleAfter_30 : decode cX5_angleAfter 30 = .ok (.iadd, 1) := by decide +kernel
theorem dX5_angleAfter_31 : decode cX5_angleAfter 31 = .ok (.iconst 4, 1) := by decide +kernel
theorem dX5_angleAfter_32 : decode cX5_angleAfter 32 = .ok (.invokestatic 145, 3) := by decide +kernel
theorem dX5_angleAfter_35 : decode cX5_angleAfter 35 = .ok (.aload_n 0, 1) := by decide +kernel
theorem dX5_angleAfter_36 : decode cX5_angleAfter 36 = .ok (.getfield 47, 3) := by decide +kernel
theorem dX5_angleAfter_39 : decode cX5_angleAfter 39 = .ok (.iconst 4, 1) := by decide +kernel
theorem dX5_angleAfter_40 : decode cX5_angleAfter 40 = .ok (.invokestatic 145, 3) := by decide +kernel
theorem dX5_angleAfter_43 : decode cX5_angleAfter 43 = .ok (.isub, 1) := by decide +kernel
theorem dX5_angleAfter_44 : decode cX5_angleAfter 44 = .ok (.istore 5, 2) := by decide +kernel
theorem dX5_angleAfter_46 : decode cX5_angleAfter 46 = .ok (.aload_n 0, 1) := by decide +kernel
theorem dX5_angleAfter_47 : decode cX5_angleAfter 47 = .ok (.getfield 18, 3) := by decide +kernel
theorem dX5_angleAfter_50 : decode cX5_angleAfter 50 = .ok (.iload_n 1, 1) := by decide +kernel
theorem dX5_angleAfter_51 : decode cX5_angleAfter 51 = .ok (.iaload, 1) := by decide +kernel
theorem dX5_angleAfter_52 : decode cX5_angleAfter 52 = .ok (.iload 5, 2) := by decide +kernel
theorem dX5_angleAfter_54 : decode cX5_angleAfter 54 = .ok (.iadd, 1) := by decide +kernel
theorem dX5_angleAfter_55 : decode cX5_angleAfter 55 = .ok (.iconst 4, 1) := by decide +kernel
theorem dX5_angleAfter_56 : decode cX5_angleAfter 56 = .ok (.invokestatic 130, 3) := by decide +kernel
theorem dX5_angleAfter_59 : decode cX5_angleAfter 59 = .ok (.istore 6, 2) := by decide +kernel
theorem dX5_angleAfter_61 : decode cX5_angleAfter 61 = .ok (.iload_n 3, 1) := by decide +kernel
theorem dX5_angleAfter_62 : decode cX5_angleAfter 62 = .ok (.invokestatic 148, 3) := by decide +kernel
theorem dX5_angleAfter_65 : decode cX5_angleAfter 65 = .ok (.iload 4, 2) := by decide +kernel
theorem dX5_angleAfter_67 : decode cX5_angleAfter 67 = .ok (.iadd, 1) := by decide +kernel
theorem dX5_angleAfter_68 : decode cX5_angleAfter 68 = .ok (.iload_n 3, 1) := by decide +kernel
theorem dX5_angleAfter_69 : decode cX5_angleAfter 69 = .ok (.invokestatic 151, 3) := by decide +kernel
theorem dX5_angleAfter_72 : decode cX5_angleAfter 72 = .ok (.isub, 1) := by decide +kernel
theorem dX5_angleAfter_73 : decode cX5_angleAfter 73 = .ok (.aload_n 0, 1) := by decide +kernel
theorem dX5_angleAfter_74 : decode cX5_angleAfter 74 = .ok (.getfield 21, 3) := by decide +kernel
theorem dX5_angleAfter_77 : decode cX5_angleAfter 77 = .ok (.iload 6, 2) := by decide +kernel
theorem dX5_angleAfter_79 : decode cX5_angleAfter 79 = .ok (.iaload, 1) := by decide +kernel
theorem dX5_angleAfter_80 : decode cX5_angleAfter 80 = .ok (.isub, 1) := by decide +kernel
theorem dX5_angleAfter_81 : decode cX5_angleAfter 81 = .ok (.ireturn, 1) := by decide +kernel
theorem dX5_readingOf_0 : decode cX5_readingOf 0 = .ok (.aload_n 0, 1) := by decide +kernel
theorem dX5_readingOf_1 : decode cX5_readingOf 1 = .ok (.iload_n 1, 1) := by decide +kernel
theorem dX5_readingOf_2 : decode cX5_readingOf 2 = .ok (.iconst 0, 1) := by decide +kernel
theorem dX5_readingOf_3 : decode cX5_readingOf 3 = .ok (.invokevirtual 154, 3) := by decide +kernel
theorem dX5_readingOf_6 : decode cX5_readingOf 6 = .ok (.aload_n 0, 1) := by decide +kernel
theorem dX5_readingOf_7 : decode cX5_readingOf 7 = .ok (.getfield 44, 3) := by decide +kernel
theorem dX5_readingOf_10 : decode cX5_readingOf 10 = .ok (.iadd, 1) := by decide +kernel
theorem dX5_readingOf_11 : decode cX5_readingOf 11 = .ok (.i2f, 1) := by decide +kernel
theorem dX5_readingOf_12 : decode cX5_readingOf 12 = .ok (.ldc 157, 2) := by decide +kernel
theorem dX5_readingOf_14 : decode cX5_readingOf 14 = .ok (.fdiv, 1) := by decide +kernel
theorem dX5_readingOf_15 : decode cX5_readingOf 15 = .ok (.fstore_n 2, 1) := by decide +kernel
theorem dX5_readingOf_16 : decode cX5_readingOf 16 = .ok (.fload_n 2, 1) := by decide +kernel
theorem dX5_readingOf_17 : decode cX5_readingOf 17 = .ok (.aload_n 0, 1) := by decide +kernel
theorem dX5_readingOf_18 : decode cX5_readingOf 18 = .ok (.getfield 15, 3) := by decide +kernel
theorem dX5_readingOf_21 : decode cX5_readingOf 21 = .ok (.iload_n 1, 1) := by decide +kernel
theorem dX5_readingOf_22 : decode cX5_readingOf 22 = .ok (.iaload, 1) := by decide +kernel
theorem dX5_readingOf_23 : decode cX5_readingOf 23 = .ok (.i2f, 1) := by decide +kernel
theorem dX5_readingOf_24 : decode cX5_readingOf 24 = .ok (.ldc 158, 2) := by decide +kernel
theorem dX5_readingOf_26 : decode cX5_readingOf 26 = .ok (.fdiv, 1) := by decide +kernel
theorem dX5_readingOf_27 : decode cX5_readingOf 27 = .ok (.fsub, 1) := by decide +kernel
theorem dX5_readingOf_28 : decode cX5_readingOf 28 = .ok (.freturn, 1) := by decide +kernel
theorem dX5_sightFrom_0 : decode cX5_sightFrom 0 = .ok (.iload_n 2, 1) := by decide +kernel
theorem dX5_sightFrom_1 : decode cX5_sightFrom 1 = .ok (.istore_n 3, 1) := by decide +kernel
theorem dX5_sightFrom_2 : decode cX5_sightFrom 2 = .ok (.iload_n 3, 1) := by decide +kernel
theorem dX5_sightFrom_3 : decode cX5_sightFrom 3 = .ok (.aload_n 0, 1) := by decide +kernel
theorem dX5_sightFrom_4 : decode cX5_sightFrom 4 = .ok (.getfield 50, 3) := by decide +kernel
theorem dX5_sightFrom_7 : decode cX5_sightFrom 7 = .ok (.if_icmp .ge 21, 3) := by decide +kernel
theorem dX5_sightFrom_10 : decode cX5_sightFrom 10 = .ok (.aload_n 0, 1) := by decide +kernel
theorem dX5_sightFrom_11 : decode cX5_sightFrom 11 = .ok (.getfield 24, 3) := by decide +kernel
theorem dX5_sightFrom_14 : decode cX5_sightFrom 14 = .ok (.iload_n 3, 1) := by decide +kernel
theorem dX5_sightFrom_15 : decode cX5_sightFrom 15 = .ok (.iaload, 1) := by decide +kernel
theorem dX5_sightFrom_16 : decode cX5_sightFrom 16 = .ok (.iload_n 1, 1) := by decide +kernel
theorem dX5_sightFrom_17 : decode cX5_sightFrom 17 = .ok (.if_icmp .ne 5, 3) := by decide +kernel
theorem dX5_sightFrom_20 : decode cX5_sightFrom 20 = .ok (.iload_n 3, 1) := by decide +kernel
theorem dX5_sightFrom_21 : decode cX5_sightFrom 21 = .ok (.ireturn, 1) := by decide +kernel
theorem dX5_sightFrom_22 : decode cX5_sightFrom 22 = .ok (.iinc 3 1, 3) := by decide +kernel
theorem dX5_sightFrom_25 : decode cX5_sightFrom 25 = .ok (.goto (-23), 3) := by decide +kernel
theorem dX5_sightFrom_28 : decode cX5_sightFrom 28 = .ok (.iconst (-1), 1) := by decide +kernel
theorem dX5_sightFrom_29 : decode cX5_sightFrom 29 = .ok (.ireturn, 1) := by decide +kernel
theorem dX5_sightsOf_0 : decode cX5_sightsOf 0 = .ok (.iconst 0, 1) := by decide +kernel
theorem dX5_sightsOf_1 : decode cX5_sightsOf 1 = .ok (.istore_n 2, 1) := by decide +kernel
theorem dX5_sightsOf_2 : decode cX5_sightsOf 2 = .ok (.iconst 0, 1) := by decide +kernel
theorem dX5_sightsOf_3 : decode cX5_sightsOf 3 = .ok (.istore_n 3, 1) := by decide +kernel
theorem dX5_sightsOf_4 : decode cX5_sightsOf 4 = .ok (.iload_n 3, 1) := by decide +kernel
theorem dX5_sightsOf_5 : decode cX5_sightsOf 5 = .ok (.aload_n 0, 1) := by decide +kernel
theorem dX5_sightsOf_6 : decode cX5_sightsOf 6 = .ok (.getfield 50, 3) := by decide +kernel
theorem dX5_sightsOf_9 : decode cX5_sightsOf 9 = .ok (.if_icmp .ge 22, 3) := by decide +kernel
theorem dX5_sightsOf_12 : decode cX5_sightsOf 12 = .ok (.aload_n 0, 1) := by decide +kernel
theorem dX5_sightsOf_13 : decode cX5_sightsOf 13 = .ok (.getfield 24, 3) := by decide +kernel
theorem dX5_sightsOf_16 : decode cX5_sightsOf 16 = .ok (.iload_n 3, 1) := by decide +kernel
theorem dX5_sightsOf_17 : decode cX5_sightsOf 17 = .ok (.iaload, 1) := by decide +kernel
theorem dX5_sightsOf_18 : decode cX5_sightsOf 18 = .ok (.iload_n 1, 1) := by decide +kernel
theorem dX5_sightsOf_19 : decode cX5_sightsOf 19 = .ok (.if_icmp .ne 6, 3) := by decide +kernel
theorem dX5_sightsOf_22 : decode cX5_sightsOf 22 = .ok (.iinc 2 1, 3) := by decide +kernel
theorem dX5_sightsOf_25 : decode cX5_sightsOf 25 = .ok (.iinc 3 1, 3) := by decide +kernel
theorem dX5_sightsOf_28 : decode cX5_sightsOf 28 = .ok (.goto (-24), 3) := by decide +kernel
theorem dX5_sightsOf_31 : decode cX5_sightsOf 31 = .ok (.iload_n 2, 1) := by decide +kernel
theorem dX5_sightsOf_32 : decode cX5_sightsOf 32 = .ok (.ireturn, 1) := by decide +kernel
theorem dX5_hasFix_0 : decode cX5_hasFix 0 = .ok (.aload_n 0, 1) := by decide +kernel
theorem dX5_hasFix_1 : decode cX5_hasFix 1 = .ok (.iload_n 1, 1) := by decide +kernel
theorem dX5_hasFix_2 : decode cX5_hasFix 2 = .ok (.invokevirtual 159, 3) := by decide +kernel
theorem dX5_hasFix_5 : decode cX5_hasFix 5 = .ok (.iconst 2, 1) := by decide +kernel
theorem dX5_hasFix_6 : decode cX5_hasFix 6 = .ok (.if_icmp .lt 7, 3) := by decide +kernel
theorem dX5_hasFix_9 : decode cX5_hasFix 9 = .ok (.iconst 1, 1) := by decide +kernel
theorem dX5_hasFix_10 : decode cX5_hasFix 10 = .ok (.goto 4, 3) := by decide +kernel
theorem dX5_hasFix_13 : decode cX5_hasFix 13 = .ok (.iconst 0, 1) := by decide +kernel
theorem dX5_hasFix_14 : decode cX5_hasFix 14 = .ok (.ireturn, 1) := by decide +kernel
theorem dX5_latestReading_0 : decode cX5_latestReading 0 = .ok (.aload_n 0, 1) := by decide +kernel
theorem dX5_latestReading_1 : decode cX5_latestReading 1 = .ok (.iload_n 1, 1) := by decide +kernel
theorem dX5_latestReading_2 : decode cX5_latestReading 2 = .ok (.iconst 0, 1) := by decide +kernel
theorem dX5_latestReading_3 : decode cX5_latestReading 3 = .ok (.invokevirtual 127, 3) := by decide +kernel
theorem dX5_latestReading_6 : decode cX5_latestReading 6 = .ok (.istore_n 2, 1) := by decide +kernel
theorem dX5_latestReading_7 : decode cX5_latestReading 7 = .ok (.iload_n 2, 1) := by decide +kernel
theorem dX5_latestReading_8 : decode cX5_latestReading 8 = .ok (.iconst (-1), 1) := by decide +kernel
theorem dX5_latestReading_9 : decode cX5_latestReading 9 = .ok (.if_icmp .ne 7, 3) := by decide +kernel
theorem dX5_latestReading_12 : decode cX5_latestReading 12 = .ok (.fconst 0, 1) := by decide +kernel
theorem dX5_latestReading_13 : decode cX5_latestReading 13 = .ok (.goto 9, 3) := by decide +kernel
theorem dX5_latestReading_16 : decode cX5_latestReading 16 = .ok (.aload_n 0, 1) := by decide +kernel
theorem dX5_latestReading_17 : decode cX5_latestReading 17 = .ok (.getfield 30, 3) := by decide +kernel
theorem dX5_latestReading_20 : decode cX5_latestReading 20 = .ok (.iload_n 2, 1) := by decide +kernel
theorem dX5_latestReading_21 : decode cX5_latestReading 21 = .ok (.faload, 1) := by decide +kernel
theorem dX5_latestReading_22 : decode cX5_latestReading 22 = .ok (.freturn, 1) := by decide +kernel
theorem dX5_secondReading_0 : decode cX5_secondReading 0 = .ok (.aload_n 0, 1) := by decide +kernel
theorem dX5_secondReading_1 : decode cX5_secondReading 1 = .ok (.iload_n 1, 1) := by decide +kernel
theorem dX5_secondReading_2 : decode cX5_secondReading 2 = .ok (.aload_n 0, 1) := by decide +kernel
theorem dX5_secondReading_3 : decode cX5_secondReading 3 = .ok (.iload_n 1, 1) := by decide +kernel
theorem dX5_secondReading_4 : decode cX5_secondReading 4 = .ok (.iconst 0, 1) := by decide +kernel
theorem dX5_secondReading_5 : decode cX5_secondReading 5 = .ok (.invokevirtual 127, 3) := by decide +kernel
theorem dX5_secondReading_8 : decode cX5_secondReading 8 = .ok (.iconst 1, 1) := by decide +kernel
theorem dX5_secondReading_9 : decode cX5_secondReading 9 = .ok (.iadd, 1) := by decide +kernel
theorem dX5_secondReading_10 : decode cX5_secondReading 10 = .ok (.invokevirtual 127, 3) := by decide +kernel
theorem dX5_secondReading_13 : decode cX5_secondReading 13 = .ok (.istore_n 2, 1) := by decide +kernel
theorem dX5_secondReading_14 : decode cX5_secondReading 14 = .ok (.iload_n 2, 1) := by decide +kernel
theorem dX5_secondReading_15 : decode cX5_secondReading 15 = .ok (.iconst (-1), 1) := by decide +kernel
theorem dX5_secondReading_16 : decode cX5_secondReading 16 = .ok (.if_icmp .ne 7, 3) := by decide +kernel
theorem dX5_secondReading_19 : decode cX5_secondReading 19 = .ok (.fconst 0, 1) := by decide +kernel
theorem dX5_secondReading_20 : decode cX5_secondReading 20 = .ok (.goto 9, 3) := by decide +kernel
theorem dX5_secondReading_23 : decode cX5_secondReading 23 = .ok (.aload_n 0, 1) := by decide +kernel
theorem dX5_secondReading_24 : decode cX5_secondReading 24 = .ok (.getfield 30, 3) := by decide +kernel
theorem dX5_secondReading_27 : decode cX5_secondReading 27 = .ok (.iload_n 2, 1) := by decide +kernel
theorem dX5_secondReading_28 : decode cX5_secondReading 28 = .ok (.faload, 1) := by decide +kernel
theorem dX5_secondReading_29 : decode cX5_secondReading 29 = .ok (.freturn, 1) := by decide +kernel
theorem dX5_fixOf_0 : decode cX5_fixOf 0 = .ok (.aload_n 0, 1) := by decide +kernel
theorem dX5_fixOf_1 : decode cX5_fixOf 1 = .ok (.iload_n 1, 1) := by decide +kernel
theorem dX5_fixOf_2 : decode cX5_fixOf 2 = .ok (.invokevirtual 162, 3) := by decide +kernel
theorem dX5_fixOf_5 : decode cX5_fixOf 5 = .ok (.aload_n 0, 1) := by decide +kernel
theorem dX5_fixOf_6 : decode cX5_fixOf 6 = .ok (.iload_n 1, 1) := by decide +kernel
theorem dX5_fixOf_7 : decode cX5_fixOf 7 = .ok (.invokevirtual 165, 3) := by decide +kernel
theorem dX5_fixOf_10 : decode cX5_fixOf 10 = .ok (.fadd, 1) := by decide +kernel
theorem dX5_fixOf_11 : decode cX5_fixOf 11 = .ok (.fconst 2, 1) := by decide +kernel
theorem dX5_fixOf_12 : decode cX5_fixOf 12 = .ok (.fdiv, 1) := by decide +kernel
theorem dX5_fixOf_13 : decode cX5_fixOf 13 = .ok (.freturn, 1) := by decide +kernel
theorem dX5_fixFromLatest_0 : decode cX5_fixFromLatest 0 = .ok (.aload_n 0, 1) := by decide +kernel
theorem dX5_fixFromLatest_1 : decode cX5_fixFromLatest 1 = .ok (.iload_n 1, 1) := by decide +kernel
theorem dX5_fixFromLatest_2 : decode cX5_fixFromLatest 2 = .ok (.invokevirtual 162, 3) := by decide +kernel
theorem dX5_fixFromLatest_5 : decode cX5_fixFromLatest 5 = .ok (.fstore_n 2, 1) := by decide +kernel
theorem dX5_fixFromLatest_6 : decode cX5_fixFromLatest 6 = .ok (.fload_n 2, 1) := by decide +kernel
theorem dX5_fixFromLatest_7 : decode cX5_fixFromLatest 7 = .ok (.aload_n 0, 1) := by decide +kernel
theorem dX5_fixFromLatest_8 : decode cX5_fixFromLatest 8 = .ok (.iload_n 1, 1) := by decide +kernel
theorem dX5_fixFromLatest_9 : decode cX5_fixFromLatest 9 = .ok (.invokevirtual 165, 3) := by decide +kernel
theorem dX5_fixFromLatest_12 : decode cX5_fixFromLatest 12 = .ok (.fload_n 2, 1) := by decide +kernel
theorem dX5_fixFromLatest_13 : decode cX5_fixFromLatest 13 = .ok (.fsub, 1) := by decide +kernel
theorem dX5_fixFromLatest_14 : decode cX5_fixFromLatest 14 = .ok (.fconst 2, 1) := by decide +kernel
theorem dX5_fixFromLatest_15 : decode cX5_fixFromLatest 15 = .ok (.fdiv, 1) := by decide +kernel
theorem dX5_fixFromLatest_16 : decode cX5_fixFromLatest 16 = .ok (.fadd, 1) := by decide +kernel
theorem dX5_fixFromLatest_17 : decode cX5_fixFromLatest 17 = .ok (.freturn, 1) := by decide +kernel
theorem dX5_unlikeBits_0 : decode cX5_unlikeBits 0 = .ok (.iconst 0, 1) := by decide +kernel
theorem dX5_unlikeBits_1 : decode cX5_unlikeBits 1 = .ok (.istore_n 2, 1) := by decide +kernel
theorem dX5_unlikeBits_2 : decode cX5_unlikeBits 2 = .ok (.iconst 0, 1) := by decide +kernel
theorem dX5_unlikeBits_3 : decode cX5_unlikeBits 3 = .ok (.istore_n 3, 1) := by decide +kernel
theorem dX5_unlikeBits_4 : decode cX5_unlikeBits 4 = .ok (.iload_n 3, 1) := by decide +kernel
theorem dX5_unlikeBits_5 : decode cX5_unlikeBits 5 = .ok (.bipush 16, 2) := by decide +kernel
theorem dX5_unlikeBits_7 : decode cX5_unlikeBits 7 = .ok (.if_icmp .ge 25, 3) := by decide +kernel
theorem dX5_unlikeBits_10 : decode cX5_unlikeBits 10 = .ok (.iload_n 0, 1) := by decide +kernel
theorem dX5_unlikeBits_11 : decode cX5_unlikeBits 11 = .ok (.iload_n 3, 1) := by decide +kernel
theorem dX5_unlikeBits_12 : decode cX5_unlikeBits 12 = .ok (.ishr, 1) := by decide +kernel
theorem dX5_unlikeBits_13 : decode cX5_unlikeBits 13 = .ok (.iconst 1, 1) := by decide +kernel
theorem dX5_unlikeBits_14 : decode cX5_unlikeBits 14 = .ok (.iand, 1) := by decide +kernel
theorem dX5_unlikeBits_15 : decode cX5_unlikeBits 15 = .ok (.iload_n 1, 1) := by decide +kernel
theorem dX5_unlikeBits_16 : decode cX5_unlikeBits 16 = .ok (.iload_n 3, 1) := by decide +kernel
theorem dX5_unlikeBits_17 : decode cX5_unlikeBits 17 = .ok (.ishr, 1) := by decide +kernel
theorem dX5_unlikeBits_18 : decode cX5_unlikeBits 18 = .ok (.iconst 1, 1) := by decide +kernel
theorem dX5_unlikeBits_19 : decode cX5_unlikeBits 19 = .ok (.iand, 1) := by decide +kernel
theorem dX5_unlikeBits_20 : decode cX5_unlikeBits 20 = .ok (.if_icmp .eq 6, 3) := by decide +kernel
theorem dX5_unlikeBits_23 : decode cX5_unlikeBits 23 = .ok (.iinc 2 1, 3) := by decide +kernel
theorem dX5_unlikeBits_26 : decode cX5_unlikeBits 26 = .ok (.iinc 3 1, 3) := by decide +kernel
theorem dX5_unlikeBits_29 : decode cX5_unlikeBits 29 = .ok (.goto (-25), 3) := by decide +kernel
theorem dX5_unlikeBits_32 : decode cX5_unlikeBits 32 = .ok (.iload_n 2, 1) := by decide +kernel
theorem dX5_unlikeBits_33 : decode cX5_unlikeBits 33 = .ok (.ireturn, 1) := by decide +kernel
theorem dX5_unlikeByCounts_0 : decode cX5_unlikeByCounts 0 = .ok (.iload_n 0, 1) := by decide +kernel
theorem dX5_unlikeByCounts_1 : decode cX5_unlikeByCounts 1 = .ok (.iload_n 1, 1) := by decide +kernel
theorem dX5_unlikeByCounts_2 : decode cX5_unlikeByCounts 2 = .ok (.ior, 1) := by decide +kernel
theorem dX5_unlikeByCounts_3 : decode cX5_unlikeByCounts 3 = .ok (.invokestatic 135, 3) := by decide +kernel
theorem dX5_unlikeByCounts_6 : decode cX5_unlikeByCounts 6 = .ok (.iload_n 0, 1) := by decide +kernel
theorem dX5_unlikeByCounts_7 : decode cX5_unlikeByCounts 7 = .ok (.iload_n 1, 1) := by decide +kernel
theorem dX5_unlikeByCounts_8 : decode cX5_unlikeByCounts 8 = .ok (.iand, 1) := by decide +kernel
theorem dX5_unlikeByCounts_9 : decode cX5_unlikeByCounts 9 = .ok (.invokestatic 135, 3) := by decide +kernel
theorem dX5_unlikeByCounts_12 : decode cX5_unlikeByCounts 12 = .ok (.isub, 1) := by decide +kernel
theorem dX5_unlikeByCounts_13 : decode cX5_unlikeByCounts 13 = .ok (.ireturn, 1) := by decide +kernel
theorem dX5_closestTurn_0 : decode cX5_closestTurn 0 = .ok (.iconst 0, 1) := by decide +kernel
theorem dX5_closestTurn_1 : decode cX5_closestTurn 1 = .ok (.istore_n 2, 1) := by decide +kernel
theorem dX5_closestTurn_2 : decode cX5_closestTurn 2 = .ok (.iconst 1, 1) := by decide +kernel
theorem dX5_closestTurn_3 : decode cX5_closestTurn 3 = .ok (.istore_n 3, 1) := by decide +kernel
theorem dX5_closestTurn_4 : decode cX5_closestTurn 4 = .ok (.iload_n 3, 1) := by decide +kernel
theorem dX5_closestTurn_5 : decode cX5_closestTurn 5 = .ok (.bipush 16, 2) := by decide +kernel
theorem dX5_closestTurn_7 : decode cX5_closestTurn 7 = .ok (.if_icmp .ge 32, 3) := by decide +kernel
theorem dX5_closestTurn_10 : decode cX5_closestTurn 10 = .ok (.iload_n 0, 1) := by decide +kernel
theorem dX5_closestTurn_11 : decode cX5_closestTurn 11 = .ok (.iload_n 3, 1) := by decide +kernel
theorem dX5_closestTurn_12 : decode cX5_closestTurn 12 = .ok (.invokestatic 123, 3) := by decide +kernel
theorem dX5_closestTurn_15 : decode cX5_closestTurn 15 = .ok (.iload_n 1, 1) := by decide +kernel
theorem dX5_closestTurn_16 : decode cX5_closestTurn 16 = .ok (.invokestatic 168, 3) := by decide +kernel
theorem dX5_closestTurn_19 : decode cX5_closestTurn 19 = .ok (.iload_n 0, 1) := by decide +kernel
theorem dX5_closestTurn_20 : decode cX5_closestTurn 20 = .ok (.iload_n 2, 1) := by decide +kernel
theorem dX5_closestTurn_21 : decode cX5_closestTurn 21 = .ok (.invokestatic 123, 3) := by decide +kernel
theorem dX5_closestTurn_24 : decode cX5_closestTurn 24 = .ok (.iload_n 1, 1) := by decide +kernel
theorem dX5_closestTurn_25 : decode cX5_closestTurn 25 = .ok (.invokestatic 168, 3) := by decide +kernel
theorem dX5_closestTurn_28 : decode cX5_closestTurn 28 = .ok (.if_icmp .ge 5, 3) := by decide +kernel
theorem dX5_closestTurn_31 : decode cX5_closestTurn 31 = .ok (.iload_n 3, 1) := by decide +kernel
theorem dX5_closestTurn_32 : decode cX5_closestTurn 32 = .ok (.istore_n 2, 1) := by decide +kernel
theorem dX5_closestTurn_33 : decode cX5_closestTurn 33 = .ok (.iinc 3 1, 3) := by decide +kernel
theorem dX5_closestTurn_36 : decode cX5_closestTurn 36 = .ok (.goto (-32), 3) := by decide +kernel
theorem dX5_closestTurn_39 : decode cX5_closestTurn 39 = .ok (.iload_n 2, 1) := by decide +kernel
theorem dX5_closestTurn_40 : decode cX5_closestTurn 40 = .ok (.ireturn, 1) := by decide +kernel
theorem dX5_areMates_0 : decode cX5_areMates 0 = .ok (.iload_n 1, 1) := by decide +kernel
theorem dX5_areMates_1 : decode cX5_areMates 1 = .ok (.iload_n 2, 1) := by decide +kernel
theorem dX5_areMates_2 : decode cX5_areMates 2 = .ok (.if_icmp .eq 26, 3) := by decide +kernel
theorem dX5_areMates_5 : decode cX5_areMates 5 = .ok (.aload_n 0, 1) := by decide +kernel
theorem dX5_areMates_6 : decode cX5_areMates 6 = .ok (.getfield 9, 3) := by decide +kernel
theorem dX5_areMates_9 : decode cX5_areMates 9 = .ok (.iload_n 1, 1) := by decide +kernel
theorem dX5_areMates_10 : decode cX5_areMates 10 = .ok (.iaload, 1) := by decide +kernel
theorem dX5_areMates_11 : decode cX5_areMates 11 = .ok (.aload_n 0, 1) := by decide +kernel
theorem dX5_areMates_12 : decode cX5_areMates 12 = .ok (.getfield 9, 3) := by decide +kernel
theorem dX5_areMates_15 : decode cX5_areMates 15 = .ok (.iload_n 2, 1) := by decide +kernel
theorem dX5_areMates_16 : decode cX5_areMates 16 = .ok (.iaload, 1) := by decide +kernel
theorem dX5_areMates_17 : decode cX5_areMates 17 = .ok (.invokestatic 171, 3) := by decide +kernel
theorem dX5_areMates_20 : decode cX5_areMates 20 = .ok (.iconst 4, 1) := by decide +kernel
theorem dX5_areMates_21 : decode cX5_areMates 21 = .ok (.if_icmp .gt 7, 3) := by decide +kernel
theorem dX5_areMates_24 : decode cX5_areMates 24 = .ok (.iconst 1, 1) := by decide +kernel
theorem dX5_areMates_25 : decode cX5_areMates 25 = .ok (.goto 4, 3) := by decide +kernel
theorem dX5_areMates_28 : decode cX5_areMates 28 = .ok (.iconst 0, 1) := by decide +kernel
theorem dX5_areMates_29 : decode cX5_areMates 29 = .ok (.ireturn, 1) := by decide +kernel
theorem dX5_mateSet_0 : decode cX5_mateSet 0 = .ok (.iconst 0, 1) := by decide +kernel
theorem dX5_mateSet_1 : decode cX5_mateSet 1 = .ok (.istore_n 2, 1) := by decide +kernel
theorem dX5_mateSet_2 : decode cX5_mateSet 2 = .ok (.iconst 0, 1) := by decide +kernel
theorem dX5_mateSet_3 : decode cX5_mateSet 3 = .ok (.istore_n 3, 1) := by decide +kernel
theorem dX5_mateSet_4 : decode cX5_mateSet 4 = .ok (.iload_n 3, 1) := by decide +kernel
theorem dX5_mateSet_5 : decode cX5_mateSet 5 = .ok (.aload_n 0, 1) := by decide +kernel
theorem dX5_mateSet_6 : decode cX5_mateSet 6 = .ok (.getfield 34, 3) := by decide +kernel
theorem dX5_mateSet_9 : decode cX5_mateSet 9 = .ok (.if_icmp .ge 24, 3) := by decide +kernel
theorem dX5_mateSet_12 : decode cX5_mateSet 12 = .ok (.aload_n 0, 1) := by decide +kernel
theorem dX5_mateSet_13 : decode cX5_mateSet 13 = .ok (.iload_n 1, 1) := by decide +kernel
theorem dX5_mateSet_14 : decode cX5_mateSet 14 = .ok (.iload_n 3, 1) := by decide +kernel
theorem dX5_mateSet_15 : decode cX5_mateSet 15 = .ok (.invokevirtual 174, 3) := by decide +kernel
theorem dX5_mateSet_18 : decode cX5_mateSet 18 = .ok (.ifCond .eq 9, 3) := by decide +kernel
theorem dX5_mateSet_21 : decode cX5_mateSet 21 = .ok (.iload_n 2, 1) := by decide +kernel
theorem dX5_mateSet_22 : decode cX5_mateSet 22 = .ok (.iconst 1, 1) := by decide +kernel
theorem dX5_mateSet_23 : decode cX5_mateSet 23 = .ok (.iload_n 3, 1) := by decide +kernel
theorem dX5_mateSet_24 : decode cX5_mateSet 24 = .ok (.ishl, 1) := by decide +kernel
theorem dX5_mateSet_25 : decode cX5_mateSet 25 = .ok (.ior, 1) := by decide +kernel
theorem dX5_mateSet_26 : decode cX5_mateSet 26 = .ok (.istore_n 2, 1) := by decide +kernel
theorem dX5_mateSet_27 : decode cX5_mateSet 27 = .ok (.iinc 3 1, 3) := by decide +kernel
theorem dX5_mateSet_30 : decode cX5_mateSet 30 = .ok (.goto (-26), 3) := by decide +kernel
theorem dX5_mateSet_33 : decode cX5_mateSet 33 = .ok (.iload_n 2, 1) := by decide +kernel
theorem dX5_mateSet_34 : decode cX5_mateSet 34 = .ok (.ireturn, 1) := by decide +kernel
theorem dX5_matesOf_0 : decode cX5_matesOf 0 = .ok (.aload_n 0, 1) := by decide +kernel
theorem dX5_matesOf_1 : decode cX5_matesOf 1 = .ok (.iload_n 1, 1) := by decide +kernel
theorem dX5_matesOf_2 : decode cX5_matesOf 2 = .ok (.invokevirtual 178, 3) := by decide +kernel
theorem dX5_matesOf_5 : decode cX5_matesOf 5 = .ok (.invokestatic 135, 3) := by decide +kernel
theorem dX5_matesOf_8 : decode cX5_matesOf 8 = .ok (.ireturn, 1) := by decide +kernel
theorem dX5_messOf_0 : decode cX5_messOf 0 = .ok (.iconst 1, 1) := by decide +kernel
theorem dX5_messOf_1 : decode cX5_messOf 1 = .ok (.iload_n 1, 1) := by decide +kernel
theorem dX5_messOf_2 : decode cX5_messOf 2 = .ok (.ishl, 1) := by decide +kernel
theorem dX5_messOf_3 : decode cX5_messOf 3 = .ok (.istore_n 2, 1) := by decide +kernel
theorem dX5_messOf_4 : decode cX5_messOf 4 = .ok (.iconst 1, 1) := by decide +kernel
theorem dX5_messOf_5 : decode cX5_messOf 5 = .ok (.istore_n 3, 1) := by decide +kernel
theorem dX5_messOf_6 : decode cX5_messOf 6 = .ok (.iload_n 3, 1) := by decide +kernel
theorem dX5_messOf_7 : decode cX5_messOf 7 = .ok (.aload_n 0, 1) := by decide +kernel
theorem dX5_messOf_8 : decode cX5_messOf 8 = .ok (.getfield 34, 3) := by decide +kernel
theorem dX5_messOf_11 : decode cX5_messOf 11 = .ok (.if_icmp .ge 54, 3) := by decide +kernel
theorem dX5_messOf_14 : decode cX5_messOf 14 = .ok (.iload_n 2, 1) := by decide +kernel
theorem dX5_messOf_15 : decode cX5_messOf 15 = .ok (.istore 4, 2) := by decide +kernel
theorem dX5_messOf_17 : decode cX5_messOf 17 = .ok (.iconst 0, 1) := by decide +kernel
theorem dX5_messOf_18 : decode cX5_messOf 18 = .ok (.istore 5, 2) := by decide +kernel
theorem dX5_messOf_20 : decode cX5_messOf 20 = .ok (.iload 5, 2) := by decide +kernel
theorem dX5_messOf_22 : decode cX5_messOf 22 = .ok (.aload_n 0, 1) := by decide +kernel
theorem dX5_messOf_23 : decode cX5_messOf 23 = .ok (.getfield 34, 3) := by decide +kernel
theorem dX5_messOf_26 : decode cX5_messOf 26 = .ok (.if_icmp .ge 30, 3) := by decide +kernel
theorem dX5_messOf_29 : decode cX5_messOf 29 = .ok (.iload_n 2, 1) := by decide +kernel
theorem dX5_messOf_30 : decode cX5_messOf 30 = .ok (.iload 5, 2) := by decide +kernel
theorem dX5_messOf_32 : decode cX5_messOf 32 = .ok (.ishr, 1) := by decide +kernel
theorem dX5_messOf_33 : decode cX5_messOf 33 = .ok (.iconst 1, 1) := by decide +kernel
theorem dX5_messOf_34 : decode cX5_messOf 34 = .ok (.iand, 1) := by decide +kernel
theorem dX5_messOf_35 : decode cX5_messOf 35 = .ok (.iconst 1, 1) := by decide +kernel
theorem dX5_messOf_36 : decode cX5_messOf 36 = .ok (.if_icmp .ne 14, 3) := by decide +kernel
theorem dX5_messOf_39 : decode cX5_messOf 39 = .ok (.iload 4, 2) := by decide +kernel
theorem dX5_messOf_41 : decode cX5_messOf 41 = .ok (.aload_n 0, 1) := by decide +kernel
theorem dX5_messOf_42 : decode cX5_messOf 42 = .ok (.iload 5, 2) := by decide +kernel
theorem dX5_messOf_44 : decode cX5_messOf 44 = .ok (.invokevirtual 178, 3) := by decide +kernel
theorem dX5_messOf_47 : decode cX5_messOf 47 = .ok (.ior, 1) := by decide +kernel
theorem dX5_messOf_48 : decode cX5_messOf 48 = .ok (.istore 4, 2) := by decide +kernel
theorem dX5_messOf_50 : decode cX5_messOf 50 = .ok (.iinc 5 1, 3) := by decide +kernel
theorem dX5_messOf_53 : decode cX5_messOf 53 = .ok (.goto (-33), 3) := by decide +kernel
theorem dX5_messOf_56 : decode cX5_messOf 56 = .ok (.iload 4, 2) := by decide +kernel
theorem dX5_messOf_58 : decode cX5_messOf 58 = .ok (.istore_n 2, 1) := by decide +kernel
theorem dX5_messOf_59 : decode cX5_messOf 59 = .ok (.iinc 3 1, 3) := by decide +kernel
theorem dX5_messOf_62 : decode cX5_messOf 62 = .ok (.goto (-56), 3) := by decide +kernel
theorem dX5_messOf_65 : decode cX5_messOf 65 = .ok (.iload_n 2, 1) := by decide +kernel
theorem dX5_messOf_66 : decode cX5_messOf 66 = .ok (.ireturn, 1) := by decide +kernel
theorem dX5_allMesses_0 : decode cX5_allMesses 0 = .ok (.iconst 0, 1) := by decide +kernel
theorem dX5_allMesses_1 : decode cX5_allMesses 1 = .ok (.istore_n 1, 1) := by decide +kernel
theorem dX5_allMesses_2 : decode cX5_allMesses 2 = .ok (.iconst 0, 1) := by decide +kernel
theorem dX5_allMesses_3 : decode cX5_allMesses 3 = .ok (.istore_n 2, 1) := by decide +kernel
theorem dX5_allMesses_4 : decode cX5_allMesses 4 = .ok (.iload_n 2, 1) := by decide +kernel
theorem dX5_allMesses_5 : decode cX5_allMesses 5 = .ok (.aload_n 0, 1) := by decide +kernel
theorem dX5_allMesses_6 : decode cX5_allMesses 6 = .ok (.getfield 34, 3) := by decide +kernel
theorem dX5_allMesses_9 : decode cX5_allMesses 9 = .ok (.if_icmp .ge 28, 3) := by decide +kernel
theorem dX5_allMesses_12 : decode cX5_allMesses 12 = .ok (.iconst 1, 1) := by decide +kernel
theorem dX5_allMesses_13 : decode cX5_allMesses 13 = .ok (.iload_n 2, 1) := by decide +kernel
theorem dX5_allMesses_14 : decode cX5_allMesses 14 = .ok (.ishl, 1) := by decide +kernel
theorem dX5_allMesses_15 : decode cX5_allMesses 15 = .ok (.iconst 1, 1) := by decide +kernel
theorem dX5_allMesses_16 : decode cX5_allMesses 16 = .ok (.isub, 1) := by decide +kernel
theorem dX5_allMesses_17 : decode cX5_allMesses 17 = .ok (.istore_n 3, 1) := by decide +kernel
theorem dX5_allMesses_18 : decode cX5_allMesses 18 = .ok (.aload_n 0, 1) := by decide +kernel
theorem dX5_allMesses_19 : decode cX5_allMesses 19 = .ok (.iload_n 2, 1) := by decide +kernel
theorem dX5_allMesses_20 : decode cX5_allMesses 20 = .ok (.invokevirtual 181, 3) := by decide +kernel
theorem dX5_allMesses_23 : decode cX5_allMesses 23 = .ok (.iload_n 3, 1) := by decide +kernel
theorem dX5_allMesses_24 : decode cX5_allMesses 24 = .ok (.iand, 1) := by decide +kernel
theorem dX5_allMesses_25 : decode cX5_allMesses 25 = .ok (.ifCond .ne 6, 3) := by decide +kernel
theorem dX5_allMesses_28 : decode cX5_allMesses 28 = .ok (.iinc 1 1, 3) := by decide +kernel
theorem dX5_allMesses_31 : decode cX5_allMesses 31 = .ok (.iinc 2 1, 3) := by decide +kernel
theorem dX5_allMesses_34 : decode cX5_allMesses 34 = .ok (.goto (-30), 3) := by decide +kernel
theorem dX5_allMesses_37 : decode cX5_allMesses 37 = .ok (.iload_n 1, 1) := by decide +kernel
theorem dX5_allMesses_38 : decode cX5_allMesses 38 = .ok (.ireturn, 1) := by decide +kernel
theorem dX5_sailorsIn_0 : decode cX5_sailorsIn 0 = .ok (.iconst 0, 1) := by decide +kernel
theorem dX5_sailorsIn_1 : decode cX5_sailorsIn 1 = .ok (.istore_n 2, 1) := by decide +kernel
theorem dX5_sailorsIn_2 : decode cX5_sailorsIn 2 = .ok (.iconst 0, 1) := by decide +kernel
theorem dX5_sailorsIn_3 : decode cX5_sailorsIn 3 = .ok (.istore_n 3, 1) := by decide +kernel
theorem dX5_sailorsIn_4 : decode cX5_sailorsIn 4 = .ok (.iload_n 3, 1) := by decide +kernel
theorem dX5_sailorsIn_5 : decode cX5_sailorsIn 5 = .ok (.aload_n 0, 1) := by decide +kernel
theorem dX5_sailorsIn_6 : decode cX5_sailorsIn 6 = .ok (.getfield 34, 3) := by decide +kernel
theorem dX5_sailorsIn_9 : decode cX5_sailorsIn 9 = .ok (.if_icmp .ge 22, 3) := by decide +kernel
theorem dX5_sailorsIn_12 : decode cX5_sailorsIn 12 = .ok (.aload_n 0, 1) := by decide +kernel
theorem dX5_sailorsIn_13 : decode cX5_sailorsIn 13 = .ok (.getfield 18, 3) := by decide +kernel
theorem dX5_sailorsIn_16 : decode cX5_sailorsIn 16 = .ok (.iload_n 3, 1) := by decide +kernel
theorem dX5_sailorsIn_17 : decode cX5_sailorsIn 17 = .ok (.iaload, 1) := by decide +kernel
theorem dX5_sailorsIn_18 : decode cX5_sailorsIn 18 = .ok (.iload_n 1, 1) := by decide +kernel
theorem dX5_sailorsIn_19 : decode cX5_sailorsIn 19 = .ok (.if_icmp .ne 6, 3) := by decide +kernel
theorem dX5_sailorsIn_22 : decode cX5_sailorsIn 22 = .ok (.iinc 2 1, 3) := by decide +kernel
theorem dX5_sailorsIn_25 : decode cX5_sailorsIn 25 = .ok (.iinc 3 1, 3) := by decide +kernel
theorem dX5_sailorsIn_28 : decode cX5_sailorsIn 28 = .ok (.goto (-24), 3) := by decide +kernel
theorem dX5_sailorsIn_31 : decode cX5_sailorsIn 31 = .ok (.iload_n 2, 1) := by decide +kernel
theorem dX5_sailorsIn_32 : decode cX5_sailorsIn 32 = .ok (.ireturn, 1) := by decide +kernel
theorem dX5_watchCheer_0 : decode cX5_watchCheer 0 = .ok (.iconst 0, 1) := by decide +kernel
theorem dX5_watchCheer_1 : decode cX5_watchCheer 1 = .ok (.istore_n 2, 1) := by decide +kernel
theorem dX5_watchCheer_2 : decode cX5_watchCheer 2 = .ok (.iconst 0, 1) := by decide +kernel
theorem dX5_watchCheer_3 : decode cX5_watchCheer 3 = .ok (.istore_n 3, 1) := by decide +kernel
theorem dX5_watchCheer_4 : decode cX5_watchCheer 4 = .ok (.iload_n 3, 1) := by decide +kernel
theorem dX5_watchCheer_5 : decode cX5_watchCheer 5 = .ok (.aload_n 0, 1) := by decide +kernel
theorem dX5_watchCheer_6 : decode cX5_watchCheer 6 = .ok (.getfield 34, 3) := by decide +kernel
theorem dX5_watchCheer_9 : decode cX5_watchCheer 9 = .ok (.if_icmp .ge 31, 3) := by decide +kernel
theorem dX5_watchCheer_12 : decode cX5_watchCheer 12 = .ok (.aload_n 0, 1) := by decide +kernel
theorem dX5_watchCheer_13 : decode cX5_watchCheer 13 = .ok (.getfield 18, 3) := by decide +kernel
theorem dX5_watchCheer_16 : decode cX5_watchCheer 16 = .ok (.iload_n 3, 1) := by decide +kernel
theorem dX5_watchCheer_17 : decode cX5_watchCheer 17 = .ok (.iaload, 1) := by decide +kernel
theorem dX5_watchCheer_18 : decode cX5_watchCheer 18 = .ok (.iload_n 1, 1) := by decide +kernel
theorem dX5_watchCheer_19 : decode cX5_watchCheer 19 = .ok (.if_icmp .ne 15, 3) := by decide +kernel
theorem dX5_watchCheer_22 : decode cX5_watchCheer 22 = .ok (.iload_n 2, 1) := by decide +kernel
theorem dX5_watchCheer_23 : decode cX5_watchCheer 23 = .ok (.aload_n 0, 1) := by decide +kernel
theorem dX5_watchCheer_24 : decode cX5_watchCheer 24 = .ok (.getfield 9, 3) := by decide +kernel
theorem dX5_watchCheer_27 : decode cX5_watchCheer 27 = .ok (.iload_n 3, 1) := by decide +kernel
theorem dX5_watchCheer_28 : decode cX5_watchCheer 28 = .ok (.iaload, 1) := by decide +kernel
theorem dX5_watchCheer_29 : decode cX5_watchCheer 29 = .ok (.invokestatic 148, 3) := by decide +kernel
theorem dX5_watchCheer_32 : decode cX5_watchCheer 32 = .ok (.iadd, 1) := by decide +kernel
theorem dX5_watchCheer_33 : decode cX5_watchCheer 33 = .ok (.istore_n 2, 1) := by decide +kernel
theorem dX5_watchCheer_34 : decode cX5_watchCheer 34 = .ok (.iinc 3 1, 3) := by decide +kernel
theorem dX5_watchCheer_37 : decode cX5_watchCheer 37 = .ok (.goto (-33), 3) := by decide +kernel
theorem dX5_watchCheer_40 : decode cX5_watchCheer 40 = .ok (.iload_n 2, 1) := by decide +kernel
theorem dX5_watchCheer_41 : decode cX5_watchCheer 41 = .ok (.ireturn, 1) := by decide +kernel
theorem dX5_watchDread_0 : decode cX5_watchDread 0 = .ok (.iconst 0, 1) := by decide +kernel
theorem dX5_watchDread_1 : decode cX5_watchDread 1 = .ok (.istore_n 2, 1) := by decide +kernel
theorem dX5_watchDread_2 : decode cX5_watchDread 2 = .ok (.iconst 0, 1) := by decide +kernel
theorem dX5_watchDread_3 : decode cX5_watchDread 3 = .ok (.istore_n 3, 1) := by decide +kernel
theorem dX5_watchDread_4 : decode cX5_watchDread 4 = .ok (.iload_n 3, 1) := by decide +kernel
theorem dX5_watchDread_5 : decode cX5_watchDread 5 = .ok (.aload_n 0, 1) := by decide +kernel
theorem dX5_watchDread_6 : decode cX5_watchDread 6 = .ok (.getfield 34, 3) := by decide +kernel
theorem dX5_watchDread_9 : decode cX5_watchDread 9 = .ok (.if_icmp .ge 31, 3) := by decide +kernel
theorem dX5_watchDread_12 : decode cX5_watchDread 12 = .ok (.aload_n 0, 1) := by decide +kernel
theorem dX5_watchDread_13 : decode cX5_watchDread 13 = .ok (.getfield 18, 3) := by decide +kernel
theorem dX5_watchDread_16 : decode cX5_watchDread 16 = .ok (.iload_n 3, 1) := by decide +kernel
theorem dX5_watchDread_17 : decode cX5_watchDread 17 = .ok (.iaload, 1) := by decide +kernel
theorem dX5_watchDread_18 : decode cX5_watchDread 18 = .ok (.iload_n 1, 1) := by decide +kernel
theorem dX5_watchDread_19 : decode cX5_watchDread 19 = .ok (.if_icmp .ne 15, 3) := by decide +kernel
theorem dX5_watchDread_22 : decode cX5_watchDread 22 = .ok (.iload_n 2, 1) := by decide +kernel
theorem dX5_watchDread_23 : decode cX5_watchDread 23 = .ok (.aload_n 0, 1) := by decide +kernel
theorem dX5_watchDread_24 : decode cX5_watchDread 24 = .ok (.getfield 9, 3) := by decide +kernel
theorem dX5_watchDread_27 : decode cX5_watchDread 27 = .ok (.iload_n 3, 1) := by decide +kernel
theorem dX5_watchDread_28 : decode cX5_watchDread 28 = .ok (.iaload, 1) := by decide +kernel
theorem dX5_watchDread_29 : decode cX5_watchDread 29 = .ok (.invokestatic 151, 3) := by decide +kernel
theorem dX5_watchDread_32 : decode cX5_watchDread 32 = .ok (.iadd, 1) := by decide +kernel
theorem dX5_watchDread_33 : decode cX5_watchDread 33 = .ok (.istore_n 2, 1) := by decide +kernel
theorem dX5_watchDread_34 : decode cX5_watchDread 34 = .ok (.iinc 3 1, 3) := by decide +kernel
theorem dX5_watchDread_37 : decode cX5_watchDread 37 = .ok (.goto (-33), 3) := by decide +kernel
theorem dX5_watchDread_40 : decode cX5_watchDread 40 = .ok (.iload_n 2, 1) := by decide +kernel
theorem dX5_watchDread_41 : decode cX5_watchDread 41 = .ok (.ireturn, 1) := by decide +kernel
theorem dX5_allCups_0 : decode cX5_allCups 0 = .ok (.iconst 0, 1) := by decide +kernel
theorem dX5_allCups_1 : decode cX5_allCups 1 = .ok (.istore_n 1, 1) := by decide +kernel
theorem dX5_allCups_2 : decode cX5_allCups 2 = .ok (.iconst 0, 1) := by decide +kernel
theorem dX5_allCups_3 : decode cX5_allCups 3 = .ok (.istore_n 2, 1) := by decide +kernel
theorem dX5_allCups_4 : decode cX5_allCups 4 = .ok (.iload_n 2, 1) := by decide +kernel
theorem dX5_allCups_5 : decode cX5_allCups 5 = .ok (.aload_n 0, 1) := by decide +kernel
theorem dX5_allCups_6 : decode cX5_allCups 6 = .ok (.getfield 34, 3) := by decide +kernel
theorem dX5_allCups_9 : decode cX5_allCups 9 = .ok (.if_icmp .ge 18, 3) := by decide +kernel
theorem dX5_allCups_12 : decode cX5_allCups 12 = .ok (.iload_n 1, 1) := by decide +kernel
theorem dX5_allCups_13 : decode cX5_allCups 13 = .ok (.aload_n 0, 1) := by decide +kernel
theorem dX5_allCups_14 : decode cX5_allCups 14 = .ok (.getfield 15, 3) := by decide +kernel
theorem dX5_allCups_17 : decode cX5_allCups 17 = .ok (.iload_n 2, 1) := by decide +kernel
theorem dX5_allCups_18 : decode cX5_allCups 18 = .ok (.iaload, 1) := by decide +kernel
theorem dX5_allCups_19 : decode cX5_allCups 19 = .ok (.iadd, 1) := by decide +kernel
theorem dX5_allCups_20 : decode cX5_allCups 20 = .ok (.istore_n 1, 1) := by decide +kernel
theorem dX5_allCups_21 : decode cX5_allCups 21 = .ok (.iinc 2 1, 3) := by decide +kernel
theorem dX5_allCups_24 : decode cX5_allCups 24 = .ok (.goto (-20), 3) := by decide +kernel
theorem dX5_allCups_27 : decode cX5_allCups 27 = .ok (.iload_n 1, 1) := by decide +kernel
theorem dX5_allCups_28 : decode cX5_allCups 28 = .ok (.ireturn, 1) := by decide +kernel
theorem dX5_allAngles_0 : decode cX5_allAngles 0 = .ok (.iconst 0, 1) := by decide +kernel
theorem dX5_allAngles_1 : decode cX5_allAngles 1 = .ok (.istore_n 1, 1) := by decide +kernel
theorem dX5_allAngles_2 : decode cX5_allAngles 2 = .ok (.iconst 0, 1) := by decide +kernel
theorem dX5_allAngles_3 : decode cX5_allAngles 3 = .ok (.istore_n 2, 1) := by decide +kernel
theorem dX5_allAngles_4 : decode cX5_allAngles 4 = .ok (.iload_n 2, 1) := by decide +kernel
theorem dX5_allAngles_5 : decode cX5_allAngles 5 = .ok (.aload_n 0, 1) := by decide +kernel
theorem dX5_allAngles_6 : decode cX5_allAngles 6 = .ok (.getfield 34, 3) := by decide +kernel
theorem dX5_allAngles_9 : decode cX5_allAngles 9 = .ok (.if_icmp .ge 18, 3) := by decide +kernel
theorem dX5_allAngles_12 : decode cX5_allAngles 12 = .ok (.iload_n 1, 1) := by decide +kernel
theorem dX5_allAngles_13 : decode cX5_allAngles 13 = .ok (.aload_n 0, 1) := by decide +kernel
theorem dX5_allAngles_14 : decode cX5_allAngles 14 = .ok (.iload_n 2, 1) := by decide +kernel
theorem dX5_allAngles_15 : decode cX5_allAngles 15 = .ok (.iconst 0, 1) := by decide +kernel
theorem dX5_allAngles_16 : decode cX5_allAngles 16 = .ok (.invokevirtual 154, 3) := by decide +kernel
theorem dX5_allAngles_19 : decode cX5_allAngles 19 = .ok (.iadd, 1) := by decide +kernel
theorem dX5_allAngles_20 : decode cX5_allAngles 20 = .ok (.istore_n 1, 1) := by decide +kernel
theorem dX5_allAngles_21 : decode cX5_allAngles 21 = .ok (.iinc 2 1, 3) := by decide +kernel
theorem dX5_allAngles_24 : decode cX5_allAngles 24 = .ok (.goto (-20), 3) := by decide +kernel
theorem dX5_allAngles_27 : decode cX5_allAngles 27 = .ok (.iload_n 1, 1) := by decide +kernel
theorem dX5_allAngles_28 : decode cX5_allAngles 28 = .ok (.ireturn, 1) := by decide +kernel
theorem dX5_isHigher_0 : decode cX5_isHigher 0 = .ok (.aload_n 0, 1) := by decide +kernel
theorem dX5_isHigher_1 : decode cX5_isHigher 1 = .ok (.iload_n 1, 1) := by decide +kernel
theorem dX5_isHigher_2 : decode cX5_isHigher 2 = .ok (.iconst 0, 1) := by decide +kernel
theorem dX5_isHigher_3 : decode cX5_isHigher 3 = .ok (.invokevirtual 154, 3) := by decide +kernel
theorem dX5_isHigher_6 : decode cX5_isHigher 6 = .ok (.istore_n 3, 1) := by decide +kernel
theorem dX5_isHigher_7 : decode cX5_isHigher 7 = .ok (.aload_n 0, 1) := by decide +kernel
theorem dX5_isHigher_8 : decode cX5_isHigher 8 = .ok (.iload_n 2, 1) := by decide +kernel
theorem dX5_isHigher_9 : decode cX5_isHigher 9 = .ok (.iconst 0, 1) := by decide +kernel
theorem dX5_isHigher_10 : decode cX5_isHigher 10 = .ok (.invokevirtual 154, 3) := by decide +kernel
theorem dX5_isHigher_13 : decode cX5_isHigher 13 = .ok (.istore 4, 2) := by decide +kernel
theorem dX5_isHigher_15 : decode cX5_isHigher 15 = .ok (.iload_n 3, 1) := by decide +kernel
theorem dX5_isHigher_16 : decode cX5_isHigher 16 = .ok (.iload 4, 2) := by decide +kernel
theorem dX5_isHigher_18 : decode cX5_isHigher 18 = .ok (.if_icmp .eq 15, 3) := by decide +kernel
theorem dX5_isHigher_21 : decode cX5_isHigher 21 = .ok (.iload_n 3, 1) := by decide +kernel
theorem dX5_isHigher_22 : decode cX5_isHigher 22 = .ok (.iload 4, 2) := by decide +kernel
theorem dX5_isHigher_24 : decode cX5_isHigher 24 = .ok (.if_icmp .le 7, 3) := by decide +kernel
theorem dX5_isHigher_27 : decode cX5_isHigher 27 = .ok (.iconst 1, 1) := by decide +kernel
theorem dX5_isHigher_28 : decode cX5_isHigher 28 = .ok (.goto 4, 3) := by decide +kernel
theorem dX5_isHigher_31 : decode cX5_isHigher 31 = .ok (.iconst 0, 1) := by decide +kernel
theorem dX5_isHigher_32 : decode cX5_isHigher 32 = .ok (.ireturn, 1) := by decide +kernel
theorem dX5_isHigher_33 : decode cX5_isHigher 33 = .ok (.aload_n 0, 1) := by decide +kernel
theorem dX5_isHigher_34 : decode cX5_isHigher 34 = .ok (.getfield 9, 3) := by decide +kernel
theorem dX5_isHigher_37 : decode cX5_isHigher 37 = .ok (.iload_n 1, 1) := by decide +kernel
theorem dX5_isHigher_38 : decode cX5_isHigher 38 = .ok (.iaload, 1) := by decide +kernel
theorem dX5_isHigher_39 : decode cX5_isHigher 39 = .ok (.invokestatic 148, 3) := by decide +kernel
theorem dX5_isHigher_42 : decode cX5_isHigher 42 = .ok (.istore 5, 2) := by decide +kernel
theorem dX5_isHigher_44 : decode cX5_isHigher 44 = .ok (.aload_n 0, 1) := by decide +kernel
theorem dX5_isHigher_45 : decode cX5_isHigher 45 = .ok (.getfield 9, 3) := by decide +kernel
theorem dX5_isHigher_48 : decode cX5_isHigher 48 = .ok (.iload_n 2, 1) := by decide +kernel
theorem dX5_isHigher_49 : decode cX5_isHigher 49 = .ok (.iaload, 1) := by decide +kernel
theorem dX5_isHigher_50 : decode cX5_isHigher 50 = .ok (.invokestatic 148, 3) := by decide +kernel
theorem dX5_isHigher_53 : decode cX5_isHigher 53 = .ok (.istore 6, 2) := by decide +kernel
theorem dX5_isHigher_55 : decode cX5_isHigher 55 = .ok (.iload 5, 2) := by decide +kernel
theorem dX5_isHigher_57 : decode cX5_isHigher 57 = .ok (.iload 6, 2) := by decide +kernel
theorem dX5_isHigher_59 : decode cX5_isHigher 59 = .ok (.if_icmp .eq 18, 3) := by decide +kernel
theorem dX5_isHigher_62 : decode cX5_isHigher 62 = .ok (.iload 5, 2) := by decide +kernel
theorem dX5_isHigher_64 : decode cX5_isHigher 64 = .ok (.iload 6, 2) := by decide +kernel
theorem dX5_isHigher_66 : decode cX5_isHigher 66 = .ok (.if_icmp .le 7, 3) := by decide +kernel
theorem dX5_isHigher_69 : decode cX5_isHigher 69 = .ok (.iconst 1, 1) := by decide +kernel
theorem dX5_isHigher_70 : decode cX5_isHigher 70 = .ok (.goto 17, 3) := by decide +kernel
theorem dX5_isHigher_73 : decode cX5_isHigher 73 = .ok (.iconst 0, 1) := by decide +kernel
theorem dX5_isHigher_74 : decode cX5_isHigher 74 = .ok (.goto 13, 3) := by decide +kernel
theorem dX5_isHigher_77 : decode cX5_isHigher 77 = .ok (.iload_n 1, 1) := by decide +kernel
theorem dX5_isHigher_78 : decode cX5_isHigher 78 = .ok (.iload_n 2, 1) := by decide +kernel
theorem dX5_isHigher_79 : decode cX5_isHigher 79 = .ok (.if_icmp .ge 7, 3) := by decide +kernel
theorem dX5_isHigher_82 : decode cX5_isHigher 82 = .ok (.iconst 1, 1) := by decide +kernel
theorem dX5_isHigher_83 : decode cX5_isHigher 83 = .ok (.goto 4, 3) := by decide +kernel
theorem dX5_isHigher_86 : decode cX5_isHigher 86 = .ok (.iconst 0, 1) := by decide +kernel
theorem dX5_isHigher_87 : decode cX5_isHigher 87 = .ok (.ireturn, 1) := by decide +kernel
theorem dX5_placeOfSailor_0 : decode cX5_placeOfSailor 0 = .ok (.iconst 0, 1) := by decide +kernel
theorem dX5_placeOfSailor_1 : decode cX5_placeOfSailor 1 = .ok (.istore_n 2, 1) := by decide +kernel
theorem dX5_placeOfSailor_2 : decode cX5_placeOfSailor 2 = .ok (.iconst 0, 1) := by decide +kernel
theorem dX5_placeOfSailor_3 : decode cX5_placeOfSailor 3 = .ok (.istore_n 3, 1) := by decide +kernel
theorem dX5_placeOfSailor_4 : decode cX5_placeOfSailor 4 = .ok (.iload_n 3, 1) := by decide +kernel
theorem dX5_placeOfSailor_5 : decode cX5_placeOfSailor 5 = .ok (.aload_n 0, 1) := by decide +kernel
theorem dX5_placeOfSailor_6 : decode cX5_placeOfSailor 6 = .ok (.getfield 34, 3) := by decide +kernel
theorem dX5_placeOfSailor_9 : decode cX5_placeOfSailor 9 = .ok (.if_icmp .ge 21, 3) := by decide +kernel
theorem dX5_placeOfSailor_12 : decode cX5_placeOfSailor 12 = .ok (.aload_n 0, 1) := by decide +kernel
theorem dX5_placeOfSailor_13 : decode cX5_placeOfSailor 13 = .ok (.iload_n 3, 1) := by decide +kernel
theorem dX5_placeOfSailor_14 : decode cX5_placeOfSailor 14 = .ok (.iload_n 1, 1) := by decide +kernel
theorem dX5_placeOfSailor_15 : decode cX5_placeOfSailor 15 = .ok (.invokevirtual 184, 3) := by decide +kernel
theorem dX5_placeOfSailor_18 : decode cX5_placeOfSailor 18 = .ok (.ifCond .eq 6, 3) := by decide +kernel
theorem dX5_placeOfSailor_21 : decode cX5_placeOfSailor 21 = .ok (.iinc 2 1, 3) := by decide +kernel
theorem dX5_placeOfSailor_24 : decode cX5_placeOfSailor 24 = .ok (.iinc 3 1, 3) := by decide +kernel
theorem dX5_placeOfSailor_27 : decode cX5_placeOfSailor 27 = .ok (.goto (-23), 3) := by decide +kernel
theorem dX5_placeOfSailor_30 : decode cX5_placeOfSailor 30 = .ok (.iload_n 2, 1) := by decide +kernel
theorem dX5_placeOfSailor_31 : decode cX5_placeOfSailor 31 = .ok (.ireturn, 1) := by decide +kernel
theorem dX5_isSightHigher_0 : decode cX5_isSightHigher 0 = .ok (.aload_n 0, 1) := by decide +kernel
theorem dX5_isSightHigher_1 : decode cX5_isSightHigher 1 = .ok (.getfield 30, 3) := by decide +kernel
theorem dX5_isSightHigher_4 : decode cX5_isSightHigher 4 = .ok (.iload_n 1, 1) := by decide +kernel
theorem dX5_isSightHigher_5 : decode cX5_isSightHigher 5 = .ok (.faload, 1) := by decide +kernel
theorem dX5_isSightHigher_6 : decode cX5_isSightHigher 6 = .ok (.aload_n 0, 1) := by decide +kernel
theorem dX5_isSightHigher_7 : decode cX5_isSightHigher 7 = .ok (.getfield 30, 3) := by decide +kernel
theorem dX5_isSightHigher_10 : decode cX5_isSightHigher 10 = .ok (.iload_n 2, 1) := by decide +kernel
theorem dX5_isSightHigher_11 : decode cX5_isSightHigher 11 = .ok (.faload, 1) := by decide +kernel
theorem dX5_isSightHigher_12 : decode cX5_isSightHigher 12 = .ok (.fcmp .l, 1) := by decide +kernel
theorem dX5_isSightHigher_13 : decode cX5_isSightHigher 13 = .ok (.ifCond .eq 27, 3) := by decide +kernel
theorem dX5_isSightHigher_16 : decode cX5_isSightHigher 16 = .ok (.aload_n 0, 1) := by decide +kernel
theorem dX5_isSightHigher_17 : decode cX5_isSightHigher 17 = .ok (.getfield 30, 3) := by decide +kernel
theorem dX5_isSightHigher_20 : decode cX5_isSightHigher 20 = .ok (.iload_n 1, 1) := by decide +kernel
theorem dX5_isSightHigher_21 : decode cX5_isSightHigher 21 = .ok (.faload, 1) := by decide +kernel
theorem dX5_isSightHigher_22 : decode cX5_isSightHigher 22 = .ok (.aload_n 0, 1) := by decide +kernel
theorem dX5_isSightHigher_23 : decode cX5_isSightHigher 23 = .ok (.getfield 30, 3) := by decide +kernel
theorem dX5_isSightHigher_26 : decode cX5_isSightHigher 26 = .ok (.iload_n 2, 1) := by decide +kernel
theorem dX5_isSightHigher_27 : decode cX5_isSightHigher 27 = .ok (.faload, 1) := by decide +kernel
theorem dX5_isSightHigher_28 : decode cX5_isSightHigher 28 = .ok (.fcmp .l, 1) := by decide +kernel
theorem dX5_isSightHigher_29 : decode cX5_isSightHigher 29 = .ok (.ifCond .le 7, 3) := by decide +kernel
theorem dX5_isSightHigher_32 : decode cX5_isSightHigher 32 = .ok (.iconst 1, 1) := by decide +kernel
theorem dX5_isSightHigher_33 : decode cX5_isSightHigher 33 = .ok (.goto 17, 3) := by decide +kernel
theorem dX5_isSightHigher_36 : decode cX5_isSightHigher 36 = .ok (.iconst 0, 1) := by decide +kernel
theorem dX5_isSightHigher_37 : decode cX5_isSightHigher 37 = .ok (.goto 13, 3) := by decide +kernel
theorem dX5_isSightHigher_40 : decode cX5_isSightHigher 40 = .ok (.iload_n 1, 1) := by decide +kernel
theorem dX5_isSightHigher_41 : decode cX5_isSightHigher 41 = .ok (.iload_n 2, 1) := by decide +kernel
theorem dX5_isSightHigher_42 : decode cX5_isSightHigher 42 = .ok (.if_icmp .ge 7, 3) := by decide +kernel
theorem dX5_isSightHigher_45 : decode cX5_isSightHigher 45 = .ok (.iconst 1, 1) := by decide +kernel
theorem dX5_isSightHigher_46 : decode cX5_isSightHigher 46 = .ok (.goto 4, 3) := by decide +kernel
theorem dX5_isSightHigher_49 : decode cX5_isSightHigher 49 = .ok (.iconst 0, 1) := by decide +kernel
theorem dX5_isSightHigher_50 : decode cX5_isSightHigher 50 = .ok (.ireturn, 1) := by decide +kernel
theorem dX5_placeOfSight_0 : decode cX5_placeOfSight 0 = .ok (.iconst 0, 1) := by decide +kernel
theorem dX5_placeOfSight_1 : decode cX5_placeOfSight 1 = .ok (.istore_n 2, 1) := by decide +kernel
theorem dX5_placeOfSight_2 : decode cX5_placeOfSight 2 = .ok (.iconst 0, 1) := by decide +kernel
theorem dX5_placeOfSight_3 : decode cX5_placeOfSight 3 = .ok (.istore_n 3, 1) := by decide +kernel
theorem dX5_placeOfSight_4 : decode cX5_placeOfSight 4 = .ok (.iload_n 3, 1) := by decide +kernel
theorem dX5_placeOfSight_5 : decode cX5_placeOfSight 5 = .ok (.aload_n 0, 1) := by decide +kernel
theorem dX5_placeOfSight_6 : decode cX5_placeOfSight 6 = .ok (.getfield 50, 3) := by decide +kernel
theorem dX5_placeOfSight_9 : decode cX5_placeOfSight 9 = .ok (.if_icmp .ge 21, 3) := by decide +kernel
theorem dX5_placeOfSight_12 : decode cX5_placeOfSight 12 = .ok (.aload_n 0, 1) := by decide +kernel
theorem dX5_placeOfSight_13 : decode cX5_placeOfSight 13 = .ok (.iload_n 3, 1) := by decide +kernel
theorem dX5_placeOfSight_14 : decode cX5_placeOfSight 14 = .ok (.iload_n 1, 1) := by decide +kernel
theorem dX5_placeOfSight_15 : decode cX5_placeOfSight 15 = .ok (.invokevirtual 187, 3) := by decide +kernel
theorem dX5_placeOfSight_18 : decode cX5_placeOfSight 18 = .ok (.ifCond .eq 6, 3) := by decide +kernel
theorem dX5_placeOfSight_21 : decode cX5_placeOfSight 21 = .ok (.iinc 2 1, 3) := by decide +kernel
theorem dX5_placeOfSight_24 : decode cX5_placeOfSight 24 = .ok (.iinc 3 1, 3) := by decide +kernel
theorem dX5_placeOfSight_27 : decode cX5_placeOfSight 27 = .ok (.goto (-23), 3) := by decide +kernel
theorem dX5_placeOfSight_30 : decode cX5_placeOfSight 30 = .ok (.iload_n 2, 1) := by decide +kernel
theorem dX5_placeOfSight_31 : decode cX5_placeOfSight 31 = .ok (.ireturn, 1) := by decide +kernel
theorem dX5_isUnlikeAlike_0 : decode cX5_isUnlikeAlike 0 = .ok (.iconst 0, 1) := by decide +kernel
theorem dX5_isUnlikeAlike_1 : decode cX5_isUnlikeAlike 1 = .ok (.istore_n 1, 1) := by decide +kernel
theorem dX5_isUnlikeAlike_2 : decode cX5_isUnlikeAlike 2 = .ok (.iload_n 1, 1) := by decide +kernel
theorem dX5_isUnlikeAlike_3 : decode cX5_isUnlikeAlike 3 = .ok (.aload_n 0, 1) := by decide +kernel
theorem dX5_isUnlikeAlike_4 : decode cX5_isUnlikeAlike 4 = .ok (.getfield 34, 3) := by decide +kernel
theorem dX5_isUnlikeAlike_7 : decode cX5_isUnlikeAlike 7 = .ok (.if_icmp .ge 60, 3) := by decide +kernel
theorem dX5_isUnlikeAlike_10 : decode cX5_isUnlikeAlike 10 = .ok (.iconst 0, 1) := by decide +kernel
theorem dX5_isUnlikeAlike_11 : decode cX5_isUnlikeAlike 11 = .ok (.istore_n 2, 1) := by decide +kernel
theorem dX5_isUnlikeAlike_12 : decode cX5_isUnlikeAlike 12 = .ok (.iload_n 2, 1) := by decide +kernel
theorem dX5_isUnlikeAlike_13 : decode cX5_isUnlikeAlike 13 = .ok (.aload_n 0, 1) := by decide +kernel
theorem dX5_isUnlikeAlike_14 : decode cX5_isUnlikeAlike 14 = .ok (.getfield 34, 3) := by decide +kernel
theorem dX5_isUnlikeAlike_17 : decode cX5_isUnlikeAlike 17 = .ok (.if_icmp .ge 44, 3) := by decide +kernel
theorem dX5_isUnlikeAlike_20 : decode cX5_isUnlikeAlike 20 = .ok (.aload_n 0, 1) := by decide +kernel
theorem dX5_isUnlikeAlike_21 : decode cX5_isUnlikeAlike 21 = .ok (.getfield 9, 3) := by decide +kernel
theorem dX5_isUnlikeAlike_24 : decode cX5_isUnlikeAlike 24 = .ok (.iload_n 1, 1) := by decide +kernel
theorem dX5_isUnlikeAlike_25 : decode cX5_isUnlikeAlike 25 = .ok (.iaload, 1) := by decide +kernel
theorem dX5_isUnlikeAlike_26 : decode cX5_isUnlikeAlike 26 = .ok (.aload_n 0, 1) := by decide +kernel
theorem dX5_isUnlikeAlike_27 : decode cX5_isUnlikeAlike 27 = .ok (.getfield 9, 3) := by decide +kernel
theorem dX5_isUnlikeAlike_30 : decode cX5_isUnlikeAlike 30 = .ok (.iload_n 2, 1) := by decide +kernel
theorem dX5_isUnlikeAlike_31 : decode cX5_isUnlikeAlike 31 = .ok (.iaload, 1) := by decide +kernel
theorem dX5_isUnlikeAlike_32 : decode cX5_isUnlikeAlike 32 = .ok (.invokestatic 168, 3) := by decide +kernel
theorem dX5_isUnlikeAlike_35 : decode cX5_isUnlikeAlike 35 = .ok (.aload_n 0, 1) := by decide +kernel
theorem dX5_isUnlikeAlike_36 : decode cX5_isUnlikeAlike 36 = .ok (.getfield 9, 3) := by decide +kernel
theorem dX5_isUnlikeAlike_39 : decode cX5_isUnlikeAlike 39 = .ok (.iload_n 1, 1) := by decide +kernel
theorem dX5_isUnlikeAlike_40 : decode cX5_isUnlikeAlike 40 = .ok (.iaload, 1) := by decide +kernel
theorem dX5_isUnlikeAlike_41 : decode cX5_isUnlikeAlike 41 = .ok (.aload_n 0, 1) := by decide +kernel
theorem dX5_isUnlikeAlike_42 : decode cX5_isUnlikeAlike 42 = .ok (.getfield 9, 3) := by decide +kernel
theorem dX5_isUnlikeAlike_45 : decode cX5_isUnlikeAlike 45 = .ok (.iload_n 2, 1) := by decide +kernel
theorem dX5_isUnlikeAlike_46 : decode cX5_isUnlikeAlike 46 = .ok (.iaload, 1) := by decide +kernel
theorem dX5_isUnlikeAlike_47 : decode cX5_isUnlikeAlike 47 = .ok (.invokestatic 171, 3) := by decide +kernel
theorem dX5_isUnlikeAlike_50 : decode cX5_isUnlikeAlike 50 = .ok (.if_icmp .eq 5, 3) := by decide +kernel
theorem dX5_isUnlikeAlike_53 : decode cX5_isUnlikeAlike 53 = .ok (.iconst 0, 1) := by decide +kernel
theorem dX5_isUnlikeAlike_54 : decode cX5_isUnlikeAlike 54 = .ok (.ireturn, 1) := by decide +kernel
theorem dX5_isUnlikeAlike_55 : decode cX5_isUnlikeAlike 55 = .ok (.iinc 2 1, 3) := by decide +kernel
theorem dX5_isUnlikeAlike_58 : decode cX5_isUnlikeAlike 58 = .ok (.goto (-46), 3) := by decide +kernel
theorem dX5_isUnlikeAlike_61 : decode cX5_isUnlikeAlike 61 = .ok (.iinc 1 1, 3) := by decide +kernel
theorem dX5_isUnlikeAlike_64 : decode cX5_isUnlikeAlike 64 = .ok (.goto (-62), 3) := by decide +kernel
theorem dX5_isUnlikeAlike_67 : decode cX5_isUnlikeAlike 67 = .ok (.iconst 1, 1) := by decide +kernel
theorem dX5_isUnlikeAlike_68 : decode cX5_isUnlikeAlike 68 = .ok (.ireturn, 1) := by decide +kernel
theorem dX5_isFixAlike_0 : decode cX5_isFixAlike 0 = .ok (.iconst 0, 1) := by decide +kernel
theorem dX5_isFixAlike_1 : decode cX5_isFixAlike 1 = .ok (.istore_n 1, 1) := by decide +kernel
theorem dX5_isFixAlike_2 : decode cX5_isFixAlike 2 = .ok (.iload_n 1, 1) := by decide +kernel
theorem dX5_isFixAlike_3 : decode cX5_isFixAlike 3 = .ok (.aload_n 0, 1) := by decide +kernel
theorem dX5_isFixAlike_4 : decode cX5_isFixAlike 4 = .ok (.getfield 34, 3) := by decide +kernel
theorem dX5_isFixAlike_7 : decode cX5_isFixAlike 7 = .ok (.if_icmp .ge 33, 3) := by decide +kernel
theorem dX5_isFixAlike_10 : decode cX5_isFixAlike 10 = .ok (.aload_n 0, 1) := by decide +kernel
theorem dX5_isFixAlike_11 : decode cX5_isFixAlike 11 = .ok (.iload_n 1, 1) := by decide +kernel
theorem dX5_isFixAlike_12 : decode cX5_isFixAlike 12 = .ok (.invokevirtual 190, 3) := by decide +kernel
theorem dX5_isFixAlike_15 : decode cX5_isFixAlike 15 = .ok (.ifCond .eq 19, 3) := by decide +kernel
theorem dX5_isFixAlike_18 : decode cX5_isFixAlike 18 = .ok (.aload_n 0, 1) := by decide +kernel
theorem dX5_isFixAlike_19 : decode cX5_isFixAlike 19 = .ok (.iload_n 1, 1) := by decide +kernel
theorem dX5_isFixAlike_20 : decode cX5_isFixAlike 20 = .ok (.invokevirtual 193, 3) := by decide +kernel
theorem dX5_isFixAlike_23 : decode cX5_isFixAlike 23 = .ok (.aload_n 0, 1) := by decide +kernel
theorem dX5_isFixAlike_24 : decode cX5_isFixAlike 24 = .ok (.iload_n 1, 1) := by decide +kernel
theorem dX5_isFixAlike_25 : decode cX5_isFixAlike 25 = .ok (.invokevirtual 196, 3) := by decide +kernel
theorem dX5_isFixAlike_28 : decode cX5_isFixAlike 28 = .ok (.fcmp .l, 1) := by decide +kernel
theorem dX5_isFixAlike_29 : decode cX5_isFixAlike 29 = .ok (.ifCond .eq 5, 3) := by decide +kernel
theorem dX5_isFixAlike_32 : decode cX5_isFixAlike 32 = .ok (.iconst 0, 1) := by decide +kernel
theorem dX5_isFixAlike_33 : decode cX5_isFixAlike 33 = .ok (.ireturn, 1) := by decide +kernel
theorem dX5_isFixAlike_34 : decode cX5_isFixAlike 34 = .ok (.iinc 1 1, 3) := by decide +kernel
theorem dX5_isFixAlike_37 : decode cX5_isFixAlike 37 = .ok (.goto (-35), 3) := by decide +kernel
theorem dX5_isFixAlike_40 : decode cX5_isFixAlike 40 = .ok (.iconst 1, 1) := by decide +kernel
theorem dX5_isFixAlike_41 : decode cX5_isFixAlike 41 = .ok (.ireturn, 1) := by decide +kernel
theorem dX5_isLogOfCrew_0 : decode cX5_isLogOfCrew 0 = .ok (.iconst 0, 1) := by decide +kernel
theorem dX5_isLogOfCrew_1 : decode cX5_isLogOfCrew 1 = .ok (.istore_n 1, 1) := by decide +kernel
theorem dX5_isLogOfCrew_2 : decode cX5_isLogOfCrew 2 = .ok (.iload_n 1, 1) := by decide +kernel
theorem dX5_isLogOfCrew_3 : decode cX5_isLogOfCrew 3 = .ok (.aload_n 0, 1) := by decide +kernel
theorem dX5_isLogOfCrew_4 : decode cX5_isLogOfCrew 4 = .ok (.getfield 50, 3) := by decide +kernel
theorem dX5_isLogOfCrew_7 : decode cX5_isLogOfCrew 7 = .ok (.if_icmp .ge 24, 3) := by decide +kernel
theorem dX5_isLogOfCrew_10 : decode cX5_isLogOfCrew 10 = .ok (.aload_n 0, 1) := by decide +kernel
theorem dX5_isLogOfCrew_11 : decode cX5_isLogOfCrew 11 = .ok (.aload_n 0, 1) := by decide +kernel
theorem dX5_isLogOfCrew_12 : decode cX5_isLogOfCrew 12 = .ok (.getfield 24, 3) := by decide +kernel
theorem dX5_isLogOfCrew_15 : decode cX5_isLogOfCrew 15 = .ok (.iload_n 1, 1) := by decide +kernel
theorem dX5_isLogOfCrew_16 : decode cX5_isLogOfCrew 16 = .ok (.iaload, 1) := by decide +kernel
theorem dX5_isLogOfCrew_17 : decode cX5_isLogOfCrew 17 = .ok (.invokevirtual 66, 3) := by decide +kernel
theorem dX5_isLogOfCrew_20 : decode cX5_isLogOfCrew 20 = .ok (.ifCond .ne 5, 3) := by decide +kernel
theorem dX5_isLogOfCrew_23 : decode cX5_isLogOfCrew 23 = .ok (.iconst 0, 1) := by decide +kernel
theorem dX5_isLogOfCrew_24 : decode cX5_isLogOfCrew 24 = .ok (.ireturn, 1) := by decide +kernel
theorem dX5_isLogOfCrew_25 : decode cX5_isLogOfCrew 25 = .ok (.iinc 1 1, 3) := by decide +kernel
theorem dX5_isLogOfCrew_28 : decode cX5_isLogOfCrew 28 = .ok (.goto (-26), 3) := by decide +kernel
theorem dX5_isLogOfCrew_31 : decode cX5_isLogOfCrew 31 = .ok (.iconst 1, 1) := by decide +kernel
theorem dX5_isLogOfCrew_32 : decode cX5_isLogOfCrew 32 = .ok (.ireturn, 1) := by decide +kernel
theorem dX5_isRumCounted_0 : decode cX5_isRumCounted 0 = .ok (.aload_n 0, 1) := by decide +kernel
theorem dX5_isRumCounted_1 : decode cX5_isRumCounted 1 = .ok (.getfield 56, 3) := by decide +kernel
theorem dX5_isRumCounted_4 : decode cX5_isRumCounted 4 = .ok (.aload_n 0, 1) := by decide +kernel
theorem dX5_isRumCounted_5 : decode cX5_isRumCounted 5 = .ok (.invokevirtual 199, 3) := by decide +kernel
theorem dX5_isRumCounted_8 : decode cX5_isRumCounted 8 = .ok (.aload_n 0, 1) := by decide +kernel
theorem dX5_isRumCounted_9 : decode cX5_isRumCounted 9 = .ok (.getfield 59, 3) := by decide +kernel
theorem dX5_isRumCounted_12 : decode cX5_isRumCounted 12 = .ok (.iadd, 1) := by decide +kernel
theorem dX5_isRumCounted_13 : decode cX5_isRumCounted 13 = .ok (.aload_n 0, 1) := by decide +kernel
theorem dX5_isRumCounted_14 : decode cX5_isRumCounted 14 = .ok (.getfield 62, 3) := by decide +kernel
theorem dX5_isRumCounted_17 : decode cX5_isRumCounted 17 = .ok (.iadd, 1) := by decide +kernel
theorem dX5_isRumCounted_18 : decode cX5_isRumCounted 18 = .ok (.if_icmp .ne 7, 3) := by decide +kernel
theorem dX5_isRumCounted_21 : decode cX5_isRumCounted 21 = .ok (.iconst 1, 1) := by decide +kernel
theorem dX5_isRumCounted_22 : decode cX5_isRumCounted 22 = .ok (.goto 4, 3) := by decide +kernel
theorem dX5_isRumCounted_25 : decode cX5_isRumCounted 25 = .ok (.iconst 0, 1) := by decide +kernel
theorem dX5_isRumCounted_26 : decode cX5_isRumCounted 26 = .ok (.ireturn, 1) := by decide +kernel
