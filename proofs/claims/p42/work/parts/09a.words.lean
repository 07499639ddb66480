def yL_cell : MethodName := ⟨RL, "cell", "([II)I"⟩
def yL_some : MethodName := ⟨RL, "some", "(LMoodSextantLaw$Bits;I)I"⟩
def yL_anyMood : MethodName := ⟨RL, "anyMood", "(LMoodSextantLaw$Bits;)I"⟩
def yL_acts : MethodName := ⟨RL, "acts", "(LMoodSextant;ILMoodSextantLaw$Bits;)I"⟩
def yL_line : MethodName := ⟨RL, "line", "(LMoodSextant;I)Ljava/lang/String;"⟩
def yL_told : MethodName := ⟨RL, "told", "(LMoodSextant;)Ljava/lang/String;"⟩
def yL_stock : MethodName := ⟨RL, "stock", "(LMoodSextant;)I"⟩
def yL_sailors : MethodName := ⟨RL, "sailors", "(LMoodSextant;)Z"⟩
def yL_sights : MethodName := ⟨RL, "sights", "(LMoodSextant;)Z"⟩
def yL_alike : MethodName := ⟨RL, "alike", "(LMoodSextant;)Z"⟩
def yL_foretold : MethodName := ⟨RL, "foretold", "(LMoodSextant;LMoodSextantLaw$Bits;)Z"⟩
def yL_law : MethodName := ⟨RL, "law", "([I)Z"⟩
theorem tcX8_next : Cond.code yX8_next cX8_next 2 (some .int) ∈ wsL_law := wT_at 651 (by decide +kernel) (by decide +kernel)
theorem tlL_23 : Cond.methodLink RL 23 yX8_next ∈ wsL_law := wT_at 648 (by decide +kernel) (by decide +kernel)
theorem tnX8 : Cond.initialized RX8 ∈ wsL_law := wT_at 38 (by decide +kernel) (by decide +kernel)
theorem tiX8_next : Cond.instanceMethod yX8_next ∈ wsL_law := wT_at 649 (by decide +kernel) (by decide +kernel)
theorem tsX8_next : Cond.selects RX8 yX8_next yX8_next ∈ wsL_law := wT_at 650 (by decide +kernel) (by decide +kernel)
theorem tlL_29 : Cond.methodLink RL 29 yJ9_max_7cf53 ∈ wsL_law := wT_at 662 (by decide +kernel) (by decide +kernel)
theorem tkL_36 : Cond.constant RL 36 (65535) ∈ wsL_law := wT_at 667 (by decide +kernel) (by decide +kernel)
theorem tkL_35 : Cond.constant RL 35 (65536) ∈ wsL_law := wT_at 666 (by decide +kernel) (by decide +kernel)
theorem tlL_37 : Cond.methodLink RL 37 yX7_account ∈ wsL_law := wT_at 492 (by decide +kernel) (by decide +kernel)
theorem tcX7_account : Cond.code yX7_account cX7_account 2 (some .int) ∈ wsL_law := wT_at 495 (by decide +kernel) (by decide +kernel)
theorem tiX7_account : Cond.instanceMethod yX7_account ∈ wsL_law := wT_at 493 (by decide +kernel) (by decide +kernel)
theorem tsX7_account : Cond.selects RX7 yX7_account yX7_account ∈ wsL_law := wT_at 494 (by decide +kernel) (by decide +kernel)
theorem tcL_some : Cond.code yL_some cL_some 2 (some .int) ∈ wsL_law := wT_at 661 (by decide +kernel) (by decide +kernel)
theorem tlL_40 : Cond.methodLink RL 40 yL_some ∈ wsL_law := wT_at 659 (by decide +kernel) (by decide +kernel)
theorem tnL : Cond.initialized RL ∈ wsL_law := wT_at 21 (by decide +kernel) (by decide +kernel)
theorem ttL_some : Cond.static yL_some ∈ wsL_law := wT_at 660 (by decide +kernel) (by decide +kernel)
theorem tcL_anyMood : Cond.code yL_anyMood cL_anyMood 2 (some .int) ∈ wsL_law := wT_at 665 (by decide +kernel) (by decide +kernel)
theorem tlL_46 : Cond.methodLink RL 46 yL_anyMood ∈ wsL_law := wT_at 663 (by decide +kernel) (by decide +kernel)
theorem ttL_anyMood : Cond.static yL_anyMood ∈ wsL_law := wT_at 664 (by decide +kernel) (by decide +kernel)
theorem tlL_50 : Cond.methodLink RL 50 yX7_sail ∈ wsL_law := wT_at 239 (by decide +kernel) (by decide +kernel)
theorem tcX7_sail : Cond.code yX7_sail cX7_sail 2 (some .int) ∈ wsL_law := wT_at 242 (by decide +kernel) (by decide +kernel)
theorem tiX7_sail : Cond.instanceMethod yX7_sail ∈ wsL_law := wT_at 240 (by decide +kernel) (by decide +kernel)
theorem tsX7_sail : Cond.selects RX7 yX7_sail yX7_sail ∈ wsL_law := wT_at 241 (by decide +kernel) (by decide +kernel)
theorem tlL_53 : Cond.methodLink RL 53 yX7_shore ∈ wsL_law := wT_at 361 (by decide +kernel) (by decide +kernel)
theorem tcX7_shore : Cond.code yX7_shore cX7_shore 2 (some .int) ∈ wsL_law := wT_at 364 (by decide +kernel) (by decide +kernel)
theorem tiX7_shore : Cond.instanceMethod yX7_shore ∈ wsL_law := wT_at 362 (by decide +kernel) (by decide +kernel)
theorem tsX7_shore : Cond.selects RX7 yX7_shore yX7_shore ∈ wsL_law := wT_at 363 (by decide +kernel) (by decide +kernel)
theorem tlL_56 : Cond.methodLink RL 56 yX7_mood ∈ wsL_law := wT_at 668 (by decide +kernel) (by decide +kernel)
theorem tcX7_mood : Cond.code yX7_mood cX7_mood 4 (some .int) ∈ wsL_law := wT_at 671 (by decide +kernel) (by decide +kernel)
theorem tiX7_mood : Cond.instanceMethod yX7_mood ∈ wsL_law := wT_at 669 (by decide +kernel) (by decide +kernel)
theorem tsX7_mood : Cond.selects RX7 yX7_mood yX7_mood ∈ wsL_law := wT_at 670 (by decide +kernel) (by decide +kernel)
theorem tlL_59 : Cond.methodLink RL 59 yX7_rum ∈ wsL_law := wT_at 674 (by decide +kernel) (by decide +kernel)
theorem tcX7_rum : Cond.code yX7_rum cX7_rum 3 (some .int) ∈ wsL_law := wT_at 677 (by decide +kernel) (by decide +kernel)
theorem tiX7_rum : Cond.instanceMethod yX7_rum ∈ wsL_law := wT_at 675 (by decide +kernel) (by decide +kernel)
theorem tsX7_rum : Cond.selects RX7 yX7_rum yX7_rum ∈ wsL_law := wT_at 676 (by decide +kernel) (by decide +kernel)
theorem tlL_62 : Cond.methodLink RL 62 yX7_watch ∈ wsL_law := wT_at 372 (by decide +kernel) (by decide +kernel)
theorem tcX7_watch : Cond.code yX7_watch cX7_watch 4 (some .int) ∈ wsL_law := wT_at 375 (by decide +kernel) (by decide +kernel)
theorem tiX7_watch : Cond.instanceMethod yX7_watch ∈ wsL_law := wT_at 373 (by decide +kernel) (by decide +kernel)
theorem tsX7_watch : Cond.selects RX7 yX7_watch yX7_watch ∈ wsL_law := wT_at 374 (by decide +kernel) (by decide +kernel)
theorem tlL_65 : Cond.methodLink RL 65 yX7_horizon ∈ wsL_law := wT_at 381 (by decide +kernel) (by decide +kernel)
theorem tcX7_horizon : Cond.code yX7_horizon cX7_horizon 4 (some .int) ∈ wsL_law := wT_at 384 (by decide +kernel) (by decide +kernel)
theorem tiX7_horizon : Cond.instanceMethod yX7_horizon ∈ wsL_law := wT_at 382 (by decide +kernel) (by decide +kernel)
theorem tsX7_horizon : Cond.selects RX7 yX7_horizon yX7_horizon ∈ wsL_law := wT_at 383 (by decide +kernel) (by decide +kernel)
theorem tlL_68 : Cond.methodLink RL 68 yX7_error ∈ wsL_law := wT_at 390 (by decide +kernel) (by decide +kernel)
theorem tcX7_error : Cond.code yX7_error cX7_error 3 (some .int) ∈ wsL_law := wT_at 393 (by decide +kernel) (by decide +kernel)
theorem tiX7_error : Cond.instanceMethod yX7_error ∈ wsL_law := wT_at 391 (by decide +kernel) (by decide +kernel)
theorem tsX7_error : Cond.selects RX7 yX7_error yX7_error ∈ wsL_law := wT_at 392 (by decide +kernel) (by decide +kernel)
theorem tlL_71 : Cond.methodLink RL 71 yX7_sight ∈ wsL_law := wT_at 399 (by decide +kernel) (by decide +kernel)
theorem tcX7_sight : Cond.code yX7_sight cX7_sight 2 (some .int) ∈ wsL_law := wT_at 402 (by decide +kernel) (by decide +kernel)
theorem tiX7_sight : Cond.instanceMethod yX7_sight ∈ wsL_law := wT_at 400 (by decide +kernel) (by decide +kernel)
theorem tsX7_sight : Cond.selects RX7 yX7_sight yX7_sight ∈ wsL_law := wT_at 401 (by decide +kernel) (by decide +kernel)
theorem tlL_74 : Cond.methodLink RL 74 yX7_hour ∈ wsL_law := wT_at 681 (by decide +kernel) (by decide +kernel)
theorem tcX7_hour : Cond.code yX7_hour cX7_hour 1 (some .int) ∈ wsL_law := wT_at 684 (by decide +kernel) (by decide +kernel)
theorem tiX7_hour : Cond.instanceMethod yX7_hour ∈ wsL_law := wT_at 682 (by decide +kernel) (by decide +kernel)
theorem tsX7_hour : Cond.selects RX7 yX7_hour yX7_hour ∈ wsL_law := wT_at 683 (by decide +kernel) (by decide +kernel)
theorem tlcL_77 : Cond.classLink RL 77 RJ4 ∈ wsL_law := wT_at 690 (by decide +kernel) (by decide +kernel)
theorem tcJ4_init_da8c8 : Cond.code yJ4_init_da8c8 cJ4_init_da8c8 1 none ∈ wsL_law := wT_at 694 (by decide +kernel) (by decide +kernel)
theorem tlL_79 : Cond.methodLink RL 79 yJ4_init_da8c8 ∈ wsL_law := wT_at 692 (by decide +kernel) (by decide +kernel)
theorem tiJ4_init_da8c8 : Cond.instanceMethod yJ4_init_da8c8 ∈ wsL_law := wT_at 693 (by decide +kernel) (by decide +kernel)
theorem tcJ4_toString_0e30d : Cond.code yJ4_toString_0e30d cJ4_toString_0e30d 1 (some (FieldType.object "java/lang/String")) ∈ wsL_law := wT_at 857 (by decide +kernel) (by decide +kernel)
theorem tlL_86 : Cond.methodLink RL 86 yJ4_toString_0e30d ∈ wsL_law := wT_at 854 (by decide +kernel) (by decide +kernel)
theorem tiJ4_toString_0e30d : Cond.instanceMethod yJ4_toString_0e30d ∈ wsL_law := wT_at 855 (by decide +kernel) (by decide +kernel)
theorem tsJ4_toString_0e30d : Cond.selects RJ4 yJ4_toString_0e30d yJ4_toString_0e30d ∈ wsL_law := wT_at 856 (by decide +kernel) (by decide +kernel)
theorem tlL_80 : Cond.methodLink RL 80 yX7_written ∈ wsL_law := wT_at 497 (by decide +kernel) (by decide +kernel)
theorem tcX7_written : Cond.code yX7_written cX7_written 2 (some .int) ∈ wsL_law := wT_at 500 (by decide +kernel) (by decide +kernel)
theorem tiX7_written : Cond.instanceMethod yX7_written ∈ wsL_law := wT_at 498 (by decide +kernel) (by decide +kernel)
theorem tsX7_written : Cond.selects RX7 yX7_written yX7_written ∈ wsL_law := wT_at 499 (by decide +kernel) (by decide +kernel)
theorem tcJ4_append_cf468 : Cond.code yJ4_append_cf468 cJ4_append_cf468 2 (some (FieldType.object "java/lang/StringBuilder")) ∈ wsL_law := wT_at 797 (by decide +kernel) (by decide +kernel)
theorem tlL_83 : Cond.methodLink RL 83 yJ4_append_cf468 ∈ wsL_law := wT_at 794 (by decide +kernel) (by decide +kernel)
theorem tiJ4_append_cf468 : Cond.instanceMethod yJ4_append_cf468 ∈ wsL_law := wT_at 795 (by decide +kernel) (by decide +kernel)
theorem tsJ4_append_cf468 : Cond.selects RJ4 yJ4_append_cf468 yJ4_append_cf468 ∈ wsL_law := wT_at 796 (by decide +kernel) (by decide +kernel)
theorem tcJ4_append_bf812 : Cond.code yJ4_append_bf812 cJ4_append_bf812 2 (some (FieldType.object "java/lang/StringBuilder")) ∈ wsL_law := wT_at 724 (by decide +kernel) (by decide +kernel)
theorem tlL_90 : Cond.methodLink RL 90 yJ4_append_bf812 ∈ wsL_law := wT_at 721 (by decide +kernel) (by decide +kernel)
theorem tiJ4_append_bf812 : Cond.instanceMethod yJ4_append_bf812 ∈ wsL_law := wT_at 722 (by decide +kernel) (by decide +kernel)
theorem tsJ4_append_bf812 : Cond.selects RJ4 yJ4_append_bf812 yJ4_append_bf812 ∈ wsL_law := wT_at 723 (by decide +kernel) (by decide +kernel)
theorem tlL_93 : Cond.methodLink RL 93 yX7_write ∈ wsL_law := wT_at 826 (by decide +kernel) (by decide +kernel)
theorem tcX7_write : Cond.code yX7_write cX7_write 2 (some .int) ∈ wsL_law := wT_at 829 (by decide +kernel) (by decide +kernel)
theorem tiX7_write : Cond.instanceMethod yX7_write ∈ wsL_law := wT_at 827 (by decide +kernel) (by decide +kernel)
theorem tsX7_write : Cond.selects RX7 yX7_write yX7_write ∈ wsL_law := wT_at 828 (by decide +kernel) (by decide +kernel)
theorem tcL_line : Cond.code yL_line cL_line 4 (some (FieldType.object "java/lang/String")) ∈ wsL_law := wT_at 853 (by decide +kernel) (by decide +kernel)
theorem tlL_96 : Cond.methodLink RL 96 yL_line ∈ wsL_law := wT_at 851 (by decide +kernel) (by decide +kernel)
theorem ttL_line : Cond.static yL_line ∈ wsL_law := wT_at 852 (by decide +kernel) (by decide +kernel)
theorem tlL_100 : Cond.methodLink RL 100 yJ4_append_15ec4 ∈ wsL_law := wT_at 911 (by decide +kernel) (by decide +kernel)
theorem tlL_103 : Cond.methodLink RL 103 yX7_watchOf ∈ wsL_law := wT_at 941 (by decide +kernel) (by decide +kernel)
theorem tcX7_watchOf : Cond.code yX7_watchOf cX7_watchOf 3 (some .int) ∈ wsL_law := wT_at 944 (by decide +kernel) (by decide +kernel)
theorem tiX7_watchOf : Cond.instanceMethod yX7_watchOf ∈ wsL_law := wT_at 942 (by decide +kernel) (by decide +kernel)
theorem tsX7_watchOf : Cond.selects RX7 yX7_watchOf yX7_watchOf ∈ wsL_law := wT_at 943 (by decide +kernel) (by decide +kernel)
theorem tlL_106 : Cond.methodLink RL 106 yX7_sightOf ∈ wsL_law := wT_at 957 (by decide +kernel) (by decide +kernel)
theorem tcX7_sightOf : Cond.code yX7_sightOf cX7_sightOf 3 (some .int) ∈ wsL_law := wT_at 960 (by decide +kernel) (by decide +kernel)
theorem tiX7_sightOf : Cond.instanceMethod yX7_sightOf ∈ wsL_law := wT_at 958 (by decide +kernel) (by decide +kernel)
theorem tsX7_sightOf : Cond.selects RX7 yX7_sightOf yX7_sightOf ∈ wsL_law := wT_at 959 (by decide +kernel) (by decide +kernel)
theorem tkL_109 : Cond.constant RL 109 (65280) ∈ wsL_law := wT_at 973 (by decide +kernel) (by decide +kernel)
theorem tlL_110 : Cond.methodLink RL 110 yX7_sailorOf ∈ wsL_law := wT_at 977 (by decide +kernel) (by decide +kernel)
theorem tcX7_sailorOf : Cond.code yX7_sailorOf cX7_sailorOf 3 (some .int) ∈ wsL_law := wT_at 980 (by decide +kernel) (by decide +kernel)
theorem tiX7_sailorOf : Cond.instanceMethod yX7_sailorOf ∈ wsL_law := wT_at 978 (by decide +kernel) (by decide +kernel)
theorem tsX7_sailorOf : Cond.selects RX7 yX7_sailorOf yX7_sailorOf ∈ wsL_law := wT_at 979 (by decide +kernel) (by decide +kernel)
theorem tlL_113 : Cond.methodLink RL 113 yJ6_bitCount_0f7a4 ∈ wsL_law := wT_at 989 (by decide +kernel) (by decide +kernel)
theorem tkL_118 : Cond.constantFloat RL 118 (1082130432) ∈ wsL_law := wT_at 990 (by decide +kernel) (by decide +kernel)
theorem tkL_119 : Cond.constantFloat RL 119 (1090519040) ∈ wsL_law := wT_at 991 (by decide +kernel) (by decide +kernel)
theorem tcJ6_toHexString_b52d3 : Cond.code yJ6_toHexString_b52d3 cJ6_toHexString_b52d3 1 (some (FieldType.object "java/lang/String")) ∈ wsL_law := wT_at 994 (by decide +kernel) (by decide +kernel)
theorem tlL_120 : Cond.methodLink RL 120 yJ6_toHexString_b52d3 ∈ wsL_law := wT_at 992 (by decide +kernel) (by decide +kernel)
theorem ttJ6_toHexString_b52d3 : Cond.static yJ6_toHexString_b52d3 ∈ wsL_law := wT_at 993 (by decide +kernel) (by decide +kernel)
theorem tcJ0_substring_b52d3 : Cond.code yJ0_substring_b52d3 cJ0_substring_b52d3 2 (some (FieldType.object "java/lang/String")) ∈ wsL_law := wT_at 1020 (by decide +kernel) (by decide +kernel)
theorem tlL_124 : Cond.methodLink RL 124 yJ0_substring_b52d3 ∈ wsL_law := wT_at 1017 (by decide +kernel) (by decide +kernel)
theorem tiJ0_substring_b52d3 : Cond.instanceMethod yJ0_substring_b52d3 ∈ wsL_law := wT_at 1018 (by decide +kernel) (by decide +kernel)
theorem tsJ0_substring_b52d3 : Cond.selects RJ0 yJ0_substring_b52d3 yJ0_substring_b52d3 ∈ wsL_law := wT_at 1019 (by decide +kernel) (by decide +kernel)
theorem tcJ4_init_a7421 : Cond.code yJ4_init_a7421 cJ4_init_a7421 2 none ∈ wsL_law := wT_at 1045 (by decide +kernel) (by decide +kernel)
theorem tlL_127 : Cond.methodLink RL 127 yJ4_init_a7421 ∈ wsL_law := wT_at 1043 (by decide +kernel) (by decide +kernel)
theorem tiJ4_init_a7421 : Cond.instanceMethod yJ4_init_a7421 ∈ wsL_law := wT_at 1044 (by decide +kernel) (by decide +kernel)
theorem tlL_134 : Cond.methodLink RL 134 yX7_highest ∈ wsL_law := wT_at 1056 (by decide +kernel) (by decide +kernel)
theorem tcX7_highest : Cond.code yX7_highest cX7_highest 3 (some .int) ∈ wsL_law := wT_at 1059 (by decide +kernel) (by decide +kernel)
theorem tiX7_highest : Cond.instanceMethod yX7_highest ∈ wsL_law := wT_at 1057 (by decide +kernel) (by decide +kernel)
theorem tsX7_highest : Cond.selects RX7 yX7_highest yX7_highest ∈ wsL_law := wT_at 1058 (by decide +kernel) (by decide +kernel)
theorem tlL_137 : Cond.methodLink RL 137 yX7_angle ∈ wsL_law := wT_at 1068 (by decide +kernel) (by decide +kernel)
theorem tcX7_angle : Cond.code yX7_angle cX7_angle 2 (some .float) ∈ wsL_law := wT_at 1071 (by decide +kernel) (by decide +kernel)
theorem tiX7_angle : Cond.instanceMethod yX7_angle ∈ wsL_law := wT_at 1069 (by decide +kernel) (by decide +kernel)
theorem tsX7_angle : Cond.selects RX7 yX7_angle yX7_angle ∈ wsL_law := wT_at 1070 (by decide +kernel) (by decide +kernel)
theorem tlL_141 : Cond.methodLink RL 141 yX7_readBits ∈ wsL_law := wT_at 1073 (by decide +kernel) (by decide +kernel)
theorem tcX7_readBits : Cond.code yX7_readBits cX7_readBits 2 (some .int) ∈ wsL_law := wT_at 1076 (by decide +kernel) (by decide +kernel)
theorem tiX7_readBits : Cond.instanceMethod yX7_readBits ∈ wsL_law := wT_at 1074 (by decide +kernel) (by decide +kernel)
theorem tsX7_readBits : Cond.selects RX7 yX7_readBits yX7_readBits ∈ wsL_law := wT_at 1075 (by decide +kernel) (by decide +kernel)
theorem tlL_144 : Cond.methodLink RL 144 yJxf58ca_floatToIntBits_5c35a ∈ wsL_law := wT_at 1078 (by decide +kernel) (by decide +kernel)
theorem tcJxf58ca_floatToIntBits_5c35a : Cond.code yJxf58ca_floatToIntBits_5c35a cJxf58ca_floatToIntBits_5c35a 1 (some .int) ∈ wsL_law := wT_at 1080 (by decide +kernel) (by decide +kernel)
theorem ttJxf58ca_floatToIntBits_5c35a : Cond.static yJxf58ca_floatToIntBits_5c35a ∈ wsL_law := wT_at 1079 (by decide +kernel) (by decide +kernel)
theorem tcJ0_equals_9ea2d : Cond.code yJ0_equals_9ea2d cJ0_equals_9ea2d 3 (some .boolean) ∈ wsL_law := wT_at 1091 (by decide +kernel) (by decide +kernel)
theorem tlL_150 : Cond.methodLink RL 150 yJ0_equals_9ea2d ∈ wsL_law := wT_at 1088 (by decide +kernel) (by decide +kernel)
theorem tiJ0_equals_9ea2d : Cond.instanceMethod yJ0_equals_9ea2d ∈ wsL_law := wT_at 1089 (by decide +kernel) (by decide +kernel)
theorem tsJ0_equals_9ea2d : Cond.selects RJ0 yJ0_equals_9ea2d yJ0_equals_9ea2d ∈ wsL_law := wT_at 1090 (by decide +kernel) (by decide +kernel)
theorem tlL_154 : Cond.methodLink RL 154 yX7_meanAngle ∈ wsL_law := wT_at 484 (by decide +kernel) (by decide +kernel)
theorem tcX7_meanAngle : Cond.code yX7_meanAngle cX7_meanAngle 1 (some .double) ∈ wsL_law := wT_at 487 (by decide +kernel) (by decide +kernel)
theorem tiX7_meanAngle : Cond.instanceMethod yX7_meanAngle ∈ wsL_law := wT_at 485 (by decide +kernel) (by decide +kernel)
theorem tsX7_meanAngle : Cond.selects RX7 yX7_meanAngle yX7_meanAngle ∈ wsL_law := wT_at 486 (by decide +kernel) (by decide +kernel)
theorem tlL_158 : Cond.methodLink RL 158 yX7_packed ∈ wsL_law := wT_at 428 (by decide +kernel) (by decide +kernel)
theorem tcX7_packed : Cond.code yX7_packed cX7_packed 4 (some .long) ∈ wsL_law := wT_at 431 (by decide +kernel) (by decide +kernel)
theorem tiX7_packed : Cond.instanceMethod yX7_packed ∈ wsL_law := wT_at 429 (by decide +kernel) (by decide +kernel)
theorem tsX7_packed : Cond.selects RX7 yX7_packed yX7_packed ∈ wsL_law := wT_at 430 (by decide +kernel) (by decide +kernel)
theorem tlL_162 : Cond.methodLink RL 162 yX7_isCounted ∈ wsL_law := wT_at 432 (by decide +kernel) (by decide +kernel)
theorem tcX7_isCounted : Cond.code yX7_isCounted cX7_isCounted 1 (some .boolean) ∈ wsL_law := wT_at 435 (by decide +kernel) (by decide +kernel)
theorem tiX7_isCounted : Cond.instanceMethod yX7_isCounted ∈ wsL_law := wT_at 433 (by decide +kernel) (by decide +kernel)
theorem tsX7_isCounted : Cond.selects RX7 yX7_isCounted yX7_isCounted ∈ wsL_law := wT_at 434 (by decide +kernel) (by decide +kernel)
theorem tkL_166 : Cond.constant RL 166 (-100001) ∈ wsL_law := wT_at 1096 (by decide +kernel) (by decide +kernel)
theorem tac_boolean : Cond.arrayClass .boolean ∈ wsL_law := wT_at 1149 (by decide +kernel) (by decide +kernel)
theorem tlL_169 : Cond.methodLink RL 169 yX7_ranked ∈ wsL_law := wT_at 1101 (by decide +kernel) (by decide +kernel)
theorem tcX7_ranked : Cond.code yX7_ranked cX7_ranked 3 (some .int) ∈ wsL_law := wT_at 1104 (by decide +kernel) (by decide +kernel)
theorem tiX7_ranked : Cond.instanceMethod yX7_ranked ∈ wsL_law := wT_at 1102 (by decide +kernel) (by decide +kernel)
theorem tsX7_ranked : Cond.selects RX7 yX7_ranked yX7_ranked ∈ wsL_law := wT_at 1103 (by decide +kernel) (by decide +kernel)
theorem tlL_172 : Cond.methodLink RL 172 ⟨"java/lang/Float", "intBitsToFloat", "(I)F"⟩ ∈ wsL_law := wT_at 1113 (by decide +kernel) (by decide +kernel)
theorem tnat_intBitsToFloat : Cond.native ⟨"java/lang/Float", "intBitsToFloat", "(I)F"⟩ ∈ wsL_law := wT_at 1115 (by decide +kernel) (by decide +kernel)
theorem tstat_intBitsToFloat : Cond.static ⟨"java/lang/Float", "intBitsToFloat", "(I)F"⟩ ∈ wsL_law := wT_at 1114 (by decide +kernel) (by decide +kernel)
theorem tlL_175 : Cond.methodLink RL 175 yX7_fixBits ∈ wsL_law := wT_at 1116 (by decide +kernel) (by decide +kernel)
theorem tcX7_fixBits : Cond.code yX7_fixBits cX7_fixBits 2 (some .int) ∈ wsL_law := wT_at 1119 (by decide +kernel) (by decide +kernel)
theorem tiX7_fixBits : Cond.instanceMethod yX7_fixBits ∈ wsL_law := wT_at 1117 (by decide +kernel) (by decide +kernel)
theorem tsX7_fixBits : Cond.selects RX7 yX7_fixBits yX7_fixBits ∈ wsL_law := wT_at 1118 (by decide +kernel) (by decide +kernel)
theorem tkL_181 : Cond.constant RL 181 (-100006) ∈ wsL_law := wT_at 1127 (by decide +kernel) (by decide +kernel)
theorem tlL_178 : Cond.methodLink RL 178 yX7_fixAgain ∈ wsL_law := wT_at 1122 (by decide +kernel) (by decide +kernel)
theorem tcX7_fixAgain : Cond.code yX7_fixAgain cX7_fixAgain 2 (some .int) ∈ wsL_law := wT_at 1125 (by decide +kernel) (by decide +kernel)
theorem tiX7_fixAgain : Cond.instanceMethod yX7_fixAgain ∈ wsL_law := wT_at 1123 (by decide +kernel) (by decide +kernel)
theorem tsX7_fixAgain : Cond.selects RX7 yX7_fixAgain yX7_fixAgain ∈ wsL_law := wT_at 1124 (by decide +kernel) (by decide +kernel)
theorem tlL_190 : Cond.methodLink RL 190 yX7_writeLog ∈ wsL_law := wT_at 1145 (by decide +kernel) (by decide +kernel)
theorem tcX7_writeLog : Cond.code yX7_writeLog cX7_writeLog 2 (some .int) ∈ wsL_law := wT_at 1148 (by decide +kernel) (by decide +kernel)
theorem tiX7_writeLog : Cond.instanceMethod yX7_writeLog ∈ wsL_law := wT_at 1146 (by decide +kernel) (by decide +kernel)
theorem tsX7_writeLog : Cond.selects RX7 yX7_writeLog yX7_writeLog ∈ wsL_law := wT_at 1147 (by decide +kernel) (by decide +kernel)
theorem tlL_187 : Cond.methodLink RL 187 yX7_meet ∈ wsL_law := wT_at 1135 (by decide +kernel) (by decide +kernel)
theorem tcX7_meet : Cond.code yX7_meet cX7_meet 4 (some .int) ∈ wsL_law := wT_at 1138 (by decide +kernel) (by decide +kernel)
theorem tiX7_meet : Cond.instanceMethod yX7_meet ∈ wsL_law := wT_at 1136 (by decide +kernel) (by decide +kernel)
theorem tsX7_meet : Cond.selects RX7 yX7_meet yX7_meet ∈ wsL_law := wT_at 1137 (by decide +kernel) (by decide +kernel)
theorem tlL_182 : Cond.methodLink RL 182 yJ9_abs_f6c48 ∈ wsL_law := wT_at 1128 (by decide +kernel) (by decide +kernel)
theorem tcJ9_abs_f6c48 : Cond.code yJ9_abs_f6c48 cJ9_abs_f6c48 1 (some .float) ∈ wsL_law := wT_at 1130 (by decide +kernel) (by decide +kernel)
theorem ttJ9_abs_f6c48 : Cond.static yJ9_abs_f6c48 ∈ wsL_law := wT_at 1129 (by decide +kernel) (by decide +kernel)
theorem tkL_186 : Cond.constantFloat RL 186 (1056964608) ∈ wsL_law := wT_at 1134 (by decide +kernel) (by decide +kernel)
theorem tlL_196 : Cond.methodLink RL 196 yX7_unlike ∈ wsL_law := wT_at 1154 (by decide +kernel) (by decide +kernel)
theorem tcX7_unlike : Cond.code yX7_unlike cX7_unlike 3 (some .int) ∈ wsL_law := wT_at 1157 (by decide +kernel) (by decide +kernel)
theorem tiX7_unlike : Cond.instanceMethod yX7_unlike ∈ wsL_law := wT_at 1155 (by decide +kernel) (by decide +kernel)
theorem tsX7_unlike : Cond.selects RX7 yX7_unlike yX7_unlike ∈ wsL_law := wT_at 1156 (by decide +kernel) (by decide +kernel)
theorem tlL_199 : Cond.methodLink RL 199 yX7_unlikeAgain ∈ wsL_law := wT_at 1159 (by decide +kernel) (by decide +kernel)
theorem tcX7_unlikeAgain : Cond.code yX7_unlikeAgain cX7_unlikeAgain 3 (some .int) ∈ wsL_law := wT_at 1162 (by decide +kernel) (by decide +kernel)
theorem tiX7_unlikeAgain : Cond.instanceMethod yX7_unlikeAgain ∈ wsL_law := wT_at 1160 (by decide +kernel) (by decide +kernel)
theorem tsX7_unlikeAgain : Cond.selects RX7 yX7_unlikeAgain yX7_unlikeAgain ∈ wsL_law := wT_at 1161 (by decide +kernel) (by decide +kernel)
theorem tlL_202 : Cond.methodLink RL 202 yX7_closest ∈ wsL_law := wT_at 1164 (by decide +kernel) (by decide +kernel)
theorem tcX7_closest : Cond.code yX7_closest cX7_closest 3 (some .int) ∈ wsL_law := wT_at 1167 (by decide +kernel) (by decide +kernel)
theorem tiX7_closest : Cond.instanceMethod yX7_closest ∈ wsL_law := wT_at 1165 (by decide +kernel) (by decide +kernel)
theorem tsX7_closest : Cond.selects RX7 yX7_closest yX7_closest ∈ wsL_law := wT_at 1166 (by decide +kernel) (by decide +kernel)
theorem tlL_193 : Cond.methodLink RL 193 yJ9_min_7cf53 ∈ wsL_law := wT_at 1153 (by decide +kernel) (by decide +kernel)
theorem tlL_208 : Cond.methodLink RL 208 yX7_messes ∈ wsL_law := wT_at 405 (by decide +kernel) (by decide +kernel)
theorem tcX7_messes : Cond.code yX7_messes cX7_messes 1 (some .int) ∈ wsL_law := wT_at 408 (by decide +kernel) (by decide +kernel)
theorem tiX7_messes : Cond.instanceMethod yX7_messes ∈ wsL_law := wT_at 406 (by decide +kernel) (by decide +kernel)
theorem tsX7_messes : Cond.selects RX7 yX7_messes yX7_messes ∈ wsL_law := wT_at 407 (by decide +kernel) (by decide +kernel)
theorem tlL_205 : Cond.methodLink RL 205 yJ6_numberOfTrailingZeros_0f7a4 ∈ wsL_law := wT_at 1171 (by decide +kernel) (by decide +kernel)
theorem tcJ6_numberOfTrailingZeros_0f7a4 : Cond.code yJ6_numberOfTrailingZeros_0f7a4 cJ6_numberOfTrailingZeros_0f7a4 2 (some .int) ∈ wsL_law := wT_at 1173 (by decide +kernel) (by decide +kernel)
theorem ttJ6_numberOfTrailingZeros_0f7a4 : Cond.static yJ6_numberOfTrailingZeros_0f7a4 ∈ wsL_law := wT_at 1172 (by decide +kernel) (by decide +kernel)
theorem tlL_211 : Cond.methodLink RL 211 yX7_save ∈ wsL_law := wT_at 1177 (by decide +kernel) (by decide +kernel)
theorem tcX7_save : Cond.code yX7_save cX7_save 1 (some .int) ∈ wsL_law := wT_at 1180 (by decide +kernel) (by decide +kernel)
theorem tiX7_save : Cond.instanceMethod yX7_save ∈ wsL_law := wT_at 1178 (by decide +kernel) (by decide +kernel)
theorem tsX7_save : Cond.selects RX7 yX7_save yX7_save ∈ wsL_law := wT_at 1179 (by decide +kernel) (by decide +kernel)
theorem tlL_214 : Cond.methodLink RL 214 yX7_would ∈ wsL_law := wT_at 1181 (by decide +kernel) (by decide +kernel)
theorem tcX7_would : Cond.code yX7_would cX7_would 3 (some .int) ∈ wsL_law := wT_at 1184 (by decide +kernel) (by decide +kernel)
theorem tiX7_would : Cond.instanceMethod yX7_would ∈ wsL_law := wT_at 1182 (by decide +kernel) (by decide +kernel)
theorem tsX7_would : Cond.selects RX7 yX7_would yX7_would ∈ wsL_law := wT_at 1183 (by decide +kernel) (by decide +kernel)
theorem tlL_217 : Cond.methodLink RL 217 yX7_sinks ∈ wsL_law := wT_at 1185 (by decide +kernel) (by decide +kernel)
theorem tcX7_sinks : Cond.code yX7_sinks cX7_sinks 3 (some .int) ∈ wsL_law := wT_at 1188 (by decide +kernel) (by decide +kernel)
theorem tiX7_sinks : Cond.instanceMethod yX7_sinks ∈ wsL_law := wT_at 1186 (by decide +kernel) (by decide +kernel)
theorem tsX7_sinks : Cond.selects RX7 yX7_sinks yX7_sinks ∈ wsL_law := wT_at 1187 (by decide +kernel) (by decide +kernel)
theorem tlL_220 : Cond.methodLink RL 220 yX7_restore ∈ wsL_law := wT_at 630 (by decide +kernel) (by decide +kernel)
theorem tcX7_restore : Cond.code yX7_restore cX7_restore 1 (some .int) ∈ wsL_law := wT_at 633 (by decide +kernel) (by decide +kernel)
theorem tiX7_restore : Cond.instanceMethod yX7_restore ∈ wsL_law := wT_at 631 (by decide +kernel) (by decide +kernel)
theorem tsX7_restore : Cond.selects RX7 yX7_restore yX7_restore ∈ wsL_law := wT_at 632 (by decide +kernel) (by decide +kernel)
theorem tdX8_next : yX8_next.cls ≠ "java/lang/invoke/MethodHandle" ∧ yX8_next.cls ≠ "java/lang/invoke/VarHandle" ∧ (parseMethodDescriptor yX8_next.desc).map (fun d => d.parameters.length) = some 1 := by decide +kernel
theorem tdX7_account : yX7_account.cls ≠ "java/lang/invoke/MethodHandle" ∧ yX7_account.cls ≠ "java/lang/invoke/VarHandle" ∧ (parseMethodDescriptor yX7_account.desc).map (fun d => d.parameters.length) = some 1 := by decide +kernel
theorem tdL_some : yL_some.cls ≠ "java/lang/invoke/MethodHandle" ∧ yL_some.cls ≠ "java/lang/invoke/VarHandle" ∧ (parseMethodDescriptor yL_some.desc).map (fun d => d.parameters.length) = some 2 := by decide +kernel
theorem tdL_anyMood : yL_anyMood.cls ≠ "java/lang/invoke/MethodHandle" ∧ yL_anyMood.cls ≠ "java/lang/invoke/VarHandle" ∧ (parseMethodDescriptor yL_anyMood.desc).map (fun d => d.parameters.length) = some 1 := by decide +kernel
theorem tdX7_sail : yX7_sail.cls ≠ "java/lang/invoke/MethodHandle" ∧ yX7_sail.cls ≠ "java/lang/invoke/VarHandle" ∧ (parseMethodDescriptor yX7_sail.desc).map (fun d => d.parameters.length) = some 1 := by decide +kernel
theorem tdX7_shore : yX7_shore.cls ≠ "java/lang/invoke/MethodHandle" ∧ yX7_shore.cls ≠ "java/lang/invoke/VarHandle" ∧ (parseMethodDescriptor yX7_shore.desc).map (fun d => d.parameters.length) = some 1 := by decide +kernel
theorem tdX7_mood : yX7_mood.cls ≠ "java/lang/invoke/MethodHandle" ∧ yX7_mood.cls ≠ "java/lang/invoke/VarHandle" ∧ (parseMethodDescriptor yX7_mood.desc).map (fun d => d.parameters.length) = some 2 := by decide +kernel
theorem tdX7_rum : yX7_rum.cls ≠ "java/lang/invoke/MethodHandle" ∧ yX7_rum.cls ≠ "java/lang/invoke/VarHandle" ∧ (parseMethodDescriptor yX7_rum.desc).map (fun d => d.parameters.length) = some 2 := by decide +kernel
theorem tdX7_watch : yX7_watch.cls ≠ "java/lang/invoke/MethodHandle" ∧ yX7_watch.cls ≠ "java/lang/invoke/VarHandle" ∧ (parseMethodDescriptor yX7_watch.desc).map (fun d => d.parameters.length) = some 2 := by decide +kernel
theorem tdX7_horizon : yX7_horizon.cls ≠ "java/lang/invoke/MethodHandle" ∧ yX7_horizon.cls ≠ "java/lang/invoke/VarHandle" ∧ (parseMethodDescriptor yX7_horizon.desc).map (fun d => d.parameters.length) = some 2 := by decide +kernel
theorem tdX7_error : yX7_error.cls ≠ "java/lang/invoke/MethodHandle" ∧ yX7_error.cls ≠ "java/lang/invoke/VarHandle" ∧ (parseMethodDescriptor yX7_error.desc).map (fun d => d.parameters.length) = some 1 := by decide +kernel
theorem tdX7_sight : yX7_sight.cls ≠ "java/lang/invoke/MethodHandle" ∧ yX7_sight.cls ≠ "java/lang/invoke/VarHandle" ∧ (parseMethodDescriptor yX7_sight.desc).map (fun d => d.parameters.length) = some 1 := by decide +kernel
theorem tdX7_hour : yX7_hour.cls ≠ "java/lang/invoke/MethodHandle" ∧ yX7_hour.cls ≠ "java/lang/invoke/VarHandle" ∧ (parseMethodDescriptor yX7_hour.desc).map (fun d => d.parameters.length) = some 0 := by decide +kernel
theorem tdJ4_init_da8c8 : yJ4_init_da8c8.cls ≠ "java/lang/invoke/MethodHandle" ∧ yJ4_init_da8c8.cls ≠ "java/lang/invoke/VarHandle" ∧ (parseMethodDescriptor yJ4_init_da8c8.desc).map (fun d => d.parameters.length) = some 0 := by decide +kernel
theorem tdJ4_toString_0e30d : yJ4_toString_0e30d.cls ≠ "java/lang/invoke/MethodHandle" ∧ yJ4_toString_0e30d.cls ≠ "java/lang/invoke/VarHandle" ∧ (parseMethodDescriptor yJ4_toString_0e30d.desc).map (fun d => d.parameters.length) = some 0 := by decide +kernel
theorem tdX7_written : yX7_written.cls ≠ "java/lang/invoke/MethodHandle" ∧ yX7_written.cls ≠ "java/lang/invoke/VarHandle" ∧ (parseMethodDescriptor yX7_written.desc).map (fun d => d.parameters.length) = some 1 := by decide +kernel
theorem tdJ4_append_cf468 : yJ4_append_cf468.cls ≠ "java/lang/invoke/MethodHandle" ∧ yJ4_append_cf468.cls ≠ "java/lang/invoke/VarHandle" ∧ (parseMethodDescriptor yJ4_append_cf468.desc).map (fun d => d.parameters.length) = some 1 := by decide +kernel
theorem tdJ4_append_bf812 : yJ4_append_bf812.cls ≠ "java/lang/invoke/MethodHandle" ∧ yJ4_append_bf812.cls ≠ "java/lang/invoke/VarHandle" ∧ (parseMethodDescriptor yJ4_append_bf812.desc).map (fun d => d.parameters.length) = some 1 := by decide +kernel
theorem tdX7_write : yX7_write.cls ≠ "java/lang/invoke/MethodHandle" ∧ yX7_write.cls ≠ "java/lang/invoke/VarHandle" ∧ (parseMethodDescriptor yX7_write.desc).map (fun d => d.parameters.length) = some 1 := by decide +kernel
theorem tdL_line : yL_line.cls ≠ "java/lang/invoke/MethodHandle" ∧ yL_line.cls ≠ "java/lang/invoke/VarHandle" ∧ (parseMethodDescriptor yL_line.desc).map (fun d => d.parameters.length) = some 2 := by decide +kernel
theorem tdX7_watchOf : yX7_watchOf.cls ≠ "java/lang/invoke/MethodHandle" ∧ yX7_watchOf.cls ≠ "java/lang/invoke/VarHandle" ∧ (parseMethodDescriptor yX7_watchOf.desc).map (fun d => d.parameters.length) = some 2 := by decide +kernel
theorem tdX7_sightOf : yX7_sightOf.cls ≠ "java/lang/invoke/MethodHandle" ∧ yX7_sightOf.cls ≠ "java/lang/invoke/VarHandle" ∧ (parseMethodDescriptor yX7_sightOf.desc).map (fun d => d.parameters.length) = some 2 := by decide +kernel
theorem tdX7_sailorOf : yX7_sailorOf.cls ≠ "java/lang/invoke/MethodHandle" ∧ yX7_sailorOf.cls ≠ "java/lang/invoke/VarHandle" ∧ (parseMethodDescriptor yX7_sailorOf.desc).map (fun d => d.parameters.length) = some 2 := by decide +kernel
theorem tdJ6_toHexString_b52d3 : yJ6_toHexString_b52d3.cls ≠ "java/lang/invoke/MethodHandle" ∧ yJ6_toHexString_b52d3.cls ≠ "java/lang/invoke/VarHandle" ∧ (parseMethodDescriptor yJ6_toHexString_b52d3.desc).map (fun d => d.parameters.length) = some 1 := by decide +kernel
theorem tdJ0_substring_b52d3 : yJ0_substring_b52d3.cls ≠ "java/lang/invoke/MethodHandle" ∧ yJ0_substring_b52d3.cls ≠ "java/lang/invoke/VarHandle" ∧ (parseMethodDescriptor yJ0_substring_b52d3.desc).map (fun d => d.parameters.length) = some 1 := by decide +kernel
theorem tdJ4_init_a7421 : yJ4_init_a7421.cls ≠ "java/lang/invoke/MethodHandle" ∧ yJ4_init_a7421.cls ≠ "java/lang/invoke/VarHandle" ∧ (parseMethodDescriptor yJ4_init_a7421.desc).map (fun d => d.parameters.length) = some 1 := by decide +kernel
theorem tdX7_highest : yX7_highest.cls ≠ "java/lang/invoke/MethodHandle" ∧ yX7_highest.cls ≠ "java/lang/invoke/VarHandle" ∧ (parseMethodDescriptor yX7_highest.desc).map (fun d => d.parameters.length) = some 1 := by decide +kernel
theorem tdX7_angle : yX7_angle.cls ≠ "java/lang/invoke/MethodHandle" ∧ yX7_angle.cls ≠ "java/lang/invoke/VarHandle" ∧ (parseMethodDescriptor yX7_angle.desc).map (fun d => d.parameters.length) = some 1 := by decide +kernel
theorem tdX7_readBits : yX7_readBits.cls ≠ "java/lang/invoke/MethodHandle" ∧ yX7_readBits.cls ≠ "java/lang/invoke/VarHandle" ∧ (parseMethodDescriptor yX7_readBits.desc).map (fun d => d.parameters.length) = some 1 := by decide +kernel
theorem tdJxf58ca_floatToIntBits_5c35a : yJxf58ca_floatToIntBits_5c35a.cls ≠ "java/lang/invoke/MethodHandle" ∧ yJxf58ca_floatToIntBits_5c35a.cls ≠ "java/lang/invoke/VarHandle" ∧ (parseMethodDescriptor yJxf58ca_floatToIntBits_5c35a.desc).map (fun d => d.parameters.length) = some 1 := by decide +kernel
theorem tdJ0_equals_9ea2d : yJ0_equals_9ea2d.cls ≠ "java/lang/invoke/MethodHandle" ∧ yJ0_equals_9ea2d.cls ≠ "java/lang/invoke/VarHandle" ∧ (parseMethodDescriptor yJ0_equals_9ea2d.desc).map (fun d => d.parameters.length) = some 1 := by decide +kernel
theorem tdX7_meanAngle : yX7_meanAngle.cls ≠ "java/lang/invoke/MethodHandle" ∧ yX7_meanAngle.cls ≠ "java/lang/invoke/VarHandle" ∧ (parseMethodDescriptor yX7_meanAngle.desc).map (fun d => d.parameters.length) = some 0 := by decide +kernel
theorem tdX7_packed : yX7_packed.cls ≠ "java/lang/invoke/MethodHandle" ∧ yX7_packed.cls ≠ "java/lang/invoke/VarHandle" ∧ (parseMethodDescriptor yX7_packed.desc).map (fun d => d.parameters.length) = some 0 := by decide +kernel
theorem tdX7_isCounted : yX7_isCounted.cls ≠ "java/lang/invoke/MethodHandle" ∧ yX7_isCounted.cls ≠ "java/lang/invoke/VarHandle" ∧ (parseMethodDescriptor yX7_isCounted.desc).map (fun d => d.parameters.length) = some 0 := by decide +kernel
theorem tdX7_ranked : yX7_ranked.cls ≠ "java/lang/invoke/MethodHandle" ∧ yX7_ranked.cls ≠ "java/lang/invoke/VarHandle" ∧ (parseMethodDescriptor yX7_ranked.desc).map (fun d => d.parameters.length) = some 1 := by decide +kernel
theorem tdX7_fixBits : yX7_fixBits.cls ≠ "java/lang/invoke/MethodHandle" ∧ yX7_fixBits.cls ≠ "java/lang/invoke/VarHandle" ∧ (parseMethodDescriptor yX7_fixBits.desc).map (fun d => d.parameters.length) = some 1 := by decide +kernel
theorem tdX7_fixAgain : yX7_fixAgain.cls ≠ "java/lang/invoke/MethodHandle" ∧ yX7_fixAgain.cls ≠ "java/lang/invoke/VarHandle" ∧ (parseMethodDescriptor yX7_fixAgain.desc).map (fun d => d.parameters.length) = some 1 := by decide +kernel
theorem tdX7_writeLog : yX7_writeLog.cls ≠ "java/lang/invoke/MethodHandle" ∧ yX7_writeLog.cls ≠ "java/lang/invoke/VarHandle" ∧ (parseMethodDescriptor yX7_writeLog.desc).map (fun d => d.parameters.length) = some 0 := by decide +kernel
theorem tdX7_meet : yX7_meet.cls ≠ "java/lang/invoke/MethodHandle" ∧ yX7_meet.cls ≠ "java/lang/invoke/VarHandle" ∧ (parseMethodDescriptor yX7_meet.desc).map (fun d => d.parameters.length) = some 2 := by decide +kernel
theorem tdX7_unlike : yX7_unlike.cls ≠ "java/lang/invoke/MethodHandle" ∧ yX7_unlike.cls ≠ "java/lang/invoke/VarHandle" ∧ (parseMethodDescriptor yX7_unlike.desc).map (fun d => d.parameters.length) = some 2 := by decide +kernel
theorem tdX7_unlikeAgain : yX7_unlikeAgain.cls ≠ "java/lang/invoke/MethodHandle" ∧ yX7_unlikeAgain.cls ≠ "java/lang/invoke/VarHandle" ∧ (parseMethodDescriptor yX7_unlikeAgain.desc).map (fun d => d.parameters.length) = some 2 := by decide +kernel
theorem tdX7_closest : yX7_closest.cls ≠ "java/lang/invoke/MethodHandle" ∧ yX7_closest.cls ≠ "java/lang/invoke/VarHandle" ∧ (parseMethodDescriptor yX7_closest.desc).map (fun d => d.parameters.length) = some 2 := by decide +kernel
theorem tdX7_messes : yX7_messes.cls ≠ "java/lang/invoke/MethodHandle" ∧ yX7_messes.cls ≠ "java/lang/invoke/VarHandle" ∧ (parseMethodDescriptor yX7_messes.desc).map (fun d => d.parameters.length) = some 0 := by decide +kernel
theorem tdJ6_numberOfTrailingZeros_0f7a4 : yJ6_numberOfTrailingZeros_0f7a4.cls ≠ "java/lang/invoke/MethodHandle" ∧ yJ6_numberOfTrailingZeros_0f7a4.cls ≠ "java/lang/invoke/VarHandle" ∧ (parseMethodDescriptor yJ6_numberOfTrailingZeros_0f7a4.desc).map (fun d => d.parameters.length) = some 1 := by decide +kernel
theorem tdX7_save : yX7_save.cls ≠ "java/lang/invoke/MethodHandle" ∧ yX7_save.cls ≠ "java/lang/invoke/VarHandle" ∧ (parseMethodDescriptor yX7_save.desc).map (fun d => d.parameters.length) = some 0 := by decide +kernel
theorem tdX7_would : yX7_would.cls ≠ "java/lang/invoke/MethodHandle" ∧ yX7_would.cls ≠ "java/lang/invoke/VarHandle" ∧ (parseMethodDescriptor yX7_would.desc).map (fun d => d.parameters.length) = some 2 := by decide +kernel
theorem tdX7_sinks : yX7_sinks.cls ≠ "java/lang/invoke/MethodHandle" ∧ yX7_sinks.cls ≠ "java/lang/invoke/VarHandle" ∧ (parseMethodDescriptor yX7_sinks.desc).map (fun d => d.parameters.length) = some 1 := by decide +kernel
theorem tdX7_restore : yX7_restore.cls ≠ "java/lang/invoke/MethodHandle" ∧ yX7_restore.cls ≠ "java/lang/invoke/VarHandle" ∧ (parseMethodDescriptor yX7_restore.desc).map (fun d => d.parameters.length) = some 0 := by decide +kernel
