/-! THE BUILDER'S COSTS: a growth to hold q of m makes one array -/
def gcap (q : Int32) (m : Nat) : Nat := m + (if q.toNatClampNeg - m < m + 2 then m + 2 else q.toNatClampNeg - m)
def gc1 (q : Int32) (m : Nat) : Nat := if q ≤ Int32.ofNat m then 0 else 1
def gc2 (q : Int32) (m : Nat) : Nat := if q ≤ Int32.ofNat m then 0 else gcap q m
theorem gle8 {x : Int32} (h : ¬ (x < 0 ∨ 100000 < Int32.toNatClampNeg x)) {k : Nat} (hk : k ≤ 8 := by decide) : Int32.toNatClampNeg x * k ≤ 536870912 := by
  have h2 : ¬ 100000 < Int32.toNatClampNeg x := fun z => h (Or.inr z)
  have h3 : Int32.toNatClampNeg x * k ≤ 100000 * 8 := Nat.mul_le_mul (by omega) hk
  omega
theorem gfitB {x : Int32} (h : (Int32.toInt8 x).toInt32 = x) : fits .byte (.int x) = true := by rw [← h]; exact pk_fb _
theorem g_narc {r : Int32} (hz : (r &&& 65535) = r) : narrow .char (.int r) = .int r := by
  have h1 := pk_and r (m := 65535) 16 (by decide)
  rw [hz] at h1
  rw [h1]
  exact (pk_charN (Nat.mod_lt _ (by decide))).1
theorem tkJ6_264 : Cond.constant RJ6 264 (65536) ∈ wsL_law := wT_at 1001 (by decide +kernel) (by decide +kernel)
theorem tlJxf58ca_59 : Cond.methodLink RJxf58ca 59 yJxf58ca_isNaN_12338 ∈ wsL_law := wT_at 1081 (by decide +kernel) (by decide +kernel)
theorem tcJxf58ca_isNaN_12338 : Cond.code yJxf58ca_isNaN_12338 cJxf58ca_isNaN_12338 1 (some .boolean) ∈ wsL_law := wT_at 1083 (by decide +kernel) (by decide +kernel)
theorem ttJxf58ca_isNaN_12338 : Cond.static yJxf58ca_isNaN_12338 ∈ wsL_law := wT_at 1082 (by decide +kernel) (by decide +kernel)
theorem tnJxf58ca : Cond.initialized RJxf58ca ∈ wsL_law := wT_at 43 (by decide +kernel) (by decide +kernel)
theorem tkJxf58ca_77 : Cond.constant RJxf58ca 77 (2143289344) ∈ wsL_law := wT_at 1087 (by decide +kernel) (by decide +kernel)
theorem tlJxf58ca_74 : Cond.methodLink RJxf58ca 74 ⟨"java/lang/Float", "floatToRawIntBits", "(F)I"⟩ ∈ wsL_law := wT_at 1084 (by decide +kernel) (by decide +kernel)
theorem tnat_floatToRawIntBits : Cond.native ⟨"java/lang/Float", "floatToRawIntBits", "(F)I"⟩ ∈ wsL_law := wT_at 1086 (by decide +kernel) (by decide +kernel)
theorem tstat_floatToRawIntBits : Cond.static ⟨"java/lang/Float", "floatToRawIntBits", "(F)I"⟩ ∈ wsL_law := wT_at 1085 (by decide +kernel) (by decide +kernel)
theorem tlJ0_1062 : Cond.methodLink RJ0 1062 yJ3_checkFromToIndex_8c36e ∈ wsL_law := wT_at 783 (by decide +kernel) (by decide +kernel)
theorem tcJ3_checkFromToIndex_8c36e : Cond.code yJ3_checkFromToIndex_8c36e cJ3_checkFromToIndex_8c36e 4 (some .int) ∈ wsL_law := wT_at 785 (by decide +kernel) (by decide +kernel)
theorem ttJ3_checkFromToIndex_8c36e : Cond.static yJ3_checkFromToIndex_8c36e ∈ wsL_law := wT_at 784 (by decide +kernel) (by decide +kernel)
theorem tfJ5_18 : Cond.fieldLink RJ5 18 "java/lang/String" "COMPACT_STRINGS" "Z" ∈ wsL_law := wT_at 699 (by decide +kernel) (by decide +kernel)
theorem tfJ5_22 : Cond.fieldLink RJ5 22 "java/lang/AbstractStringBuilder" "coder" "B" ∈ wsL_law := wT_at 708 (by decide +kernel) (by decide +kernel)
theorem tfJ5_15 : Cond.fieldLink RJ5 15 "java/lang/AbstractStringBuilder" "value" "[B" ∈ wsL_law := wT_at 707 (by decide +kernel) (by decide +kernel)
theorem tlJ8_194 : Cond.methodLink RJ8 194 yJ9_max_7cf53 ∈ wsL_law := wT_at 742 (by decide +kernel) (by decide +kernel)
theorem tkJ8_200 : Cond.constant RJ8 200 (2147483639) ∈ wsL_law := wT_at 743 (by decide +kernel) (by decide +kernel)
theorem tcJ8_newLength_cabcc : Cond.code yJ8_newLength_cabcc cJ8_newLength_cabcc 4 (some .int) ∈ wsL_law := wT_at 741 (by decide +kernel) (by decide +kernel)
theorem tlJ5_114 : Cond.methodLink RJ5 114 yJ8_newLength_cabcc ∈ wsL_law := wT_at 739 (by decide +kernel) (by decide +kernel)
theorem tnJ8 : Cond.initialized RJ8 ∈ wsL_law := wT_at 41 (by decide +kernel) (by decide +kernel)
theorem ttJ8_newLength_cabcc : Cond.static yJ8_newLength_cabcc ∈ wsL_law := wT_at 740 (by decide +kernel) (by decide +kernel)
theorem tkJ5_39 : Cond.constant RJ5 39 (2147483647) ∈ wsL_law := wT_at 747 (by decide +kernel) (by decide +kernel)
theorem tcJ5_newCapacity_0f7a4 : Cond.code yJ5_newCapacity_0f7a4 cJ5_newCapacity_0f7a4 6 (some .int) ∈ wsL_law := wT_at 738 (by decide +kernel) (by decide +kernel)
theorem tlJ5_104 : Cond.methodLink RJ5 104 yJ5_newCapacity_0f7a4 ∈ wsL_law := wT_at 735 (by decide +kernel) (by decide +kernel)
theorem tnJ5 : Cond.initialized RJ5 ∈ wsL_law := wT_at 39 (by decide +kernel) (by decide +kernel)
theorem tsmJ5_newCapacity_0f7a4 : Cond.sameMethod RJ5 RJ5 "newCapacity" "(I)I" ∈ wsL_law := wT_at 1194 (by decide +kernel) (by decide +kernel)
theorem tiJ5_newCapacity_0f7a4 : Cond.instanceMethod yJ5_newCapacity_0f7a4 ∈ wsL_law := wT_at 737 (by decide +kernel) (by decide +kernel)
theorem tinst_J4 : Cond.instantiable RJ4 4 ∈ wsL_law := wT_at 691 (by decide +kernel) (by decide +kernel)
theorem tac_byte : Cond.arrayClass .byte ∈ wsL_law := wT_at 720 (by decide +kernel) (by decide +kernel)
theorem tlJ7_304 : Cond.methodLink RJ7 304 yJ9_min_7cf53 ∈ wsL_law := wT_at 758 (by decide +kernel) (by decide +kernel)
theorem tcJ9_min_7cf53 : Cond.code yJ9_min_7cf53 cJ9_min_7cf53 2 (some .int) ∈ wsL_law := wT_at 760 (by decide +kernel) (by decide +kernel)
theorem ttJ9_min_7cf53 : Cond.static yJ9_min_7cf53 ∈ wsL_law := wT_at 759 (by decide +kernel) (by decide +kernel)
theorem tlJ7_150 : Cond.methodLink RJ7 150 arraycopyName ∈ wsL_law := wT_at 761 (by decide +kernel) (by decide +kernel)
theorem tcpnat : Cond.native arraycopyName ∈ wsL_law := wT_at 297 (by decide +kernel) (by decide +kernel)
theorem tcpstat : Cond.static arraycopyName ∈ wsL_law := wT_at 296 (by decide +kernel) (by decide +kernel)
theorem tcpini : Cond.initialized "java/lang/System" ∈ wsL_law := wT_at 28 (by decide +kernel) (by decide +kernel)
theorem tlJ7_310 : Cond.methodLink RJ7 310 ⟨"[B", "clone", "()Ljava/lang/Object;"⟩ ∈ wsL_law := wT_at 751 (by decide +kernel) (by decide +kernel)
theorem tclsame : Cond.sameMethod "[B" "java/lang/Object" "clone" "()Ljava/lang/Object;" ∈ wsL_law := wT_at 752 (by decide +kernel) (by decide +kernel)
theorem tclnat : Cond.native ⟨"java/lang/Object", "clone", "()Ljava/lang/Object;"⟩ ∈ wsL_law := wT_at 753 (by decide +kernel) (by decide +kernel)
theorem tclinst : Cond.instanceMethod ⟨"java/lang/Object", "clone", "()Ljava/lang/Object;"⟩ ∈ wsL_law := wT_at 754 (by decide +kernel) (by decide +kernel)
theorem tclsel : Cond.selects "[B" ⟨"[B", "clone", "()Ljava/lang/Object;"⟩ ⟨"java/lang/Object", "clone", "()Ljava/lang/Object;"⟩ ∈ wsL_law := wT_at 755 (by decide +kernel) (by decide +kernel)
theorem tlcJ7_311 : Cond.classLink RJ7 311 "[B" ∈ wsL_law := wT_at 757 (by decide +kernel) (by decide +kernel)
theorem tcJ7_copyOf_9075b : Cond.code yJ7_copyOf_9075b cJ7_copyOf_9075b 3 (some (FieldType.array FieldType.byte)) ∈ wsL_law := wT_at 750 (by decide +kernel) (by decide +kernel)
theorem tlJ5_108 : Cond.methodLink RJ5 108 yJ7_copyOf_9075b ∈ wsL_law := wT_at 748 (by decide +kernel) (by decide +kernel)
theorem tnJ7 : Cond.initialized RJ7 ∈ wsL_law := wT_at 42 (by decide +kernel) (by decide +kernel)
theorem ttJ7_copyOf_9075b : Cond.static yJ7_copyOf_9075b ∈ wsL_law := wT_at 749 (by decide +kernel) (by decide +kernel)
theorem tfJ5_79 : Cond.fieldLink RJ5 79 "java/lang/AbstractStringBuilder" "count" "I" ∈ wsL_law := wT_at 710 (by decide +kernel) (by decide +kernel)
theorem tcJ5_ensureCapacityInternal_d00df : Cond.code yJ5_ensureCapacityInternal_d00df cJ5_ensureCapacityInternal_d00df 3 none ∈ wsL_law := wT_at 734 (by decide +kernel) (by decide +kernel)
theorem tlJ5_100 : Cond.methodLink RJ5 100 yJ5_ensureCapacityInternal_d00df ∈ wsL_law := wT_at 731 (by decide +kernel) (by decide +kernel)
theorem tsmJ5_ensureCapacityInternal_d00df : Cond.sameMethod RJ5 RJ5 "ensureCapacityInternal" "(I)V" ∈ wsL_law := wT_at 1193 (by decide +kernel) (by decide +kernel)
theorem tiJ5_ensureCapacityInternal_d00df : Cond.instanceMethod yJ5_ensureCapacityInternal_d00df ∈ wsL_law := wT_at 733 (by decide +kernel) (by decide +kernel)
theorem tcJ5_isLatin1_aae02 : Cond.code yJ5_isLatin1_aae02 cJ5_isLatin1_aae02 1 (some .boolean) ∈ wsL_law := wT_at 766 (by decide +kernel) (by decide +kernel)
theorem tlJ5_83 : Cond.methodLink RJ5 83 yJ5_isLatin1_aae02 ∈ wsL_law := wT_at 762 (by decide +kernel) (by decide +kernel)
theorem tsmJ5_isLatin1_aae02 : Cond.sameMethod RJ5 RJ5 "isLatin1" "()Z" ∈ wsL_law := wT_at 764 (by decide +kernel) (by decide +kernel)
theorem tiJ5_isLatin1_aae02 : Cond.instanceMethod yJ5_isLatin1_aae02 ∈ wsL_law := wT_at 763 (by decide +kernel) (by decide +kernel)
theorem tslJ5_isLatin1_aae02 : Cond.selects RJ4 yJ5_isLatin1_aae02 yJ5_isLatin1_aae02 ∈ wsL_law := wT_at 765 (by decide +kernel) (by decide +kernel)
theorem tlJ5_191 : Cond.methodLink RJ5 191 yJ1_canEncode_fc78d ∈ wsL_law := wT_at 801 (by decide +kernel) (by decide +kernel)
theorem tcJ1_canEncode_fc78d : Cond.code yJ1_canEncode_fc78d cJ1_canEncode_fc78d 1 (some .boolean) ∈ wsL_law := wT_at 803 (by decide +kernel) (by decide +kernel)
theorem ttJ1_canEncode_fc78d : Cond.static yJ1_canEncode_fc78d ∈ wsL_law := wT_at 802 (by decide +kernel) (by decide +kernel)
theorem tcJ5_append_3fe6f : Cond.code yJ5_append_3fe6f cJ5_append_3fe6f 2 (some (FieldType.object "java/lang/AbstractStringBuilder")) ∈ wsL_law := wT_at 800 (by decide +kernel) (by decide +kernel)
theorem tlJ4_50 : Cond.methodLink RJ4 50 yJ5_append_3fe6f ∈ wsL_law := wT_at 798 (by decide +kernel) (by decide +kernel)
theorem tsmJ5_append_3fe6f : Cond.sameMethod RJ5 RJ5 "append" "(C)Ljava/lang/AbstractStringBuilder;" ∈ wsL_law := wT_at 1195 (by decide +kernel) (by decide +kernel)
theorem tsuJ4 : Cond.superclass RJ4 RJ5 ∈ wsL_law := wT_at 719 (by decide +kernel) (by decide +kernel)
theorem tiJ5_append_3fe6f : Cond.instanceMethod yJ5_append_3fe6f ∈ wsL_law := wT_at 799 (by decide +kernel) (by decide +kernel)
theorem tfJ6_83 : Cond.fieldLink RJ6 83 "java/lang/Integer" "DigitOnes" "[B" ∈ wsL_law := wT_at 770 (by decide +kernel) (by decide +kernel)
theorem tfJ6_87 : Cond.fieldLink RJ6 87 "java/lang/Integer" "DigitTens" "[B" ∈ wsL_law := wT_at 772 (by decide +kernel) (by decide +kernel)
theorem tlJ5_245 : Cond.methodLink RJ5 245 yJ6_stringSize_0f7a4 ∈ wsL_law := wT_at 728 (by decide +kernel) (by decide +kernel)
theorem tcJ6_stringSize_0f7a4 : Cond.code yJ6_stringSize_0f7a4 cJ6_stringSize_0f7a4 4 (some .int) ∈ wsL_law := wT_at 730 (by decide +kernel) (by decide +kernel)
theorem ttJ6_stringSize_0f7a4 : Cond.static yJ6_stringSize_0f7a4 ∈ wsL_law := wT_at 729 (by decide +kernel) (by decide +kernel)
theorem tcJ6_getChars_ba4f3 : Cond.code yJ6_getChars_ba4f3 cJ6_getChars_ba4f3 7 (some .int) ∈ wsL_law := wT_at 769 (by decide +kernel) (by decide +kernel)
theorem tlJ5_248 : Cond.methodLink RJ5 248 yJ6_getChars_ba4f3 ∈ wsL_law := wT_at 767 (by decide +kernel) (by decide +kernel)
theorem ttJ6_getChars_ba4f3 : Cond.static yJ6_getChars_ba4f3 ∈ wsL_law := wT_at 768 (by decide +kernel) (by decide +kernel)
theorem tcJ5_append_c97b9 : Cond.code yJ5_append_c97b9 cJ5_append_c97b9 4 (some (FieldType.object "java/lang/AbstractStringBuilder")) ∈ wsL_law := wT_at 727 (by decide +kernel) (by decide +kernel)
theorem tlJ4_53 : Cond.methodLink RJ4 53 yJ5_append_c97b9 ∈ wsL_law := wT_at 725 (by decide +kernel) (by decide +kernel)
theorem tsmJ5_append_c97b9 : Cond.sameMethod RJ5 RJ5 "append" "(I)Ljava/lang/AbstractStringBuilder;" ∈ wsL_law := wT_at 1192 (by decide +kernel) (by decide +kernel)
theorem tiJ5_append_c97b9 : Cond.instanceMethod yJ5_append_c97b9 ∈ wsL_law := wT_at 726 (by decide +kernel) (by decide +kernel)
theorem tlJ0_212 : Cond.methodLink RJ0 212 arraycopyName ∈ wsL_law := wT_at 939 (by decide +kernel) (by decide +kernel)
theorem tlJ5_40 : Cond.methodLink RJ5 40 yJ0_coder_7d493 ∈ wsL_law := wT_at 934 (by decide +kernel) (by decide +kernel)
theorem tcJ5_inflateIfNeededFor_a7421 : Cond.code yJ5_inflateIfNeededFor_a7421 cJ5_inflateIfNeededFor_a7421 2 none ∈ wsL_law := wT_at 933 (by decide +kernel) (by decide +kernel)
theorem tlJ5_397 : Cond.methodLink RJ5 397 yJ5_inflateIfNeededFor_a7421 ∈ wsL_law := wT_at 930 (by decide +kernel) (by decide +kernel)
theorem tsmJ5_inflateIfNeededFor_a7421 : Cond.sameMethod RJ5 RJ5 "inflateIfNeededFor" "(Ljava/lang/String;)V" ∈ wsL_law := wT_at 1200 (by decide +kernel) (by decide +kernel)
theorem tiJ5_inflateIfNeededFor_a7421 : Cond.instanceMethod yJ5_inflateIfNeededFor_a7421 ∈ wsL_law := wT_at 932 (by decide +kernel) (by decide +kernel)
theorem tcJ0_getBytes_840e7 : Cond.code yJ0_getBytes_840e7 cJ0_getBytes_840e7 4 none ∈ wsL_law := wT_at 938 (by decide +kernel) (by decide +kernel)
theorem tlJ5_399 : Cond.methodLink RJ5 399 yJ0_getBytes_840e7 ∈ wsL_law := wT_at 935 (by decide +kernel) (by decide +kernel)
theorem tiJ0_getBytes_840e7 : Cond.instanceMethod yJ0_getBytes_840e7 ∈ wsL_law := wT_at 936 (by decide +kernel) (by decide +kernel)
theorem tsJ0_getBytes_840e7 : Cond.selects RJ0 yJ0_getBytes_840e7 yJ0_getBytes_840e7 ∈ wsL_law := wT_at 937 (by decide +kernel) (by decide +kernel)
theorem tlJ5_32 : Cond.methodLink RJ5 32 yJ0_length_8abf5 ∈ wsL_law := wT_at 925 (by decide +kernel) (by decide +kernel)
theorem tcJ5_putStringAt_47b60 : Cond.code yJ5_putStringAt_47b60 cJ5_putStringAt_47b60 3 none ∈ wsL_law := wT_at 929 (by decide +kernel) (by decide +kernel)
theorem tlJ5_208 : Cond.methodLink RJ5 208 yJ5_putStringAt_47b60 ∈ wsL_law := wT_at 926 (by decide +kernel) (by decide +kernel)
theorem tsmJ5_putStringAt_47b60 : Cond.sameMethod RJ5 RJ5 "putStringAt" "(ILjava/lang/String;)V" ∈ wsL_law := wT_at 1199 (by decide +kernel) (by decide +kernel)
theorem tiJ5_putStringAt_47b60 : Cond.instanceMethod yJ5_putStringAt_47b60 ∈ wsL_law := wT_at 928 (by decide +kernel) (by decide +kernel)
theorem tcJ5_append_cf1ce : Cond.code yJ5_append_cf1ce cJ5_append_cf1ce 3 (some (FieldType.object "java/lang/AbstractStringBuilder")) ∈ wsL_law := wT_at 917 (by decide +kernel) (by decide +kernel)
theorem tlJ4_29 : Cond.methodLink RJ4 29 yJ5_append_cf1ce ∈ wsL_law := wT_at 915 (by decide +kernel) (by decide +kernel)
theorem tsmJ5_append_cf1ce : Cond.sameMethod RJ5 RJ5 "append" "(Ljava/lang/String;)Ljava/lang/AbstractStringBuilder;" ∈ wsL_law := wT_at 1197 (by decide +kernel) (by decide +kernel)
theorem tiJ5_append_cf1ce : Cond.instanceMethod yJ5_append_cf1ce ∈ wsL_law := wT_at 916 (by decide +kernel) (by decide +kernel)
theorem tcJ4_append_15ec4 : Cond.code yJ4_append_15ec4 cJ4_append_15ec4 2 (some (FieldType.object "java/lang/StringBuilder")) ∈ wsL_law := wT_at 914 (by decide +kernel) (by decide +kernel)
theorem tlJ4_23 : Cond.methodLink RJ4 23 yJ4_append_15ec4 ∈ wsL_law := wT_at 1053 (by decide +kernel) (by decide +kernel)
theorem tnJ4 : Cond.initialized RJ4 ∈ wsL_law := wT_at 40 (by decide +kernel) (by decide +kernel)
theorem tiJ4_append_15ec4 : Cond.instanceMethod yJ4_append_15ec4 ∈ wsL_law := wT_at 912 (by decide +kernel) (by decide +kernel)
theorem tsJ4_append_15ec4 : Cond.selects RJ4 yJ4_append_15ec4 yJ4_append_15ec4 ∈ wsL_law := wT_at 913 (by decide +kernel) (by decide +kernel)
theorem tlJ5_3 : Cond.methodLink RJ5 3 Lib.objectInit ∈ wsL_law := wT_at 698 (by decide +kernel) (by decide +kernel)
theorem tcJ5_init_d00df : Cond.code yJ5_init_d00df cJ5_init_d00df 2 none ∈ wsL_law := wT_at 697 (by decide +kernel) (by decide +kernel)
theorem tlJ4_1 : Cond.methodLink RJ4 1 yJ5_init_d00df ∈ wsL_law := wT_at 695 (by decide +kernel) (by decide +kernel)
theorem tiJ5_init_d00df : Cond.instanceMethod yJ5_init_d00df ∈ wsL_law := wT_at 696 (by decide +kernel) (by decide +kernel)
theorem tkJ5_38 : Cond.constant RJ5 38 (2147483631) ∈ wsL_law := wT_at 1049 (by decide +kernel) (by decide +kernel)
theorem tcJ4_append_cf1ce : Cond.code yJ4_append_cf1ce cJ4_append_cf1ce 2 (some (FieldType.object "java/lang/AbstractStringBuilder")) ∈ wsL_law := wT_at 1052 (by decide +kernel) (by decide +kernel)
theorem tlJ5_43 : Cond.methodLink RJ5 43 yJ5_append_cf1ce ∈ wsL_law := wT_at 1050 (by decide +kernel) (by decide +kernel)
theorem tslJ5_append_cf1ce : Cond.selects RJ4 yJ5_append_cf1ce yJ4_append_cf1ce ∈ wsL_law := wT_at 1201 (by decide +kernel) (by decide +kernel)
theorem tiJ4_append_cf1ce : Cond.instanceMethod yJ4_append_cf1ce ∈ wsL_law := wT_at 1051 (by decide +kernel) (by decide +kernel)
theorem tcJ5_init_a7421 : Cond.code yJ5_init_a7421 cJ5_init_a7421 5 none ∈ wsL_law := wT_at 1048 (by decide +kernel) (by decide +kernel)
theorem tlJ4_7 : Cond.methodLink RJ4 7 yJ5_init_a7421 ∈ wsL_law := wT_at 1046 (by decide +kernel) (by decide +kernel)
theorem tiJ5_init_a7421 : Cond.instanceMethod yJ5_init_a7421 ∈ wsL_law := wT_at 1047 (by decide +kernel) (by decide +kernel)
theorem tcJ7_checkLength_df160 : Cond.code yJ7_checkLength_df160 cJ7_checkLength_df160 2 none ∈ wsL_law := wT_at 889 (by decide +kernel) (by decide +kernel)
theorem tlJ7_343 : Cond.methodLink RJ7 343 yJ7_checkLength_df160 ∈ wsL_law := wT_at 887 (by decide +kernel) (by decide +kernel)
theorem ttJ7_checkLength_df160 : Cond.static yJ7_checkLength_df160 ∈ wsL_law := wT_at 888 (by decide +kernel) (by decide +kernel)
theorem tcJ7_copyOfRangeByte_39247 : Cond.code yJ7_copyOfRangeByte_39247 cJ7_copyOfRangeByte_39247 5 (some (FieldType.array FieldType.byte)) ∈ wsL_law := wT_at 886 (by decide +kernel) (by decide +kernel)
theorem tlJ7_339 : Cond.methodLink RJ7 339 yJ7_copyOfRangeByte_39247 ∈ wsL_law := wT_at 884 (by decide +kernel) (by decide +kernel)
theorem ttJ7_copyOfRangeByte_39247 : Cond.static yJ7_copyOfRangeByte_39247 ∈ wsL_law := wT_at 885 (by decide +kernel) (by decide +kernel)
theorem tcJ5_length_8abf5 : Cond.code yJ5_length_8abf5 cJ5_length_8abf5 1 (some .int) ∈ wsL_law := wT_at 879 (by decide +kernel) (by decide +kernel)
theorem tlJ4_343 : Cond.methodLink RJ4 343 yJ5_length_8abf5 ∈ wsL_law := wT_at 878 (by decide +kernel) (by decide +kernel)
theorem tsmJ5_length_8abf5 : Cond.sameMethod RJ5 RJ5 "length" "()I" ∈ wsL_law := wT_at 874 (by decide +kernel) (by decide +kernel)
theorem tiJ5_length_8abf5 : Cond.instanceMethod yJ5_length_8abf5 ∈ wsL_law := wT_at 873 (by decide +kernel) (by decide +kernel)
theorem tlJ0_1 : Cond.methodLink RJ0 1 Lib.objectInit ∈ wsL_law := wT_at 866 (by decide +kernel) (by decide +kernel)
theorem tcJ5_getValue_6d5f1 : Cond.code yJ5_getValue_6d5f1 cJ5_getValue_6d5f1 1 (some (FieldType.array FieldType.byte)) ∈ wsL_law := wT_at 871 (by decide +kernel) (by decide +kernel)
theorem tlJ0_552 : Cond.methodLink RJ0 552 yJ5_getValue_6d5f1 ∈ wsL_law := wT_at 867 (by decide +kernel) (by decide +kernel)
theorem tsmJ5_getValue_6d5f1 : Cond.sameMethod RJ5 RJ5 "getValue" "()[B" ∈ wsL_law := wT_at 869 (by decide +kernel) (by decide +kernel)
theorem tiJ5_getValue_6d5f1 : Cond.instanceMethod yJ5_getValue_6d5f1 ∈ wsL_law := wT_at 868 (by decide +kernel) (by decide +kernel)
theorem tslJ5_getValue_6d5f1 : Cond.selects RJ4 yJ5_getValue_6d5f1 yJ5_getValue_6d5f1 ∈ wsL_law := wT_at 870 (by decide +kernel) (by decide +kernel)
theorem tcJ4_length_8abf5 : Cond.code yJ4_length_8abf5 cJ4_length_8abf5 1 (some .int) ∈ wsL_law := wT_at 877 (by decide +kernel) (by decide +kernel)
theorem tlJ0_549 : Cond.methodLink RJ0 549 yJ5_length_8abf5 ∈ wsL_law := wT_at 872 (by decide +kernel) (by decide +kernel)
theorem tslJ5_length_8abf5 : Cond.selects RJ4 yJ5_length_8abf5 yJ4_length_8abf5 ∈ wsL_law := wT_at 875 (by decide +kernel) (by decide +kernel)
theorem tiJ4_length_8abf5 : Cond.instanceMethod yJ4_length_8abf5 ∈ wsL_law := wT_at 876 (by decide +kernel) (by decide +kernel)
theorem tlJ0_1047 : Cond.methodLink RJ0 1047 yJ5_isLatin1_aae02 ∈ wsL_law := wT_at 880 (by decide +kernel) (by decide +kernel)
theorem tcJ7_copyOfRange_39247 : Cond.code yJ7_copyOfRange_39247 cJ7_copyOfRange_39247 3 (some (FieldType.array FieldType.byte)) ∈ wsL_law := wT_at 883 (by decide +kernel) (by decide +kernel)
theorem tlJ0_54 : Cond.methodLink RJ0 54 yJ7_copyOfRange_39247 ∈ wsL_law := wT_at 881 (by decide +kernel) (by decide +kernel)
theorem ttJ7_copyOfRange_39247 : Cond.static yJ7_copyOfRange_39247 ∈ wsL_law := wT_at 882 (by decide +kernel) (by decide +kernel)
theorem tcJ0_init_db425 : Cond.code yJ0_init_db425 cJ0_init_db425 5 none ∈ wsL_law := wT_at 865 (by decide +kernel) (by decide +kernel)
theorem tlJ0_489 : Cond.methodLink RJ0 489 yJ0_init_db425 ∈ wsL_law := wT_at 863 (by decide +kernel) (by decide +kernel)
theorem tiJ0_init_db425 : Cond.instanceMethod yJ0_init_db425 ∈ wsL_law := wT_at 864 (by decide +kernel) (by decide +kernel)
theorem tlcJ4_18 : Cond.classLink RJ4 18 RJ0 ∈ wsL_law := wT_at 858 (by decide +kernel) (by decide +kernel)
theorem tinst_J0 : Cond.instantiable RJ0 4 ∈ wsL_law := wT_at 859 (by decide +kernel) (by decide +kernel)
theorem tcJ0_init_81219 : Cond.code yJ0_init_81219 cJ0_init_81219 2 none ∈ wsL_law := wT_at 862 (by decide +kernel) (by decide +kernel)
theorem tlJ4_137 : Cond.methodLink RJ4 137 yJ0_init_81219 ∈ wsL_law := wT_at 860 (by decide +kernel) (by decide +kernel)
theorem tiJ0_init_81219 : Cond.instanceMethod yJ0_init_81219 ∈ wsL_law := wT_at 861 (by decide +kernel) (by decide +kernel)
theorem tlcJ0_10 : Cond.classLink RJ0 10 RJ0 ∈ wsL_law := wT_at 1092 (by decide +kernel) (by decide +kernel)
theorem tcJ1_equals_b5fdf : Cond.code yJ1_equals_b5fdf cJ1_equals_b5fdf 3 (some .boolean) ∈ wsL_law := wT_at 1095 (by decide +kernel) (by decide +kernel)
theorem tlJ0_541 : Cond.methodLink RJ0 541 yJ1_equals_b5fdf ∈ wsL_law := wT_at 1093 (by decide +kernel) (by decide +kernel)
theorem ttJ1_equals_b5fdf : Cond.static yJ1_equals_b5fdf ∈ wsL_law := wT_at 1094 (by decide +kernel) (by decide +kernel)
theorem tlcJ1_1 : Cond.classLink RJ1 1 RJ0 ∈ wsL_law := wT_at 1031 (by decide +kernel) (by decide +kernel)
theorem tlJ1_232 : Cond.methodLink RJ1 232 yJ7_copyOfRange_39247 ∈ wsL_law := wT_at 1032 (by decide +kernel) (by decide +kernel)
theorem tcJ0_init_031fb : Cond.code yJ0_init_031fb cJ0_init_031fb 3 none ∈ wsL_law := wT_at 1012 (by decide +kernel) (by decide +kernel)
theorem tlJ1_112 : Cond.methodLink RJ1 112 yJ0_init_031fb ∈ wsL_law := wT_at 1033 (by decide +kernel) (by decide +kernel)
theorem tiJ0_init_031fb : Cond.instanceMethod yJ0_init_031fb ∈ wsL_law := wT_at 1011 (by decide +kernel) (by decide +kernel)
theorem tlJ0_505 : Cond.methodLink RJ0 505 yJ0_length_8abf5 ∈ wsL_law := wT_at 1021 (by decide +kernel) (by decide +kernel)
theorem tlJ0_521 : Cond.methodLink RJ0 521 yJ0_checkBoundsBeginEnd_23922 ∈ wsL_law := wT_at 1026 (by decide +kernel) (by decide +kernel)
theorem tcJ0_checkBoundsBeginEnd_23922 : Cond.code yJ0_checkBoundsBeginEnd_23922 cJ0_checkBoundsBeginEnd_23922 3 none ∈ wsL_law := wT_at 782 (by decide +kernel) (by decide +kernel)
theorem ttJ0_checkBoundsBeginEnd_23922 : Cond.static yJ0_checkBoundsBeginEnd_23922 ∈ wsL_law := wT_at 781 (by decide +kernel) (by decide +kernel)
theorem tcJ1_newString_b4f7a : Cond.code yJ1_newString_b4f7a cJ1_newString_b4f7a 3 (some (FieldType.object "java/lang/String")) ∈ wsL_law := wT_at 1029 (by decide +kernel) (by decide +kernel)
theorem tlJ0_685 : Cond.methodLink RJ0 685 yJ1_newString_b4f7a ∈ wsL_law := wT_at 1027 (by decide +kernel) (by decide +kernel)
theorem ttJ1_newString_b4f7a : Cond.static yJ1_newString_b4f7a ∈ wsL_law := wT_at 1028 (by decide +kernel) (by decide +kernel)
theorem tcJ0_substring_37a41 : Cond.code yJ0_substring_37a41 cJ0_substring_37a41 5 (some (FieldType.object "java/lang/String")) ∈ wsL_law := wT_at 1025 (by decide +kernel) (by decide +kernel)
theorem tlJ0_681 : Cond.methodLink RJ0 681 yJ0_substring_37a41 ∈ wsL_law := wT_at 1022 (by decide +kernel) (by decide +kernel)
theorem tiJ0_substring_37a41 : Cond.instanceMethod yJ0_substring_37a41 ∈ wsL_law := wT_at 1023 (by decide +kernel) (by decide +kernel)
theorem tsJ0_substring_37a41 : Cond.selects RJ0 yJ0_substring_37a41 yJ0_substring_37a41 ∈ wsL_law := wT_at 1024 (by decide +kernel) (by decide +kernel)
theorem tfJ6_17 : Cond.fieldLink RJ6 17 "java/lang/Integer" "digits" "[C" ∈ wsL_law := wT_at 1007 (by decide +kernel) (by decide +kernel)
theorem tlJ6_51 : Cond.methodLink RJ6 51 yJ6_numberOfLeadingZeros_0f7a4 ∈ wsL_law := wT_at 998 (by decide +kernel) (by decide +kernel)
theorem tcJ6_numberOfLeadingZeros_0f7a4 : Cond.code yJ6_numberOfLeadingZeros_0f7a4 cJ6_numberOfLeadingZeros_0f7a4 2 (some .int) ∈ wsL_law := wT_at 1000 (by decide +kernel) (by decide +kernel)
theorem ttJ6_numberOfLeadingZeros_0f7a4 : Cond.static yJ6_numberOfLeadingZeros_0f7a4 ∈ wsL_law := wT_at 999 (by decide +kernel) (by decide +kernel)
theorem tlJ6_55 : Cond.methodLink RJ6 55 yJ9_max_7cf53 ∈ wsL_law := wT_at 1002 (by decide +kernel) (by decide +kernel)
theorem tfJ6_13 : Cond.fieldLink RJ6 13 "java/lang/String" "COMPACT_STRINGS" "Z" ∈ wsL_law := wT_at 1003 (by decide +kernel) (by decide +kernel)
theorem tcJ6_formatUnsignedInt_567d9 : Cond.code yJ6_formatUnsignedInt_567d9 cJ6_formatUnsignedInt_567d9 7 none ∈ wsL_law := wT_at 1006 (by decide +kernel) (by decide +kernel)
theorem tlJ6_61 : Cond.methodLink RJ6 61 yJ6_formatUnsignedInt_567d9 ∈ wsL_law := wT_at 1004 (by decide +kernel) (by decide +kernel)
theorem ttJ6_formatUnsignedInt_567d9 : Cond.static yJ6_formatUnsignedInt_567d9 ∈ wsL_law := wT_at 1005 (by decide +kernel) (by decide +kernel)
theorem tlcJ6_5 : Cond.classLink RJ6 5 RJ0 ∈ wsL_law := wT_at 1009 (by decide +kernel) (by decide +kernel)
theorem tlJ6_65 : Cond.methodLink RJ6 65 yJ0_init_031fb ∈ wsL_law := wT_at 1010 (by decide +kernel) (by decide +kernel)
theorem tcJ6_toUnsignedString0_37a41 : Cond.code yJ6_toUnsignedString0_37a41 cJ6_toUnsignedString0_37a41 5 (some (FieldType.object "java/lang/String")) ∈ wsL_law := wT_at 997 (by decide +kernel) (by decide +kernel)
theorem tlJ6_48 : Cond.methodLink RJ6 48 yJ6_toUnsignedString0_37a41 ∈ wsL_law := wT_at 995 (by decide +kernel) (by decide +kernel)
theorem ttJ6_toUnsignedString0_37a41 : Cond.static yJ6_toUnsignedString0_37a41 ∈ wsL_law := wT_at 996 (by decide +kernel) (by decide +kernel)
theorem tlX8_1 : Cond.methodLink RX8 1 Lib.objectInit ∈ wsL_law := wT_at 643 (by decide +kernel) (by decide +kernel)
theorem tfX8_7 : Cond.fieldLink RX8 7 "MoodSextantLaw$Bits" "bits" "I" ∈ wsL_law := wT_at 644 (by decide +kernel) (by decide +kernel)
theorem tkX8_13 : Cond.constant RX8 13 (1103515245) ∈ wsL_law := wT_at 652 (by decide +kernel) (by decide +kernel)
theorem tyJ0_0 : Cond.laysFinal RJ0 "java/lang/String" "value" "[B" ∈ wsL_law := wT_at 902 (by decide +kernel) (by decide +kernel)
theorem tyJ0_1 : Cond.laysFinal RJ0 "java/lang/String" "coder" "B" ∈ wsL_law := wT_at 904 (by decide +kernel) (by decide +kernel)
theorem tyJ0_2 : Cond.lays RJ0 "java/lang/String" "hash" "I" ∈ wsL_law := wT_at 906 (by decide +kernel) (by decide +kernel)
theorem tyJ0_3 : Cond.lays RJ0 "java/lang/String" "hashIsZero" "Z" ∈ wsL_law := wT_at 908 (by decide +kernel) (by decide +kernel)
theorem tyJ4_0 : Cond.lays RJ4 "java/lang/AbstractStringBuilder" "value" "[B" ∈ wsL_law := wT_at 711 (by decide +kernel) (by decide +kernel)
theorem tyJ4_1 : Cond.lays RJ4 "java/lang/AbstractStringBuilder" "coder" "B" ∈ wsL_law := wT_at 713 (by decide +kernel) (by decide +kernel)
theorem tyJ4_2 : Cond.lays RJ4 "java/lang/AbstractStringBuilder" "maybeLatin1" "Z" ∈ wsL_law := wT_at 715 (by decide +kernel) (by decide +kernel)
theorem tyJ4_3 : Cond.lays RJ4 "java/lang/AbstractStringBuilder" "count" "I" ∈ wsL_law := wT_at 717 (by decide +kernel) (by decide +kernel)
theorem tyX8_0 : Cond.lays RX8 "MoodSextantLaw$Bits" "bits" "I" ∈ wsL_law := wT_at 645 (by decide +kernel) (by decide +kernel)
theorem tdJxf58ca_isNaN_12338 : yJxf58ca_isNaN_12338.cls ≠ "java/lang/invoke/MethodHandle" ∧ yJxf58ca_isNaN_12338.cls ≠ "java/lang/invoke/VarHandle" ∧ (parseMethodDescriptor yJxf58ca_isNaN_12338.desc).map (fun d => d.parameters.length) = some 1 := by decide +kernel
theorem tdJ3_checkFromToIndex_8c36e : yJ3_checkFromToIndex_8c36e.cls ≠ "java/lang/invoke/MethodHandle" ∧ yJ3_checkFromToIndex_8c36e.cls ≠ "java/lang/invoke/VarHandle" ∧ (parseMethodDescriptor yJ3_checkFromToIndex_8c36e.desc).map (fun d => d.parameters.length) = some 4 := by decide +kernel
theorem tdJ8_newLength_cabcc : yJ8_newLength_cabcc.cls ≠ "java/lang/invoke/MethodHandle" ∧ yJ8_newLength_cabcc.cls ≠ "java/lang/invoke/VarHandle" ∧ (parseMethodDescriptor yJ8_newLength_cabcc.desc).map (fun d => d.parameters.length) = some 3 := by decide +kernel
theorem tdJ5_newCapacity_0f7a4 : yJ5_newCapacity_0f7a4.cls ≠ "java/lang/invoke/MethodHandle" ∧ yJ5_newCapacity_0f7a4.cls ≠ "java/lang/invoke/VarHandle" ∧ (parseMethodDescriptor yJ5_newCapacity_0f7a4.desc).map (fun d => d.parameters.length) = some 1 := by decide +kernel
theorem tdJ9_min_7cf53 : yJ9_min_7cf53.cls ≠ "java/lang/invoke/MethodHandle" ∧ yJ9_min_7cf53.cls ≠ "java/lang/invoke/VarHandle" ∧ (parseMethodDescriptor yJ9_min_7cf53.desc).map (fun d => d.parameters.length) = some 2 := by decide +kernel
theorem tdJ7_copyOf_9075b : yJ7_copyOf_9075b.cls ≠ "java/lang/invoke/MethodHandle" ∧ yJ7_copyOf_9075b.cls ≠ "java/lang/invoke/VarHandle" ∧ (parseMethodDescriptor yJ7_copyOf_9075b.desc).map (fun d => d.parameters.length) = some 2 := by decide +kernel
theorem tdJ5_ensureCapacityInternal_d00df : yJ5_ensureCapacityInternal_d00df.cls ≠ "java/lang/invoke/MethodHandle" ∧ yJ5_ensureCapacityInternal_d00df.cls ≠ "java/lang/invoke/VarHandle" ∧ (parseMethodDescriptor yJ5_ensureCapacityInternal_d00df.desc).map (fun d => d.parameters.length) = some 1 := by decide +kernel
theorem tdJ5_isLatin1_aae02 : yJ5_isLatin1_aae02.cls ≠ "java/lang/invoke/MethodHandle" ∧ yJ5_isLatin1_aae02.cls ≠ "java/lang/invoke/VarHandle" ∧ (parseMethodDescriptor yJ5_isLatin1_aae02.desc).map (fun d => d.parameters.length) = some 0 := by decide +kernel
theorem tdJ1_canEncode_fc78d : yJ1_canEncode_fc78d.cls ≠ "java/lang/invoke/MethodHandle" ∧ yJ1_canEncode_fc78d.cls ≠ "java/lang/invoke/VarHandle" ∧ (parseMethodDescriptor yJ1_canEncode_fc78d.desc).map (fun d => d.parameters.length) = some 1 := by decide +kernel
theorem tdJ5_append_3fe6f : yJ5_append_3fe6f.cls ≠ "java/lang/invoke/MethodHandle" ∧ yJ5_append_3fe6f.cls ≠ "java/lang/invoke/VarHandle" ∧ (parseMethodDescriptor yJ5_append_3fe6f.desc).map (fun d => d.parameters.length) = some 1 := by decide +kernel
theorem tdJ6_stringSize_0f7a4 : yJ6_stringSize_0f7a4.cls ≠ "java/lang/invoke/MethodHandle" ∧ yJ6_stringSize_0f7a4.cls ≠ "java/lang/invoke/VarHandle" ∧ (parseMethodDescriptor yJ6_stringSize_0f7a4.desc).map (fun d => d.parameters.length) = some 1 := by decide +kernel
theorem tdJ6_getChars_ba4f3 : yJ6_getChars_ba4f3.cls ≠ "java/lang/invoke/MethodHandle" ∧ yJ6_getChars_ba4f3.cls ≠ "java/lang/invoke/VarHandle" ∧ (parseMethodDescriptor yJ6_getChars_ba4f3.desc).map (fun d => d.parameters.length) = some 3 := by decide +kernel
theorem tdJ5_append_c97b9 : yJ5_append_c97b9.cls ≠ "java/lang/invoke/MethodHandle" ∧ yJ5_append_c97b9.cls ≠ "java/lang/invoke/VarHandle" ∧ (parseMethodDescriptor yJ5_append_c97b9.desc).map (fun d => d.parameters.length) = some 1 := by decide +kernel
theorem tdJ5_inflateIfNeededFor_a7421 : yJ5_inflateIfNeededFor_a7421.cls ≠ "java/lang/invoke/MethodHandle" ∧ yJ5_inflateIfNeededFor_a7421.cls ≠ "java/lang/invoke/VarHandle" ∧ (parseMethodDescriptor yJ5_inflateIfNeededFor_a7421.desc).map (fun d => d.parameters.length) = some 1 := by decide +kernel
theorem tdJ0_getBytes_840e7 : yJ0_getBytes_840e7.cls ≠ "java/lang/invoke/MethodHandle" ∧ yJ0_getBytes_840e7.cls ≠ "java/lang/invoke/VarHandle" ∧ (parseMethodDescriptor yJ0_getBytes_840e7.desc).map (fun d => d.parameters.length) = some 3 := by decide +kernel
theorem tdJ5_putStringAt_47b60 : yJ5_putStringAt_47b60.cls ≠ "java/lang/invoke/MethodHandle" ∧ yJ5_putStringAt_47b60.cls ≠ "java/lang/invoke/VarHandle" ∧ (parseMethodDescriptor yJ5_putStringAt_47b60.desc).map (fun d => d.parameters.length) = some 2 := by decide +kernel
theorem tdJ5_append_cf1ce : yJ5_append_cf1ce.cls ≠ "java/lang/invoke/MethodHandle" ∧ yJ5_append_cf1ce.cls ≠ "java/lang/invoke/VarHandle" ∧ (parseMethodDescriptor yJ5_append_cf1ce.desc).map (fun d => d.parameters.length) = some 1 := by decide +kernel
theorem tdJ4_append_15ec4 : yJ4_append_15ec4.cls ≠ "java/lang/invoke/MethodHandle" ∧ yJ4_append_15ec4.cls ≠ "java/lang/invoke/VarHandle" ∧ (parseMethodDescriptor yJ4_append_15ec4.desc).map (fun d => d.parameters.length) = some 1 := by decide +kernel
theorem tdJ5_init_d00df : yJ5_init_d00df.cls ≠ "java/lang/invoke/MethodHandle" ∧ yJ5_init_d00df.cls ≠ "java/lang/invoke/VarHandle" ∧ (parseMethodDescriptor yJ5_init_d00df.desc).map (fun d => d.parameters.length) = some 1 := by decide +kernel
theorem tdJ4_append_cf1ce : yJ4_append_cf1ce.cls ≠ "java/lang/invoke/MethodHandle" ∧ yJ4_append_cf1ce.cls ≠ "java/lang/invoke/VarHandle" ∧ (parseMethodDescriptor yJ4_append_cf1ce.desc).map (fun d => d.parameters.length) = some 1 := by decide +kernel
theorem tdJ5_init_a7421 : yJ5_init_a7421.cls ≠ "java/lang/invoke/MethodHandle" ∧ yJ5_init_a7421.cls ≠ "java/lang/invoke/VarHandle" ∧ (parseMethodDescriptor yJ5_init_a7421.desc).map (fun d => d.parameters.length) = some 1 := by decide +kernel
theorem tdJ7_checkLength_df160 : yJ7_checkLength_df160.cls ≠ "java/lang/invoke/MethodHandle" ∧ yJ7_checkLength_df160.cls ≠ "java/lang/invoke/VarHandle" ∧ (parseMethodDescriptor yJ7_checkLength_df160.desc).map (fun d => d.parameters.length) = some 2 := by decide +kernel
theorem tdJ7_copyOfRangeByte_39247 : yJ7_copyOfRangeByte_39247.cls ≠ "java/lang/invoke/MethodHandle" ∧ yJ7_copyOfRangeByte_39247.cls ≠ "java/lang/invoke/VarHandle" ∧ (parseMethodDescriptor yJ7_copyOfRangeByte_39247.desc).map (fun d => d.parameters.length) = some 3 := by decide +kernel
theorem tdJ5_length_8abf5 : yJ5_length_8abf5.cls ≠ "java/lang/invoke/MethodHandle" ∧ yJ5_length_8abf5.cls ≠ "java/lang/invoke/VarHandle" ∧ (parseMethodDescriptor yJ5_length_8abf5.desc).map (fun d => d.parameters.length) = some 0 := by decide +kernel
theorem tdJ5_getValue_6d5f1 : yJ5_getValue_6d5f1.cls ≠ "java/lang/invoke/MethodHandle" ∧ yJ5_getValue_6d5f1.cls ≠ "java/lang/invoke/VarHandle" ∧ (parseMethodDescriptor yJ5_getValue_6d5f1.desc).map (fun d => d.parameters.length) = some 0 := by decide +kernel
theorem tdJ4_length_8abf5 : yJ4_length_8abf5.cls ≠ "java/lang/invoke/MethodHandle" ∧ yJ4_length_8abf5.cls ≠ "java/lang/invoke/VarHandle" ∧ (parseMethodDescriptor yJ4_length_8abf5.desc).map (fun d => d.parameters.length) = some 0 := by decide +kernel
theorem tdJ7_copyOfRange_39247 : yJ7_copyOfRange_39247.cls ≠ "java/lang/invoke/MethodHandle" ∧ yJ7_copyOfRange_39247.cls ≠ "java/lang/invoke/VarHandle" ∧ (parseMethodDescriptor yJ7_copyOfRange_39247.desc).map (fun d => d.parameters.length) = some 3 := by decide +kernel
theorem tdJ0_init_db425 : yJ0_init_db425.cls ≠ "java/lang/invoke/MethodHandle" ∧ yJ0_init_db425.cls ≠ "java/lang/invoke/VarHandle" ∧ (parseMethodDescriptor yJ0_init_db425.desc).map (fun d => d.parameters.length) = some 2 := by decide +kernel
theorem tdJ0_init_81219 : yJ0_init_81219.cls ≠ "java/lang/invoke/MethodHandle" ∧ yJ0_init_81219.cls ≠ "java/lang/invoke/VarHandle" ∧ (parseMethodDescriptor yJ0_init_81219.desc).map (fun d => d.parameters.length) = some 1 := by decide +kernel
theorem tdJ1_equals_b5fdf : yJ1_equals_b5fdf.cls ≠ "java/lang/invoke/MethodHandle" ∧ yJ1_equals_b5fdf.cls ≠ "java/lang/invoke/VarHandle" ∧ (parseMethodDescriptor yJ1_equals_b5fdf.desc).map (fun d => d.parameters.length) = some 2 := by decide +kernel
theorem tdJ0_init_031fb : yJ0_init_031fb.cls ≠ "java/lang/invoke/MethodHandle" ∧ yJ0_init_031fb.cls ≠ "java/lang/invoke/VarHandle" ∧ (parseMethodDescriptor yJ0_init_031fb.desc).map (fun d => d.parameters.length) = some 2 := by decide +kernel
theorem tdJ0_checkBoundsBeginEnd_23922 : yJ0_checkBoundsBeginEnd_23922.cls ≠ "java/lang/invoke/MethodHandle" ∧ yJ0_checkBoundsBeginEnd_23922.cls ≠ "java/lang/invoke/VarHandle" ∧ (parseMethodDescriptor yJ0_checkBoundsBeginEnd_23922.desc).map (fun d => d.parameters.length) = some 3 := by decide +kernel
theorem tdJ1_newString_b4f7a : yJ1_newString_b4f7a.cls ≠ "java/lang/invoke/MethodHandle" ∧ yJ1_newString_b4f7a.cls ≠ "java/lang/invoke/VarHandle" ∧ (parseMethodDescriptor yJ1_newString_b4f7a.desc).map (fun d => d.parameters.length) = some 3 := by decide +kernel
theorem tdJ0_substring_37a41 : yJ0_substring_37a41.cls ≠ "java/lang/invoke/MethodHandle" ∧ yJ0_substring_37a41.cls ≠ "java/lang/invoke/VarHandle" ∧ (parseMethodDescriptor yJ0_substring_37a41.desc).map (fun d => d.parameters.length) = some 2 := by decide +kernel
theorem tdJ6_numberOfLeadingZeros_0f7a4 : yJ6_numberOfLeadingZeros_0f7a4.cls ≠ "java/lang/invoke/MethodHandle" ∧ yJ6_numberOfLeadingZeros_0f7a4.cls ≠ "java/lang/invoke/VarHandle" ∧ (parseMethodDescriptor yJ6_numberOfLeadingZeros_0f7a4.desc).map (fun d => d.parameters.length) = some 1 := by decide +kernel
theorem tdJ6_formatUnsignedInt_567d9 : yJ6_formatUnsignedInt_567d9.cls ≠ "java/lang/invoke/MethodHandle" ∧ yJ6_formatUnsignedInt_567d9.cls ≠ "java/lang/invoke/VarHandle" ∧ (parseMethodDescriptor yJ6_formatUnsignedInt_567d9.desc).map (fun d => d.parameters.length) = some 4 := by decide +kernel
theorem tdJ6_toUnsignedString0_37a41 : yJ6_toUnsignedString0_37a41.cls ≠ "java/lang/invoke/MethodHandle" ∧ yJ6_toUnsignedString0_37a41.cls ≠ "java/lang/invoke/VarHandle" ∧ (parseMethodDescriptor yJ6_toUnsignedString0_37a41.desc).map (fun d => d.parameters.length) = some 2 := by decide +kernel
theorem inJ0w : ∀ z ∈ u_ws RJ0 TJ0 4, z ∈ wsL_law := by
  intro z hz
  obtain ⟨k, hk, rfl⟩ := List.mem_map.mp hz
  have hk := List.mem_range.mp hk
  match k, hk with
  | 0, _ => exact tyJ0_0
  | 1, _ => exact tyJ0_1
  | 2, _ => exact tyJ0_2
  | 3, _ => exact tyJ0_3
  | k + 4, hk => omega
theorem inJ4w : ∀ z ∈ u_ws RJ4 TJ4 4, z ∈ wsL_law := by
  intro z hz
  obtain ⟨k, hk, rfl⟩ := List.mem_map.mp hz
  have hk := List.mem_range.mp hk
  match k, hk with
  | 0, _ => exact tyJ4_0
  | 1, _ => exact tyJ4_1
  | 2, _ => exact tyJ4_2
  | 3, _ => exact tyJ4_3
  | k + 4, hk => omega
theorem inX8w : ∀ z ∈ u_ws RX8 TX8 1, z ∈ wsL_law := by
  intro z hz
  obtain ⟨k, hk, rfl⟩ := List.mem_map.mp hz
  have hk := List.mem_range.mp hk
  match k, hk with
  | 0, _ => exact tyX8_0
  | k + 1, hk => omega
