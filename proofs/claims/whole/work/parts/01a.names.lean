-- ===== PART A: goes FIRST, ahead of the names: the tables' words, and 'selects' of the private methods out of them =====
/-- a private method of a class that the tables say can be made, by its rows of tables_1 -/
def lw_okq (q : MethodName × Nat) : Prop := (q.1.cls ≠ "java/lang/invoke/MethodHandle" ∧ q.1.cls ≠ "java/lang/invoke/VarHandle") ∧ Cond.instantiable q.1.cls q.2 ∈ tables_1 ∧ Cond.privateMethod q.1 ∈ tables_1 ∧ Cond.instanceMethod q.1 ∈ tables_1
theorem lw_p0 : lw_okq (⟨"MoodSextant", "isRefused", "(LMoodSextant$Form;II)Z"⟩, 10) := ⟨⟨by decide +kernel, by decide +kernel⟩, List.mem_of_getElem? (i := 20) (by decide +kernel), List.mem_of_getElem? (i := 226) (by decide +kernel), List.mem_of_getElem? (i := 227) (by decide +kernel)⟩
theorem lw_p1 : lw_okq (⟨"MoodSextant$Ship", "isSightedNow", "(I)Z"⟩, 15) := ⟨⟨by decide +kernel, by decide +kernel⟩, List.mem_of_getElem? (i := 28) (by decide +kernel), List.mem_of_getElem? (i := 242) (by decide +kernel), List.mem_of_getElem? (i := 243) (by decide +kernel)⟩
theorem lw_p2 : lw_okq (⟨"MoodSextant$Ship", "sightFrom", "(II)I"⟩, 15) := ⟨⟨by decide +kernel, by decide +kernel⟩, List.mem_of_getElem? (i := 28) (by decide +kernel), List.mem_of_getElem? (i := 246) (by decide +kernel), List.mem_of_getElem? (i := 247) (by decide +kernel)⟩
theorem lw_p3 : lw_okq (⟨"MoodSextant", "change", "(LMoodSextant$Form;II)V"⟩, 10) := ⟨⟨by decide +kernel, by decide +kernel⟩, List.mem_of_getElem? (i := 20) (by decide +kernel), List.mem_of_getElem? (i := 259) (by decide +kernel), List.mem_of_getElem? (i := 260) (by decide +kernel)⟩
theorem lw_p4 : lw_okq (⟨"MoodSextant$Ship", "addSailor", "(I)V"⟩, 15) := ⟨⟨by decide +kernel, by decide +kernel⟩, List.mem_of_getElem? (i := 28) (by decide +kernel), List.mem_of_getElem? (i := 278) (by decide +kernel), List.mem_of_getElem? (i := 279) (by decide +kernel)⟩
theorem lw_p5 : lw_okq (⟨"MoodSextant$Ship", "removeSailor", "(I)V"⟩, 15) := ⟨⟨by decide +kernel, by decide +kernel⟩, List.mem_of_getElem? (i := 28) (by decide +kernel), List.mem_of_getElem? (i := 282) (by decide +kernel), List.mem_of_getElem? (i := 283) (by decide +kernel)⟩
theorem lw_p6 : lw_okq (⟨"MoodSextant$Ship", "forgetSightsOf", "(I)V"⟩, 15) := ⟨⟨by decide +kernel, by decide +kernel⟩, List.mem_of_getElem? (i := 28) (by decide +kernel), List.mem_of_getElem? (i := 286) (by decide +kernel), List.mem_of_getElem? (i := 287) (by decide +kernel)⟩
theorem lw_p7 : lw_okq (⟨"MoodSextant$Ship", "addSight", "(I)V"⟩, 15) := ⟨⟨by decide +kernel, by decide +kernel⟩, List.mem_of_getElem? (i := 28) (by decide +kernel), List.mem_of_getElem? (i := 290) (by decide +kernel), List.mem_of_getElem? (i := 291) (by decide +kernel)⟩
theorem lw_p8 : lw_okq (⟨"MoodSextant$Ship", "give", "(II)V"⟩, 15) := ⟨⟨by decide +kernel, by decide +kernel⟩, List.mem_of_getElem? (i := 28) (by decide +kernel), List.mem_of_getElem? (i := 329) (by decide +kernel), List.mem_of_getElem? (i := 330) (by decide +kernel)⟩
theorem lw_p9 : lw_okq (⟨"MoodSextant$Ship", "passHour", "()V"⟩, 15) := ⟨⟨by decide +kernel, by decide +kernel⟩, List.mem_of_getElem? (i := 28) (by decide +kernel), List.mem_of_getElem? (i := 333) (by decide +kernel), List.mem_of_getElem? (i := 334) (by decide +kernel)⟩
theorem lw_p10 : lw_okq (⟨"MoodSextant$Ship", "mateSet", "(I)I"⟩, 15) := ⟨⟨by decide +kernel, by decide +kernel⟩, List.mem_of_getElem? (i := 28) (by decide +kernel), List.mem_of_getElem? (i := 421) (by decide +kernel), List.mem_of_getElem? (i := 422) (by decide +kernel)⟩
theorem lw_p11 : lw_okq (⟨"MoodSextant$Ship", "areMates", "(II)Z"⟩, 15) := ⟨⟨by decide +kernel, by decide +kernel⟩, List.mem_of_getElem? (i := 28) (by decide +kernel), List.mem_of_getElem? (i := 425) (by decide +kernel), List.mem_of_getElem? (i := 426) (by decide +kernel)⟩
theorem lw_p12 : lw_okq (⟨"MoodSextant$Ship", "latestReading", "(I)F"⟩, 15) := ⟨⟨by decide +kernel, by decide +kernel⟩, List.mem_of_getElem? (i := 28) (by decide +kernel), List.mem_of_getElem? (i := 488) (by decide +kernel), List.mem_of_getElem? (i := 489) (by decide +kernel)⟩
theorem lw_p13 : lw_okq (⟨"MoodSextant$Ship", "secondReading", "(I)F"⟩, 15) := ⟨⟨by decide +kernel, by decide +kernel⟩, List.mem_of_getElem? (i := 28) (by decide +kernel), List.mem_of_getElem? (i := 492) (by decide +kernel), List.mem_of_getElem? (i := 493) (by decide +kernel)⟩
theorem lw_p14 : lw_okq (⟨"MoodSextant$Ship", "isHigher", "(II)Z"⟩, 15) := ⟨⟨by decide +kernel, by decide +kernel⟩, List.mem_of_getElem? (i := 28) (by decide +kernel), List.mem_of_getElem? (i := 561) (by decide +kernel), List.mem_of_getElem? (i := 562) (by decide +kernel)⟩
theorem lw_p15 : lw_okq (⟨"MoodSextant$Ship", "isSightHigher", "(II)Z"⟩, 15) := ⟨⟨by decide +kernel, by decide +kernel⟩, List.mem_of_getElem? (i := 28) (by decide +kernel), List.mem_of_getElem? (i := 573) (by decide +kernel), List.mem_of_getElem? (i := 574) (by decide +kernel)⟩
def lw_privs_1 : List (MethodName × Nat) := [(⟨"MoodSextant", "isRefused", "(LMoodSextant$Form;II)Z"⟩, 10), (⟨"MoodSextant$Ship", "isSightedNow", "(I)Z"⟩, 15), (⟨"MoodSextant$Ship", "sightFrom", "(II)I"⟩, 15), (⟨"MoodSextant", "change", "(LMoodSextant$Form;II)V"⟩, 10), (⟨"MoodSextant$Ship", "addSailor", "(I)V"⟩, 15), (⟨"MoodSextant$Ship", "removeSailor", "(I)V"⟩, 15), (⟨"MoodSextant$Ship", "forgetSightsOf", "(I)V"⟩, 15), (⟨"MoodSextant$Ship", "addSight", "(I)V"⟩, 15), (⟨"MoodSextant$Ship", "give", "(II)V"⟩, 15), (⟨"MoodSextant$Ship", "passHour", "()V"⟩, 15), (⟨"MoodSextant$Ship", "mateSet", "(I)I"⟩, 15), (⟨"MoodSextant$Ship", "areMates", "(II)Z"⟩, 15), (⟨"MoodSextant$Ship", "latestReading", "(I)F"⟩, 15), (⟨"MoodSextant$Ship", "secondReading", "(I)F"⟩, 15), (⟨"MoodSextant$Ship", "isHigher", "(II)Z"⟩, 15), (⟨"MoodSextant$Ship", "isSightHigher", "(II)Z"⟩, 15)]
theorem lw_r1 : ∀ q ∈ lw_privs_1, lw_okq q := List.forall_mem_cons.mpr ⟨lw_p0, List.forall_mem_cons.mpr ⟨lw_p1, List.forall_mem_cons.mpr ⟨lw_p2, List.forall_mem_cons.mpr ⟨lw_p3, List.forall_mem_cons.mpr ⟨lw_p4, List.forall_mem_cons.mpr ⟨lw_p5, List.forall_mem_cons.mpr ⟨lw_p6, List.forall_mem_cons.mpr ⟨lw_p7, List.forall_mem_cons.mpr ⟨lw_p8, List.forall_mem_cons.mpr ⟨lw_p9, List.forall_mem_cons.mpr ⟨lw_p10, List.forall_mem_cons.mpr ⟨lw_p11, List.forall_mem_cons.mpr ⟨lw_p12, List.forall_mem_cons.mpr ⟨lw_p13, List.forall_mem_cons.mpr ⟨lw_p14, List.forall_mem_cons.mpr ⟨lw_p15, fun _ h => absurd h List.not_mem_nil⟩⟩⟩⟩⟩⟩⟩⟩⟩⟩⟩⟩⟩⟩⟩⟩
theorem lw_p16 : lw_okq (⟨"MoodSextant$Text", "formAt", "(I)LMoodSextant$Form;"⟩, 6) := ⟨⟨by decide +kernel, by decide +kernel⟩, List.mem_of_getElem? (i := 136) (by decide +kernel), List.mem_of_getElem? (i := 666) (by decide +kernel), List.mem_of_getElem? (i := 667) (by decide +kernel)⟩
theorem lw_p17 : lw_okq (⟨"MoodSextant$Text", "matchedAt", "(Ljava/lang/String;I)I"⟩, 6) := ⟨⟨by decide +kernel, by decide +kernel⟩, List.mem_of_getElem? (i := 136) (by decide +kernel), List.mem_of_getElem? (i := 672) (by decide +kernel), List.mem_of_getElem? (i := 673) (by decide +kernel)⟩
theorem lw_p18 : lw_okq (⟨"MoodSextant$Text", "farthestAt", "(I)I"⟩, 6) := ⟨⟨by decide +kernel, by decide +kernel⟩, List.mem_of_getElem? (i := 136) (by decide +kernel), List.mem_of_getElem? (i := 730) (by decide +kernel), List.mem_of_getElem? (i := 731) (by decide +kernel)⟩
theorem lw_p19 : lw_okq (⟨"MoodSextant$Text", "keep", "(LMoodSextant$Form;I)V"⟩, 6) := ⟨⟨by decide +kernel, by decide +kernel⟩, List.mem_of_getElem? (i := 136) (by decide +kernel), List.mem_of_getElem? (i := 735) (by decide +kernel), List.mem_of_getElem? (i := 736) (by decide +kernel)⟩
theorem lw_p20 : lw_okq (⟨"MoodSextant", "isTextDone", "()Z"⟩, 10) := ⟨⟨by decide +kernel, by decide +kernel⟩, List.mem_of_getElem? (i := 20) (by decide +kernel), List.mem_of_getElem? (i := 749) (by decide +kernel), List.mem_of_getElem? (i := 750) (by decide +kernel)⟩
theorem lw_p21 : lw_okq (⟨"MoodSextantModel", "begins", "()V"⟩, 24) := ⟨⟨by decide +kernel, by decide +kernel⟩, List.mem_of_getElem? (i := 796) (by decide +kernel), List.mem_of_getElem? (i := 879) (by decide +kernel), List.mem_of_getElem? (i := 880) (by decide +kernel)⟩
theorem lw_p22 : lw_okq (⟨"MoodSextantModel", "comes", "(I)I"⟩, 24) := ⟨⟨by decide +kernel, by decide +kernel⟩, List.mem_of_getElem? (i := 796) (by decide +kernel), List.mem_of_getElem? (i := 886) (by decide +kernel), List.mem_of_getElem? (i := 887) (by decide +kernel)⟩
theorem lw_p23 : lw_okq (⟨"MoodSextantModel", "fail", "(I)I"⟩, 24) := ⟨⟨by decide +kernel, by decide +kernel⟩, List.mem_of_getElem? (i := 796) (by decide +kernel), List.mem_of_getElem? (i := 898) (by decide +kernel), List.mem_of_getElem? (i := 899) (by decide +kernel)⟩
theorem lw_p24 : lw_okq (⟨"MoodSextantModel", "refuses", "(II)I"⟩, 24) := ⟨⟨by decide +kernel, by decide +kernel⟩, List.mem_of_getElem? (i := 796) (by decide +kernel), List.mem_of_getElem? (i := 902) (by decide +kernel), List.mem_of_getElem? (i := 903) (by decide +kernel)⟩
theorem lw_p25 : lw_okq (⟨"MoodSextantModel", "ends", "(I)I"⟩, 24) := ⟨⟨by decide +kernel, by decide +kernel⟩, List.mem_of_getElem? (i := 796) (by decide +kernel), List.mem_of_getElem? (i := 910) (by decide +kernel), List.mem_of_getElem? (i := 911) (by decide +kernel)⟩
theorem lw_p26 : lw_okq (⟨"MoodSextantModel", "goes", "(I)I"⟩, 24) := ⟨⟨by decide +kernel, by decide +kernel⟩, List.mem_of_getElem? (i := 796) (by decide +kernel), List.mem_of_getElem? (i := 918) (by decide +kernel), List.mem_of_getElem? (i := 919) (by decide +kernel)⟩
theorem lw_p27 : lw_okq (⟨"MoodSextantModel", "isSailor", "(I)Z"⟩, 24) := ⟨⟨by decide +kernel, by decide +kernel⟩, List.mem_of_getElem? (i := 796) (by decide +kernel), List.mem_of_getElem? (i := 922) (by decide +kernel), List.mem_of_getElem? (i := 923) (by decide +kernel)⟩
theorem lw_p28 : lw_okq (⟨"MoodSextantModel", "forgets", "(I)V"⟩, 24) := ⟨⟨by decide +kernel, by decide +kernel⟩, List.mem_of_getElem? (i := 796) (by decide +kernel), List.mem_of_getElem? (i := 927) (by decide +kernel), List.mem_of_getElem? (i := 928) (by decide +kernel)⟩
theorem lw_p29 : lw_okq (⟨"MoodSextantModel", "moods", "(II)I"⟩, 24) := ⟨⟨by decide +kernel, by decide +kernel⟩, List.mem_of_getElem? (i := 796) (by decide +kernel), List.mem_of_getElem? (i := 935) (by decide +kernel), List.mem_of_getElem? (i := 936) (by decide +kernel)⟩
theorem lw_p30 : lw_okq (⟨"MoodSextantModel", "sets", "(II)I"⟩, 24) := ⟨⟨by decide +kernel, by decide +kernel⟩, List.mem_of_getElem? (i := 796) (by decide +kernel), List.mem_of_getElem? (i := 939) (by decide +kernel), List.mem_of_getElem? (i := 940) (by decide +kernel)⟩
theorem lw_p31 : lw_okq (⟨"MoodSextantModel", "drinks", "(II)I"⟩, 24) := ⟨⟨by decide +kernel, by decide +kernel⟩, List.mem_of_getElem? (i := 796) (by decide +kernel), List.mem_of_getElem? (i := 947) (by decide +kernel), List.mem_of_getElem? (i := 948) (by decide +kernel)⟩
def lw_privs_2 : List (MethodName × Nat) := [(⟨"MoodSextant$Text", "formAt", "(I)LMoodSextant$Form;"⟩, 6), (⟨"MoodSextant$Text", "matchedAt", "(Ljava/lang/String;I)I"⟩, 6), (⟨"MoodSextant$Text", "farthestAt", "(I)I"⟩, 6), (⟨"MoodSextant$Text", "keep", "(LMoodSextant$Form;I)V"⟩, 6), (⟨"MoodSextant", "isTextDone", "()Z"⟩, 10), (⟨"MoodSextantModel", "begins", "()V"⟩, 24), (⟨"MoodSextantModel", "comes", "(I)I"⟩, 24), (⟨"MoodSextantModel", "fail", "(I)I"⟩, 24), (⟨"MoodSextantModel", "refuses", "(II)I"⟩, 24), (⟨"MoodSextantModel", "ends", "(I)I"⟩, 24), (⟨"MoodSextantModel", "goes", "(I)I"⟩, 24), (⟨"MoodSextantModel", "isSailor", "(I)Z"⟩, 24), (⟨"MoodSextantModel", "forgets", "(I)V"⟩, 24), (⟨"MoodSextantModel", "moods", "(II)I"⟩, 24), (⟨"MoodSextantModel", "sets", "(II)I"⟩, 24), (⟨"MoodSextantModel", "drinks", "(II)I"⟩, 24)]
theorem lw_r2 : ∀ q ∈ lw_privs_2, lw_okq q := List.forall_mem_cons.mpr ⟨lw_p16, List.forall_mem_cons.mpr ⟨lw_p17, List.forall_mem_cons.mpr ⟨lw_p18, List.forall_mem_cons.mpr ⟨lw_p19, List.forall_mem_cons.mpr ⟨lw_p20, List.forall_mem_cons.mpr ⟨lw_p21, List.forall_mem_cons.mpr ⟨lw_p22, List.forall_mem_cons.mpr ⟨lw_p23, List.forall_mem_cons.mpr ⟨lw_p24, List.forall_mem_cons.mpr ⟨lw_p25, List.forall_mem_cons.mpr ⟨lw_p26, List.forall_mem_cons.mpr ⟨lw_p27, List.forall_mem_cons.mpr ⟨lw_p28, List.forall_mem_cons.mpr ⟨lw_p29, List.forall_mem_cons.mpr ⟨lw_p30, List.forall_mem_cons.mpr ⟨lw_p31, fun _ h => absurd h List.not_mem_nil⟩⟩⟩⟩⟩⟩⟩⟩⟩⟩⟩⟩⟩⟩⟩⟩
theorem lw_p32 : lw_okq (⟨"MoodSextantModel", "stands", "(II)I"⟩, 24) := ⟨⟨by decide +kernel, by decide +kernel⟩, List.mem_of_getElem? (i := 796) (by decide +kernel), List.mem_of_getElem? (i := 955) (by decide +kernel), List.mem_of_getElem? (i := 956) (by decide +kernel)⟩
theorem lw_p33 : lw_okq (⟨"MoodSextantModel", "horizons", "(II)I"⟩, 24) := ⟨⟨by decide +kernel, by decide +kernel⟩, List.mem_of_getElem? (i := 796) (by decide +kernel), List.mem_of_getElem? (i := 966) (by decide +kernel), List.mem_of_getElem? (i := 967) (by decide +kernel)⟩
theorem lw_p34 : lw_okq (⟨"MoodSextantModel", "errs", "(I)I"⟩, 24) := ⟨⟨by decide +kernel, by decide +kernel⟩, List.mem_of_getElem? (i := 796) (by decide +kernel), List.mem_of_getElem? (i := 974) (by decide +kernel), List.mem_of_getElem? (i := 975) (by decide +kernel)⟩
theorem lw_p35 : lw_okq (⟨"MoodSextantModel", "takes", "(I)I"⟩, 24) := ⟨⟨by decide +kernel, by decide +kernel⟩, List.mem_of_getElem? (i := 796) (by decide +kernel), List.mem_of_getElem? (i := 982) (by decide +kernel), List.mem_of_getElem? (i := 983) (by decide +kernel)⟩
theorem lw_p36 : lw_okq (⟨"MoodSextantModel", "reads", "(I)F"⟩, 24) := ⟨⟨by decide +kernel, by decide +kernel⟩, List.mem_of_getElem? (i := 796) (by decide +kernel), List.mem_of_getElem? (i := 986) (by decide +kernel), List.mem_of_getElem? (i := 987) (by decide +kernel)⟩
theorem lw_p37 : lw_okq (⟨"MoodSextantModel", "angled", "(I)I"⟩, 24) := ⟨⟨by decide +kernel, by decide +kernel⟩, List.mem_of_getElem? (i := 796) (by decide +kernel), List.mem_of_getElem? (i := 990) (by decide +kernel), List.mem_of_getElem? (i := 991) (by decide +kernel)⟩
theorem lw_p38 : lw_okq (⟨"MoodSextantModel", "cheer", "(I)I"⟩, 24) := ⟨⟨by decide +kernel, by decide +kernel⟩, List.mem_of_getElem? (i := 796) (by decide +kernel), List.mem_of_getElem? (i := 994) (by decide +kernel), List.mem_of_getElem? (i := 995) (by decide +kernel)⟩
theorem lw_p39 : lw_okq (⟨"MoodSextantModel", "dread", "(I)I"⟩, 24) := ⟨⟨by decide +kernel, by decide +kernel⟩, List.mem_of_getElem? (i := 796) (by decide +kernel), List.mem_of_getElem? (i := 1001) (by decide +kernel), List.mem_of_getElem? (i := 1002) (by decide +kernel)⟩
theorem lw_p40 : lw_okq (⟨"MoodSextantModel", "passes", "()I"⟩, 24) := ⟨⟨by decide +kernel, by decide +kernel⟩, List.mem_of_getElem? (i := 796) (by decide +kernel), List.mem_of_getElem? (i := 1021) (by decide +kernel), List.mem_of_getElem? (i := 1022) (by decide +kernel)⟩
theorem lw_p41 : lw_okq (⟨"MoodSextantModel", "allRum", "()I"⟩, 24) := ⟨⟨by decide +kernel, by decide +kernel⟩, List.mem_of_getElem? (i := 796) (by decide +kernel), List.mem_of_getElem? (i := 1028) (by decide +kernel), List.mem_of_getElem? (i := 1029) (by decide +kernel)⟩
theorem lw_p42 : lw_okq (⟨"MoodSextantModel", "sights", "(I)I"⟩, 24) := ⟨⟨by decide +kernel, by decide +kernel⟩, List.mem_of_getElem? (i := 796) (by decide +kernel), List.mem_of_getElem? (i := 1036) (by decide +kernel), List.mem_of_getElem? (i := 1037) (by decide +kernel)⟩
theorem lw_p43 : lw_okq (⟨"MoodSextantModel", "mates", "(I)I"⟩, 24) := ⟨⟨by decide +kernel, by decide +kernel⟩, List.mem_of_getElem? (i := 796) (by decide +kernel), List.mem_of_getElem? (i := 1040) (by decide +kernel), List.mem_of_getElem? (i := 1041) (by decide +kernel)⟩
theorem lw_p44 : lw_okq (⟨"MoodSextantModel", "differs", "(II)I"⟩, 24) := ⟨⟨by decide +kernel, by decide +kernel⟩, List.mem_of_getElem? (i := 796) (by decide +kernel), List.mem_of_getElem? (i := 1044) (by decide +kernel), List.mem_of_getElem? (i := 1045) (by decide +kernel)⟩
theorem lw_p45 : lw_okq (⟨"MoodSextantModel", "mess", "(I)I"⟩, 24) := ⟨⟨by decide +kernel, by decide +kernel⟩, List.mem_of_getElem? (i := 796) (by decide +kernel), List.mem_of_getElem? (i := 1048) (by decide +kernel), List.mem_of_getElem? (i := 1049) (by decide +kernel)⟩
theorem lw_p46 : lw_okq (⟨"MoodSextantModel", "fixed", "(I)F"⟩, 24) := ⟨⟨by decide +kernel, by decide +kernel⟩, List.mem_of_getElem? (i := 796) (by decide +kernel), List.mem_of_getElem? (i := 1073) (by decide +kernel), List.mem_of_getElem? (i := 1074) (by decide +kernel)⟩
theorem lw_p47 : lw_okq (⟨"MoodSextantModel", "value", "(I)F"⟩, 24) := ⟨⟨by decide +kernel, by decide +kernel⟩, List.mem_of_getElem? (i := 796) (by decide +kernel), List.mem_of_getElem? (i := 1077) (by decide +kernel), List.mem_of_getElem? (i := 1078) (by decide +kernel)⟩
def lw_privs_3 : List (MethodName × Nat) := [(⟨"MoodSextantModel", "stands", "(II)I"⟩, 24), (⟨"MoodSextantModel", "horizons", "(II)I"⟩, 24), (⟨"MoodSextantModel", "errs", "(I)I"⟩, 24), (⟨"MoodSextantModel", "takes", "(I)I"⟩, 24), (⟨"MoodSextantModel", "reads", "(I)F"⟩, 24), (⟨"MoodSextantModel", "angled", "(I)I"⟩, 24), (⟨"MoodSextantModel", "cheer", "(I)I"⟩, 24), (⟨"MoodSextantModel", "dread", "(I)I"⟩, 24), (⟨"MoodSextantModel", "passes", "()I"⟩, 24), (⟨"MoodSextantModel", "allRum", "()I"⟩, 24), (⟨"MoodSextantModel", "sights", "(I)I"⟩, 24), (⟨"MoodSextantModel", "mates", "(I)I"⟩, 24), (⟨"MoodSextantModel", "differs", "(II)I"⟩, 24), (⟨"MoodSextantModel", "mess", "(I)I"⟩, 24), (⟨"MoodSextantModel", "fixed", "(I)F"⟩, 24), (⟨"MoodSextantModel", "value", "(I)F"⟩, 24)]
theorem lw_r3 : ∀ q ∈ lw_privs_3, lw_okq q := List.forall_mem_cons.mpr ⟨lw_p32, List.forall_mem_cons.mpr ⟨lw_p33, List.forall_mem_cons.mpr ⟨lw_p34, List.forall_mem_cons.mpr ⟨lw_p35, List.forall_mem_cons.mpr ⟨lw_p36, List.forall_mem_cons.mpr ⟨lw_p37, List.forall_mem_cons.mpr ⟨lw_p38, List.forall_mem_cons.mpr ⟨lw_p39, List.forall_mem_cons.mpr ⟨lw_p40, List.forall_mem_cons.mpr ⟨lw_p41, List.forall_mem_cons.mpr ⟨lw_p42, List.forall_mem_cons.mpr ⟨lw_p43, List.forall_mem_cons.mpr ⟨lw_p44, List.forall_mem_cons.mpr ⟨lw_p45, List.forall_mem_cons.mpr ⟨lw_p46, List.forall_mem_cons.mpr ⟨lw_p47, fun _ h => absurd h List.not_mem_nil⟩⟩⟩⟩⟩⟩⟩⟩⟩⟩⟩⟩⟩⟩⟩⟩
theorem lw_p48 : lw_okq (⟨"MoodSextantModel", "writes", "(I)V"⟩, 24) := ⟨⟨by decide +kernel, by decide +kernel⟩, List.mem_of_getElem? (i := 796) (by decide +kernel), List.mem_of_getElem? (i := 1149) (by decide +kernel), List.mem_of_getElem? (i := 1150) (by decide +kernel)⟩
theorem lw_p49 : lw_okq (⟨"MoodSextantModel", "writesNumber", "(I)V"⟩, 24) := ⟨⟨by decide +kernel, by decide +kernel⟩, List.mem_of_getElem? (i := 796) (by decide +kernel), List.mem_of_getElem? (i := 1153) (by decide +kernel), List.mem_of_getElem? (i := 1154) (by decide +kernel)⟩
theorem lw_p50 : lw_okq (⟨"MoodSextantModel", "commands", "()I"⟩, 24) := ⟨⟨by decide +kernel, by decide +kernel⟩, List.mem_of_getElem? (i := 796) (by decide +kernel), List.mem_of_getElem? (i := 1174) (by decide +kernel), List.mem_of_getElem? (i := 1175) (by decide +kernel)⟩
theorem lw_p51 : lw_okq (⟨"MoodSextantModel", "command", "()V"⟩, 24) := ⟨⟨by decide +kernel, by decide +kernel⟩, List.mem_of_getElem? (i := 796) (by decide +kernel), List.mem_of_getElem? (i := 1178) (by decide +kernel), List.mem_of_getElem? (i := 1179) (by decide +kernel)⟩
theorem lw_p52 : lw_okq (⟨"MoodSextantModel", "word", "()I"⟩, 24) := ⟨⟨by decide +kernel, by decide +kernel⟩, List.mem_of_getElem? (i := 796) (by decide +kernel), List.mem_of_getElem? (i := 1182) (by decide +kernel), List.mem_of_getElem? (i := 1183) (by decide +kernel)⟩
theorem lw_p53 : lw_okq (⟨"MoodSextantModel", "sign", "()I"⟩, 24) := ⟨⟨by decide +kernel, by decide +kernel⟩, List.mem_of_getElem? (i := 796) (by decide +kernel), List.mem_of_getElem? (i := 1186) (by decide +kernel), List.mem_of_getElem? (i := 1187) (by decide +kernel)⟩
theorem lw_p54 : lw_okq (⟨"MoodSextantModel", "hexes", "()I"⟩, 24) := ⟨⟨by decide +kernel, by decide +kernel⟩, List.mem_of_getElem? (i := 796) (by decide +kernel), List.mem_of_getElem? (i := 1190) (by decide +kernel), List.mem_of_getElem? (i := 1191) (by decide +kernel)⟩
theorem lw_p55 : lw_okq (⟨"MoodSextantModel", "digit", "()I"⟩, 24) := ⟨⟨by decide +kernel, by decide +kernel⟩, List.mem_of_getElem? (i := 796) (by decide +kernel), List.mem_of_getElem? (i := 1194) (by decide +kernel), List.mem_of_getElem? (i := 1195) (by decide +kernel)⟩
theorem lw_p56 : lw_okq (⟨"MoodSextantModel", "mark", "(I)V"⟩, 24) := ⟨⟨by decide +kernel, by decide +kernel⟩, List.mem_of_getElem? (i := 796) (by decide +kernel), List.mem_of_getElem? (i := 1198) (by decide +kernel), List.mem_of_getElem? (i := 1199) (by decide +kernel)⟩
theorem lw_p57 : lw_okq (⟨"MoodSextantModel", "does", "(III)I"⟩, 24) := ⟨⟨by decide +kernel, by decide +kernel⟩, List.mem_of_getElem? (i := 796) (by decide +kernel), List.mem_of_getElem? (i := 1202) (by decide +kernel), List.mem_of_getElem? (i := 1203) (by decide +kernel)⟩
def lw_privs_4 : List (MethodName × Nat) := [(⟨"MoodSextantModel", "writes", "(I)V"⟩, 24), (⟨"MoodSextantModel", "writesNumber", "(I)V"⟩, 24), (⟨"MoodSextantModel", "commands", "()I"⟩, 24), (⟨"MoodSextantModel", "command", "()V"⟩, 24), (⟨"MoodSextantModel", "word", "()I"⟩, 24), (⟨"MoodSextantModel", "sign", "()I"⟩, 24), (⟨"MoodSextantModel", "hexes", "()I"⟩, 24), (⟨"MoodSextantModel", "digit", "()I"⟩, 24), (⟨"MoodSextantModel", "mark", "(I)V"⟩, 24), (⟨"MoodSextantModel", "does", "(III)I"⟩, 24)]
theorem lw_r4 : ∀ q ∈ lw_privs_4, lw_okq q := List.forall_mem_cons.mpr ⟨lw_p48, List.forall_mem_cons.mpr ⟨lw_p49, List.forall_mem_cons.mpr ⟨lw_p50, List.forall_mem_cons.mpr ⟨lw_p51, List.forall_mem_cons.mpr ⟨lw_p52, List.forall_mem_cons.mpr ⟨lw_p53, List.forall_mem_cons.mpr ⟨lw_p54, List.forall_mem_cons.mpr ⟨lw_p55, List.forall_mem_cons.mpr ⟨lw_p56, List.forall_mem_cons.mpr ⟨lw_p57, fun _ h => absurd h List.not_mem_nil⟩⟩⟩⟩⟩⟩⟩⟩⟩⟩
def lw_privs : List (MethodName × Nat) := lw_privs_1 ++ (lw_privs_2 ++ (lw_privs_3 ++ (lw_privs_4)))
def lw_tbl : List Cond := k2_sels lw_privs ++ tables_1
theorem lw_privs_ok : ∀ q ∈ lw_privs, lw_okq q := by
  show ∀ q ∈ lw_privs_1 ++ (lw_privs_2 ++ (lw_privs_3 ++ (lw_privs_4))), lw_okq q
  exact List.forall_mem_append.mpr ⟨lw_r1, List.forall_mem_append.mpr ⟨lw_r2, List.forall_mem_append.mpr ⟨lw_r3, lw_r4⟩⟩⟩
/-- the streams that the claim lets the run draw from -/
abbrev lw_cs : List Choice := [Jvm.Choice.named "NaN.bits", Jvm.Choice.named "NaN.copy"]
theorem lw_bits : nanBits ∈ lw_cs := by first | decide | exact List.mem_cons_self | simp [lw_cs, nanBits]
-- ===== end of PART A; then your names; then what follows =====
def RX0 : String := "MoodSextant$1"
def TX0 : u_T := fun k => match k with
  | _ => ("", "", "", false)
def tyX0 : Nat → FieldType := fun k => match k with
  | _ => .int
abbrev wsX00 : List Cond := u_ws RX0 TX0 0
theorem nmX0 : ∀ a, a < 0 → ∀ b, b < 0 → a ≠ b → (TX0 a).2.1 ≠ (TX0 b).2.1 := by decide +kernel
theorem tyX0_ok : ∀ k, k < 0 → parseFieldDescriptor (TX0 k).2.2.1 = some (tyX0 k) := by decide +kernel
def RX1 : String := "MoodSextant$Form"
def TX1 : u_T := fun k => match k with
  | _ => ("", "", "", false)
def tyX1 : Nat → FieldType := fun k => match k with
  | _ => .int
abbrev wsX10 : List Cond := u_ws RX1 TX1 0
theorem nmX1 : ∀ a, a < 0 → ∀ b, b < 0 → a ≠ b → (TX1 a).2.1 ≠ (TX1 b).2.1 := by decide +kernel
theorem tyX1_ok : ∀ k, k < 0 → parseFieldDescriptor (TX1 k).2.2.1 = some (tyX1 k) := by decide +kernel
def RX2 : String := "MoodSextant$History"
def TX2 : u_T := fun k => match k with
  | 0 => ("MoodSextant$History", "ships", "[LMoodSextant$Ship;", true)
  | 1 => ("MoodSextant$History", "next", "I", false)
  | _ => ("MoodSextant$History", "kept", "I", false)
def tyX2 : Nat → FieldType := fun k => match k with
  | 0 => .array (.object "MoodSextant$Ship")
  | 1 => .int
  | _ => .int
abbrev wsX20 : List Cond := u_ws RX2 TX2 3
theorem nmX2 : ∀ a, a < 3 → ∀ b, b < 3 → a ≠ b → (TX2 a).2.1 ≠ (TX2 b).2.1 := by decide +kernel
theorem tyX2_ok : ∀ k, k < 3 → parseFieldDescriptor (TX2 k).2.2.1 = some (tyX2 k) := by decide +kernel
abbrev cX2_init : ByteArray := prog_4_method_1_code
def yX2_init : MethodName := ⟨RX2, "<init>", "()V"⟩
abbrev cX2_remember : ByteArray := prog_4_method_2_code
def yX2_remember : MethodName := ⟨RX2, "remember", "(LMoodSextant$Ship;)V"⟩
abbrev cX2_takeBack : ByteArray := prog_4_method_3_code
def yX2_takeBack : MethodName := ⟨RX2, "takeBack", "(LMoodSextant$Ship;)Z"⟩
abbrev cX2_forget : ByteArray := prog_4_method_4_code
def yX2_forget : MethodName := ⟨RX2, "forget", "()V"⟩
def RX3 : String := "MoodSextant$Line"
def TX3 : u_T := fun k => match k with
  | 0 => ("MoodSextant$Line", "signs", "[C", true)
  | _ => ("MoodSextant$Line", "length", "I", false)
def tyX3 : Nat → FieldType := fun k => match k with
  | 0 => .array .char
  | _ => .int
abbrev wsX30 : List Cond := u_ws RX3 TX3 2
theorem nmX3 : ∀ a, a < 2 → ∀ b, b < 2 → a ≠ b → (TX3 a).2.1 ≠ (TX3 b).2.1 := by decide +kernel
theorem tyX3_ok : ∀ k, k < 2 → parseFieldDescriptor (TX3 k).2.2.1 = some (tyX3 k) := by decide +kernel
abbrev cX3_init : ByteArray := prog_5_method_1_code
def yX3_init : MethodName := ⟨RX3, "<init>", "()V"⟩
abbrev cX3_clear : ByteArray := prog_5_method_2_code
def yX3_clear : MethodName := ⟨RX3, "clear", "()V"⟩
abbrev cX3_put : ByteArray := prog_5_method_3_code
def yX3_put : MethodName := ⟨RX3, "put", "(C)V"⟩
abbrev cX3_putMood : ByteArray := prog_5_method_4_code
def yX3_putMood : MethodName := ⟨RX3, "putMood", "(I)V"⟩
abbrev cX3_putNumber : ByteArray := prog_5_method_5_code
def yX3_putNumber : MethodName := ⟨RX3, "putNumber", "(I)V"⟩
def RX4 : String := "MoodSextant$Reasons"
def TX4 : u_T := fun k => match k with
  | 0 => ("MoodSextant$Reasons", "numbers", "[I", true)
  | 1 => ("MoodSextant$Reasons", "details", "[I", true)
  | _ => ("MoodSextant$Reasons", "depth", "I", false)
def tyX4 : Nat → FieldType := fun k => match k with
  | 0 => .array .int
  | 1 => .array .int
  | _ => .int
abbrev wsX40 : List Cond := u_ws RX4 TX4 3
theorem nmX4 : ∀ a, a < 3 → ∀ b, b < 3 → a ≠ b → (TX4 a).2.1 ≠ (TX4 b).2.1 := by decide +kernel
theorem tyX4_ok : ∀ k, k < 3 → parseFieldDescriptor (TX4 k).2.2.1 = some (tyX4 k) := by decide +kernel
abbrev cX4_init : ByteArray := prog_6_method_1_code
def yX4_init : MethodName := ⟨RX4, "<init>", "()V"⟩
abbrev cX4_keep : ByteArray := prog_6_method_2_code
def yX4_keep : MethodName := ⟨RX4, "keep", "(II)V"⟩
abbrev cX4_keepBehind : ByteArray := prog_6_method_3_code
def yX4_keepBehind : MethodName := ⟨RX4, "keepBehind", "(II)V"⟩
def RX5 : String := "MoodSextant$Ship"
def TX5 : u_T := fun k => match k with
  | 0 => ("MoodSextant$Ship", "sailors", "I", false)
  | 1 => ("MoodSextant$Ship", "moods", "[I", true)
  | 2 => ("MoodSextant$Ship", "cups", "[I", true)
  | 3 => ("MoodSextant$Ship", "watches", "[I", true)
  | 4 => ("MoodSextant$Ship", "horizons", "[I", true)
  | 5 => ("MoodSextant$Ship", "wrongBy", "I", false)
  | 6 => ("MoodSextant$Ship", "hoursGone", "I", false)
  | 7 => ("MoodSextant$Ship", "sights", "I", false)
  | 8 => ("MoodSextant$Ship", "sighted", "[I", true)
  | 9 => ("MoodSextant$Ship", "sightHours", "[I", true)
  | 10 => ("MoodSextant$Ship", "readings", "[F", true)
  | 11 => ("MoodSextant$Ship", "taken", "I", false)
  | 12 => ("MoodSextant$Ship", "given", "I", false)
  | 13 => ("MoodSextant$Ship", "drunk", "I", false)
  | _ => ("MoodSextant$Ship", "ashore", "I", false)
def tyX5 : Nat → FieldType := fun k => match k with
  | 0 => .int
  | 1 => .array .int
  | 2 => .array .int
  | 3 => .array .int
  | 4 => .array .int
  | 5 => .int
  | 6 => .int
  | 7 => .int
  | 8 => .array .int
  | 9 => .array .int
  | 10 => .array .float
  | 11 => .int
  | 12 => .int
  | 13 => .int
  | _ => .int
abbrev wsX50 : List Cond := u_ws RX5 TX5 15
theorem nmX5 : ∀ a, a < 15 → ∀ b, b < 15 → a ≠ b → (TX5 a).2.1 ≠ (TX5 b).2.1 := by decide +kernel
theorem tyX5_ok : ∀ k, k < 15 → parseFieldDescriptor (TX5 k).2.2.1 = some (tyX5 k) := by decide +kernel
abbrev cX5_init : ByteArray := prog_7_method_1_code
def yX5_init : MethodName := ⟨RX5, "<init>", "()V"⟩
abbrev cX5_copyFrom : ByteArray := prog_7_method_2_code
def yX5_copyFrom : MethodName := ⟨RX5, "copyFrom", "(LMoodSextant$Ship;)V"⟩
abbrev cX5_isMood : ByteArray := prog_7_method_3_code
def yX5_isMood : MethodName := ⟨RX5, "isMood", "(I)Z"⟩
abbrev cX5_isGift : ByteArray := prog_7_method_4_code
def yX5_isGift : MethodName := ⟨RX5, "isGift", "(I)Z"⟩
abbrev cX5_isWatch : ByteArray := prog_7_method_5_code
def yX5_isWatch : MethodName := ⟨RX5, "isWatch", "(I)Z"⟩
abbrev cX5_isHorizon : ByteArray := prog_7_method_6_code
def yX5_isHorizon : MethodName := ⟨RX5, "isHorizon", "(I)Z"⟩
abbrev cX5_isError : ByteArray := prog_7_method_7_code
def yX5_isError : MethodName := ⟨RX5, "isError", "(I)Z"⟩
abbrev cX5_hasSailor : ByteArray := prog_7_method_8_code
def yX5_hasSailor : MethodName := ⟨RX5, "hasSailor", "(I)Z"⟩
abbrev cX5_hasBoth : ByteArray := prog_7_method_9_code
def yX5_hasBoth : MethodName := ⟨RX5, "hasBoth", "(II)Z"⟩
abbrev cX5_hasSight : ByteArray := prog_7_method_10_code
def yX5_hasSight : MethodName := ⟨RX5, "hasSight", "(I)Z"⟩
abbrev cX5_isInRange : ByteArray := prog_7_method_11_code
def yX5_isInRange : MethodName := ⟨RX5, "isInRange", "(LMoodSextant$Form;II)Z"⟩
abbrev cX5_reasonAgainst : ByteArray := prog_7_method_12_code
def yX5_reasonAgainst : MethodName := ⟨RX5, "reasonAgainst", "(LMoodSextant$Form;II)I"⟩
abbrev cX5_detailOf : ByteArray := prog_7_method_13_code
def yX5_detailOf : MethodName := ⟨RX5, "detailOf", "(III)I"⟩
abbrev cX5_carryOut : ByteArray := prog_7_method_14_code
def yX5_carryOut : MethodName := ⟨RX5, "carryOut", "(LMoodSextant$Form;II)V"⟩
abbrev cX5_addSailor : ByteArray := prog_7_method_15_code
def yX5_addSailor : MethodName := ⟨RX5, "addSailor", "(I)V"⟩
abbrev cX5_removeSailor : ByteArray := prog_7_method_16_code
def yX5_removeSailor : MethodName := ⟨RX5, "removeSailor", "(I)V"⟩
abbrev cX5_forgetSightsOf : ByteArray := prog_7_method_17_code
def yX5_forgetSightsOf : MethodName := ⟨RX5, "forgetSightsOf", "(I)V"⟩
abbrev cX5_give : ByteArray := prog_7_method_18_code
def yX5_give : MethodName := ⟨RX5, "give", "(II)V"⟩
abbrev cX5_addSight : ByteArray := prog_7_method_19_code
def yX5_addSight : MethodName := ⟨RX5, "addSight", "(I)V"⟩
abbrev cX5_passHour : ByteArray := prog_7_method_20_code
def yX5_passHour : MethodName := ⟨RX5, "passHour", "()V"⟩
abbrev cX5_isSightedNow : ByteArray := prog_7_method_21_code
def yX5_isSightedNow : MethodName := ⟨RX5, "isSightedNow", "(I)Z"⟩
abbrev cX5_turned : ByteArray := prog_7_method_22_code
def yX5_turned : MethodName := ⟨RX5, "turned", "(II)I"⟩
abbrev cX5_cheerIn : ByteArray := prog_7_method_23_code
def yX5_cheerIn : MethodName := ⟨RX5, "cheerIn", "(I)I"⟩
abbrev cX5_dreadIn : ByteArray := prog_7_method_24_code
def yX5_dreadIn : MethodName := ⟨RX5, "dreadIn", "(I)I"⟩
abbrev cX5_angleAfter : ByteArray := prog_7_method_25_code
def yX5_angleAfter : MethodName := ⟨RX5, "angleAfter", "(II)I"⟩
abbrev cX5_readingOf : ByteArray := prog_7_method_26_code
def yX5_readingOf : MethodName := ⟨RX5, "readingOf", "(I)F"⟩
abbrev cX5_sightFrom : ByteArray := prog_7_method_27_code
def yX5_sightFrom : MethodName := ⟨RX5, "sightFrom", "(II)I"⟩
abbrev cX5_sightsOf : ByteArray := prog_7_method_28_code
def yX5_sightsOf : MethodName := ⟨RX5, "sightsOf", "(I)I"⟩
abbrev cX5_hasFix : ByteArray := prog_7_method_29_code
def yX5_hasFix : MethodName := ⟨RX5, "hasFix", "(I)Z"⟩
abbrev cX5_latestReading : ByteArray := prog_7_method_30_code
def yX5_latestReading : MethodName := ⟨RX5, "latestReading", "(I)F"⟩
abbrev cX5_secondReading : ByteArray := prog_7_method_31_code
def yX5_secondReading : MethodName := ⟨RX5, "secondReading", "(I)F"⟩
abbrev cX5_fixOf : ByteArray := prog_7_method_32_code
def yX5_fixOf : MethodName := ⟨RX5, "fixOf", "(I)F"⟩
abbrev cX5_fixFromLatest : ByteArray := prog_7_method_33_code
def yX5_fixFromLatest : MethodName := ⟨RX5, "fixFromLatest", "(I)F"⟩
abbrev cX5_unlikeBits : ByteArray := prog_7_method_34_code
def yX5_unlikeBits : MethodName := ⟨RX5, "unlikeBits", "(II)I"⟩
abbrev cX5_unlikeByCounts : ByteArray := prog_7_method_35_code
def yX5_unlikeByCounts : MethodName := ⟨RX5, "unlikeByCounts", "(II)I"⟩
abbrev cX5_closestTurn : ByteArray := prog_7_method_36_code
def yX5_closestTurn : MethodName := ⟨RX5, "closestTurn", "(II)I"⟩
abbrev cX5_areMates : ByteArray := prog_7_method_37_code
def yX5_areMates : MethodName := ⟨RX5, "areMates", "(II)Z"⟩
abbrev cX5_mateSet : ByteArray := prog_7_method_38_code
def yX5_mateSet : MethodName := ⟨RX5, "mateSet", "(I)I"⟩
abbrev cX5_matesOf : ByteArray := prog_7_method_39_code
def yX5_matesOf : MethodName := ⟨RX5, "matesOf", "(I)I"⟩
abbrev cX5_messOf : ByteArray := prog_7_method_40_code
def yX5_messOf : MethodName := ⟨RX5, "messOf", "(I)I"⟩
abbrev cX5_allMesses : ByteArray := prog_7_method_41_code
def yX5_allMesses : MethodName := ⟨RX5, "allMesses", "()I"⟩
abbrev cX5_sailorsIn : ByteArray := prog_7_method_42_code
def yX5_sailorsIn : MethodName := ⟨RX5, "sailorsIn", "(I)I"⟩
abbrev cX5_watchCheer : ByteArray := prog_7_method_43_code
def yX5_watchCheer : MethodName := ⟨RX5, "watchCheer", "(I)I"⟩
abbrev cX5_watchDread : ByteArray := prog_7_method_44_code
def yX5_watchDread : MethodName := ⟨RX5, "watchDread", "(I)I"⟩
abbrev cX5_allCups : ByteArray := prog_7_method_45_code
def yX5_allCups : MethodName := ⟨RX5, "allCups", "()I"⟩
abbrev cX5_allAngles : ByteArray := prog_7_method_46_code
def yX5_allAngles : MethodName := ⟨RX5, "allAngles", "()I"⟩
abbrev cX5_isHigher : ByteArray := prog_7_method_47_code
def yX5_isHigher : MethodName := ⟨RX5, "isHigher", "(II)Z"⟩
abbrev cX5_placeOfSailor : ByteArray := prog_7_method_48_code
def yX5_placeOfSailor : MethodName := ⟨RX5, "placeOfSailor", "(I)I"⟩
abbrev cX5_isSightHigher : ByteArray := prog_7_method_49_code
def yX5_isSightHigher : MethodName := ⟨RX5, "isSightHigher", "(II)Z"⟩
abbrev cX5_placeOfSight : ByteArray := prog_7_method_50_code
def yX5_placeOfSight : MethodName := ⟨RX5, "placeOfSight", "(I)I"⟩
abbrev cX5_isUnlikeAlike : ByteArray := prog_7_method_51_code
def yX5_isUnlikeAlike : MethodName := ⟨RX5, "isUnlikeAlike", "()Z"⟩
abbrev cX5_isFixAlike : ByteArray := prog_7_method_52_code
def yX5_isFixAlike : MethodName := ⟨RX5, "isFixAlike", "()Z"⟩
abbrev cX5_isLogOfCrew : ByteArray := prog_7_method_53_code
def yX5_isLogOfCrew : MethodName := ⟨RX5, "isLogOfCrew", "()Z"⟩
abbrev cX5_isRumCounted : ByteArray := prog_7_method_54_code
def yX5_isRumCounted : MethodName := ⟨RX5, "isRumCounted", "()Z"⟩
def RX6 : String := "MoodSextant$Text"
def TX6 : u_T := fun k => match k with
  | 0 => ("MoodSextant$Text", "signs", "[C", true)
  | 1 => ("MoodSextant$Text", "length", "I", false)
  | 2 => ("MoodSextant$Text", "forms", "[LMoodSextant$Form;", true)
  | 3 => ("MoodSextant$Text", "whos", "[I", true)
  | 4 => ("MoodSextant$Text", "values", "[I", true)
  | _ => ("MoodSextant$Text", "commands", "I", false)
def tyX6 : Nat → FieldType := fun k => match k with
  | 0 => .array .char
  | 1 => .int
  | 2 => .array (.object "MoodSextant$Form")
  | 3 => .array .int
  | 4 => .array .int
  | _ => .int
abbrev wsX60 : List Cond := u_ws RX6 TX6 6
theorem nmX6 : ∀ a, a < 6 → ∀ b, b < 6 → a ≠ b → (TX6 a).2.1 ≠ (TX6 b).2.1 := by decide +kernel
theorem tyX6_ok : ∀ k, k < 6 → parseFieldDescriptor (TX6 k).2.2.1 = some (tyX6 k) := by decide +kernel
abbrev cX6_init : ByteArray := prog_8_method_1_code
def yX6_init : MethodName := ⟨RX6, "<init>", "()V"⟩
abbrev cX6_add : ByteArray := prog_8_method_2_code
def yX6_add : MethodName := ⟨RX6, "add", "(C)Z"⟩
abbrev cX6_clear : ByteArray := prog_8_method_3_code
def yX6_clear : MethodName := ⟨RX6, "clear", "()V"⟩
abbrev cX6_parse : ByteArray := prog_8_method_4_code
def yX6_parse : MethodName := ⟨RX6, "parse", "()I"⟩
abbrev cX6_formAt : ByteArray := prog_8_method_5_code
def yX6_formAt : MethodName := ⟨RX6, "formAt", "(I)LMoodSextant$Form;"⟩
abbrev cX6_farthestAt : ByteArray := prog_8_method_6_code
def yX6_farthestAt : MethodName := ⟨RX6, "farthestAt", "(I)I"⟩
abbrev cX6_matchedAt : ByteArray := prog_8_method_7_code
def yX6_matchedAt : MethodName := ⟨RX6, "matchedAt", "(Ljava/lang/String;I)I"⟩
abbrev cX6_isFit : ByteArray := prog_8_method_8_code
def yX6_isFit : MethodName := ⟨RX6, "isFit", "(CC)Z"⟩
abbrev cX6_isDigit : ByteArray := prog_8_method_9_code
def yX6_isDigit : MethodName := ⟨RX6, "isDigit", "(C)Z"⟩
abbrev cX6_hexOf : ByteArray := prog_8_method_10_code
def yX6_hexOf : MethodName := ⟨RX6, "hexOf", "(C)I"⟩
abbrev cX6_keep : ByteArray := prog_8_method_11_code
def yX6_keep : MethodName := ⟨RX6, "keep", "(LMoodSextant$Form;I)V"⟩
def RX7 : String := "MoodSextant"
def TX7 : u_T := fun k => match k with
  | 0 => ("MoodSextant", "ship", "LMoodSextant$Ship;", true)
  | 1 => ("MoodSextant", "trial", "LMoodSextant$Ship;", true)
  | 2 => ("MoodSextant", "saved", "LMoodSextant$Ship;", true)
  | 3 => ("MoodSextant", "history", "LMoodSextant$History;", true)
  | 4 => ("MoodSextant", "reasons", "LMoodSextant$Reasons;", true)
  | 5 => ("MoodSextant", "text", "LMoodSextant$Text;", true)
  | 6 => ("MoodSextant", "line", "LMoodSextant$Line;", true)
  | 7 => ("MoodSextant", "isSaved", "Z", false)
  | 8 => ("MoodSextant", "isFaultKept", "Z", false)
  | _ => ("MoodSextant", "faultPosition", "I", false)
def tyX7 : Nat → FieldType := fun k => match k with
  | 0 => .object "MoodSextant$Ship"
  | 1 => .object "MoodSextant$Ship"
  | 2 => .object "MoodSextant$Ship"
  | 3 => .object "MoodSextant$History"
  | 4 => .object "MoodSextant$Reasons"
  | 5 => .object "MoodSextant$Text"
  | 6 => .object "MoodSextant$Line"
  | 7 => .boolean
  | 8 => .boolean
  | _ => .int
abbrev wsX70 : List Cond := u_ws RX7 TX7 10
theorem nmX7 : ∀ a, a < 10 → ∀ b, b < 10 → a ≠ b → (TX7 a).2.1 ≠ (TX7 b).2.1 := by decide +kernel
theorem tyX7_ok : ∀ k, k < 10 → parseFieldDescriptor (TX7 k).2.2.1 = some (tyX7 k) := by decide +kernel
abbrev cX7_init : ByteArray := prog_1_method_1_code
def yX7_init : MethodName := ⟨RX7, "<init>", "()V"⟩
abbrev cX7_sail : ByteArray := prog_1_method_2_code
def yX7_sail : MethodName := ⟨RX7, "sail", "(I)I"⟩
abbrev cX7_shore : ByteArray := prog_1_method_3_code
def yX7_shore : MethodName := ⟨RX7, "shore", "(I)I"⟩
abbrev cX7_mood : ByteArray := prog_1_method_4_code
def yX7_mood : MethodName := ⟨RX7, "mood", "(II)I"⟩
abbrev cX7_rum : ByteArray := prog_1_method_5_code
def yX7_rum : MethodName := ⟨RX7, "rum", "(II)I"⟩
abbrev cX7_watch : ByteArray := prog_1_method_6_code
def yX7_watch : MethodName := ⟨RX7, "watch", "(II)I"⟩
abbrev cX7_horizon : ByteArray := prog_1_method_7_code
def yX7_horizon : MethodName := ⟨RX7, "horizon", "(II)I"⟩
abbrev cX7_error : ByteArray := prog_1_method_8_code
def yX7_error : MethodName := ⟨RX7, "error", "(I)I"⟩
abbrev cX7_sight : ByteArray := prog_1_method_9_code
def yX7_sight : MethodName := ⟨RX7, "sight", "(I)I"⟩
abbrev cX7_hour : ByteArray := prog_1_method_10_code
def yX7_hour : MethodName := ⟨RX7, "hour", "()I"⟩
abbrev cX7_sailorOf : ByteArray := prog_1_method_11_code
def yX7_sailorOf : MethodName := ⟨RX7, "sailorOf", "(II)I"⟩
abbrev cX7_watchOf : ByteArray := prog_1_method_12_code
def yX7_watchOf : MethodName := ⟨RX7, "watchOf", "(II)I"⟩
abbrev cX7_sightOf : ByteArray := prog_1_method_13_code
def yX7_sightOf : MethodName := ⟨RX7, "sightOf", "(II)I"⟩
abbrev cX7_angle : ByteArray := prog_1_method_14_code
def yX7_angle : MethodName := ⟨RX7, "angle", "(I)F"⟩
abbrev cX7_readBits : ByteArray := prog_1_method_15_code
def yX7_readBits : MethodName := ⟨RX7, "readBits", "(I)I"⟩
abbrev cX7_fixBits : ByteArray := prog_1_method_16_code
def yX7_fixBits : MethodName := ⟨RX7, "fixBits", "(I)I"⟩
abbrev cX7_fixAgain : ByteArray := prog_1_method_17_code
def yX7_fixAgain : MethodName := ⟨RX7, "fixAgain", "(I)I"⟩
abbrev cX7_meet : ByteArray := prog_1_method_18_code
def yX7_meet : MethodName := ⟨RX7, "meet", "(II)I"⟩
abbrev cX7_unlike : ByteArray := prog_1_method_19_code
def yX7_unlike : MethodName := ⟨RX7, "unlike", "(II)I"⟩
abbrev cX7_unlikeAgain : ByteArray := prog_1_method_20_code
def yX7_unlikeAgain : MethodName := ⟨RX7, "unlikeAgain", "(II)I"⟩
abbrev cX7_closest : ByteArray := prog_1_method_21_code
def yX7_closest : MethodName := ⟨RX7, "closest", "(II)I"⟩
abbrev cX7_would : ByteArray := prog_1_method_22_code
def yX7_would : MethodName := ⟨RX7, "would", "(II)I"⟩
abbrev cX7_sinks : ByteArray := prog_1_method_23_code
def yX7_sinks : MethodName := ⟨RX7, "sinks", "(I)I"⟩
abbrev cX7_messes : ByteArray := prog_1_method_24_code
def yX7_messes : MethodName := ⟨RX7, "messes", "()I"⟩
abbrev cX7_highest : ByteArray := prog_1_method_25_code
def yX7_highest : MethodName := ⟨RX7, "highest", "(I)I"⟩
abbrev cX7_ranked : ByteArray := prog_1_method_26_code
def yX7_ranked : MethodName := ⟨RX7, "ranked", "(I)I"⟩
abbrev cX7_packed : ByteArray := prog_1_method_27_code
def yX7_packed : MethodName := ⟨RX7, "packed", "()J"⟩
abbrev cX7_isCounted : ByteArray := prog_1_method_28_code
def yX7_isCounted : MethodName := ⟨RX7, "isCounted", "()Z"⟩
abbrev cX7_meanAngle : ByteArray := prog_1_method_29_code
def yX7_meanAngle : MethodName := ⟨RX7, "meanAngle", "()D"⟩
abbrev cX7_account : ByteArray := prog_1_method_30_code
def yX7_account : MethodName := ⟨RX7, "account", "(I)I"⟩
abbrev cX7_write : ByteArray := prog_1_method_31_code
def yX7_write : MethodName := ⟨RX7, "write", "(I)I"⟩
abbrev cX7_writeLog : ByteArray := prog_1_method_32_code
def yX7_writeLog : MethodName := ⟨RX7, "writeLog", "()I"⟩
abbrev cX7_written : ByteArray := prog_1_method_33_code
def yX7_written : MethodName := ⟨RX7, "written", "(I)I"⟩
abbrev cX7_append : ByteArray := prog_1_method_34_code
def yX7_append : MethodName := ⟨RX7, "append", "(C)I"⟩
abbrev cX7_read : ByteArray := prog_1_method_35_code
def yX7_read : MethodName := ⟨RX7, "read", "()I"⟩
abbrev cX7_fault : ByteArray := prog_1_method_36_code
def yX7_fault : MethodName := ⟨RX7, "fault", "()I"⟩
abbrev cX7_reason : ByteArray := prog_1_method_37_code
def yX7_reason : MethodName := ⟨RX7, "reason", "(IZ)I"⟩
abbrev cX7_undo : ByteArray := prog_1_method_38_code
def yX7_undo : MethodName := ⟨RX7, "undo", "()I"⟩
abbrev cX7_save : ByteArray := prog_1_method_39_code
def yX7_save : MethodName := ⟨RX7, "save", "()I"⟩
abbrev cX7_restore : ByteArray := prog_1_method_40_code
def yX7_restore : MethodName := ⟨RX7, "restore", "()I"⟩
abbrev cX7_isRefused : ByteArray := prog_1_method_41_code
def yX7_isRefused : MethodName := ⟨RX7, "isRefused", "(LMoodSextant$Form;II)Z"⟩
abbrev cX7_change : ByteArray := prog_1_method_42_code
def yX7_change : MethodName := ⟨RX7, "change", "(LMoodSextant$Form;II)V"⟩
abbrev cX7_isTextDone : ByteArray := prog_1_method_43_code
def yX7_isTextDone : MethodName := ⟨RX7, "isTextDone", "()Z"⟩
abbrev cX7_bitsOf : ByteArray := prog_1_method_44_code
def yX7_bitsOf : MethodName := ⟨RX7, "bitsOf", "(F)I"⟩
def RX8 : String := "MoodSextantModel"
def TX8 : u_T := fun k => match k with
  | 0 => ("MoodSextantModel", "fails", "I", false)
  | 1 => ("MoodSextantModel", "changes", "I", false)
  | 2 => ("MoodSextantModel", "why", "I", false)
  | 3 => ("MoodSextantModel", "detail", "I", false)
  | 4 => ("MoodSextantModel", "behindWhy", "I", false)
  | 5 => ("MoodSextantModel", "behindDetail", "I", false)
  | 6 => ("MoodSextantModel", "faultAt", "I", false)
  | 7 => ("MoodSextantModel", "isSaved", "Z", false)
  | 8 => ("MoodSextantModel", "v", "[I", true)
  | 9 => ("MoodSextantModel", "before", "[I", true)
  | 10 => ("MoodSextantModel", "saved", "[I", true)
  | 11 => ("MoodSextantModel", "kept", "[I", true)
  | 12 => ("MoodSextantModel", "past", "[I", true)
  | 13 => ("MoodSextantModel", "text", "[I", true)
  | 14 => ("MoodSextantModel", "line", "[I", true)
  | 15 => ("MoodSextantModel", "isLeft", "[I", true)
  | 16 => ("MoodSextantModel", "words", "[I", true)
  | 17 => ("MoodSextantModel", "wordAt", "[I", true)
  | 18 => ("MoodSextantModel", "textN", "I", false)
  | 19 => ("MoodSextantModel", "here", "I", false)
  | 20 => ("MoodSextantModel", "end", "I", false)
  | 21 => ("MoodSextantModel", "lineN", "I", false)
  | 22 => ("MoodSextantModel", "isWrong", "Z", false)
  | _ => ("MoodSextantModel", "isDoing", "Z", false)
def tyX8 : Nat → FieldType := fun k => match k with
  | 0 => .int
  | 1 => .int
  | 2 => .int
  | 3 => .int
  | 4 => .int
  | 5 => .int
  | 6 => .int
  | 7 => .boolean
  | 8 => .array .int
  | 9 => .array .int
  | 10 => .array .int
  | 11 => .array .int
  | 12 => .array .int
  | 13 => .array .int
  | 14 => .array .int
  | 15 => .array .int
  | 16 => .array .int
  | 17 => .array .int
  | 18 => .int
  | 19 => .int
  | 20 => .int
  | 21 => .int
  | 22 => .boolean
  | _ => .boolean
abbrev wsX80 : List Cond := u_ws RX8 TX8 24
theorem nmX8 : ∀ a, a < 24 → ∀ b, b < 24 → a ≠ b → (TX8 a).2.1 ≠ (TX8 b).2.1 := by decide +kernel
theorem tyX8_ok : ∀ k, k < 24 → parseFieldDescriptor (TX8 k).2.2.1 = some (tyX8 k) := by decide +kernel
abbrev cX8_init : ByteArray := prog_10_method_1_code
def yX8_init : MethodName := ⟨RX8, "<init>", "()V"⟩
abbrev cX8_fail : ByteArray := prog_10_method_2_code
def yX8_fail : MethodName := ⟨RX8, "fail", "(I)I"⟩
abbrev cX8_refuses : ByteArray := prog_10_method_3_code
def yX8_refuses : MethodName := ⟨RX8, "refuses", "(II)I"⟩
abbrev cX8_isIn : ByteArray := prog_10_method_4_code
def yX8_isIn : MethodName := ⟨RX8, "isIn", "(III)Z"⟩
abbrev cX8_lays : ByteArray := prog_10_method_5_code
def yX8_lays : MethodName := ⟨RX8, "lays", "([I[I)V"⟩
abbrev cX8_begins : ByteArray := prog_10_method_6_code
def yX8_begins : MethodName := ⟨RX8, "begins", "()V"⟩
abbrev cX8_ends : ByteArray := prog_10_method_7_code
def yX8_ends : MethodName := ⟨RX8, "ends", "(I)I"⟩
abbrev cX8_at : ByteArray := prog_10_method_8_code
def yX8_at : MethodName := ⟨RX8, "at", "(II)I"⟩
abbrev cX8_isSailor : ByteArray := prog_10_method_9_code
def yX8_isSailor : MethodName := ⟨RX8, "isSailor", "(I)Z"⟩
abbrev cX8_isWatch : ByteArray := prog_10_method_10_code
def yX8_isWatch : MethodName := ⟨RX8, "isWatch", "(I)Z"⟩
abbrev cX8_isMood : ByteArray := prog_10_method_11_code
def yX8_isMood : MethodName := ⟨RX8, "isMood", "(I)Z"⟩
abbrev cX8_bits : ByteArray := prog_10_method_12_code
def yX8_bits : MethodName := ⟨RX8, "bits", "(I)I"⟩
abbrev cX8_cheer : ByteArray := prog_10_method_13_code
def yX8_cheer : MethodName := ⟨RX8, "cheer", "(I)I"⟩
abbrev cX8_dread : ByteArray := prog_10_method_14_code
def yX8_dread : MethodName := ⟨RX8, "dread", "(I)I"⟩
abbrev cX8_angled : ByteArray := prog_10_method_15_code
def yX8_angled : MethodName := ⟨RX8, "angled", "(I)I"⟩
abbrev cX8_reads : ByteArray := prog_10_method_16_code
def yX8_reads : MethodName := ⟨RX8, "reads", "(I)F"⟩
abbrev cX8_comes : ByteArray := prog_10_method_17_code
def yX8_comes : MethodName := ⟨RX8, "comes", "(I)I"⟩
abbrev cX8_sail : ByteArray := prog_10_method_18_code
def yX8_sail : MethodName := ⟨RX8, "sail", "(I)I"⟩
abbrev cX8_forgets : ByteArray := prog_10_method_19_code
def yX8_forgets : MethodName := ⟨RX8, "forgets", "(I)V"⟩
abbrev cX8_goes : ByteArray := prog_10_method_20_code
def yX8_goes : MethodName := ⟨RX8, "goes", "(I)I"⟩
abbrev cX8_shore : ByteArray := prog_10_method_21_code
def yX8_shore : MethodName := ⟨RX8, "shore", "(I)I"⟩
abbrev cX8_sets : ByteArray := prog_10_method_22_code
def yX8_sets : MethodName := ⟨RX8, "sets", "(II)I"⟩
abbrev cX8_moods : ByteArray := prog_10_method_23_code
def yX8_moods : MethodName := ⟨RX8, "moods", "(II)I"⟩
abbrev cX8_mood : ByteArray := prog_10_method_24_code
def yX8_mood : MethodName := ⟨RX8, "mood", "(II)I"⟩
abbrev cX8_drinks : ByteArray := prog_10_method_25_code
def yX8_drinks : MethodName := ⟨RX8, "drinks", "(II)I"⟩
abbrev cX8_rum : ByteArray := prog_10_method_26_code
def yX8_rum : MethodName := ⟨RX8, "rum", "(II)I"⟩
abbrev cX8_stands : ByteArray := prog_10_method_27_code
def yX8_stands : MethodName := ⟨RX8, "stands", "(II)I"⟩
abbrev cX8_watch : ByteArray := prog_10_method_28_code
def yX8_watch : MethodName := ⟨RX8, "watch", "(II)I"⟩
abbrev cX8_horizons : ByteArray := prog_10_method_29_code
def yX8_horizons : MethodName := ⟨RX8, "horizons", "(II)I"⟩
abbrev cX8_horizon : ByteArray := prog_10_method_30_code
def yX8_horizon : MethodName := ⟨RX8, "horizon", "(II)I"⟩
abbrev cX8_errs : ByteArray := prog_10_method_31_code
def yX8_errs : MethodName := ⟨RX8, "errs", "(I)I"⟩
abbrev cX8_error : ByteArray := prog_10_method_32_code
def yX8_error : MethodName := ⟨RX8, "error", "(I)I"⟩
abbrev cX8_takes : ByteArray := prog_10_method_33_code
def yX8_takes : MethodName := ⟨RX8, "takes", "(I)I"⟩
abbrev cX8_sight : ByteArray := prog_10_method_34_code
def yX8_sight : MethodName := ⟨RX8, "sight", "(I)I"⟩
abbrev cX8_turned : ByteArray := prog_10_method_35_code
def yX8_turned : MethodName := ⟨RX8, "turned", "(I)I"⟩
abbrev cX8_allRum : ByteArray := prog_10_method_36_code
def yX8_allRum : MethodName := ⟨RX8, "allRum", "()I"⟩
abbrev cX8_passes : ByteArray := prog_10_method_37_code
def yX8_passes : MethodName := ⟨RX8, "passes", "()I"⟩
abbrev cX8_hour : ByteArray := prog_10_method_38_code
def yX8_hour : MethodName := ⟨RX8, "hour", "()I"⟩
abbrev cX8_sights : ByteArray := prog_10_method_39_code
def yX8_sights : MethodName := ⟨RX8, "sights", "(I)I"⟩
abbrev cX8_differs : ByteArray := prog_10_method_40_code
def yX8_differs : MethodName := ⟨RX8, "differs", "(II)I"⟩
abbrev cX8_mates : ByteArray := prog_10_method_41_code
def yX8_mates : MethodName := ⟨RX8, "mates", "(I)I"⟩
abbrev cX8_mess : ByteArray := prog_10_method_42_code
def yX8_mess : MethodName := ⟨RX8, "mess", "(I)I"⟩
abbrev cX8_sailorOf : ByteArray := prog_10_method_43_code
def yX8_sailorOf : MethodName := ⟨RX8, "sailorOf", "(II)I"⟩
abbrev cX8_watchOf : ByteArray := prog_10_method_44_code
def yX8_watchOf : MethodName := ⟨RX8, "watchOf", "(II)I"⟩
abbrev cX8_sightOf : ByteArray := prog_10_method_45_code
def yX8_sightOf : MethodName := ⟨RX8, "sightOf", "(II)I"⟩
abbrev cX8_angle : ByteArray := prog_10_method_46_code
def yX8_angle : MethodName := ⟨RX8, "angle", "(I)F"⟩
abbrev cX8_readBits : ByteArray := prog_10_method_47_code
def yX8_readBits : MethodName := ⟨RX8, "readBits", "(I)I"⟩
abbrev cX8_value : ByteArray := prog_10_method_48_code
def yX8_value : MethodName := ⟨RX8, "value", "(I)F"⟩
abbrev cX8_fixed : ByteArray := prog_10_method_49_code
def yX8_fixed : MethodName := ⟨RX8, "fixed", "(I)F"⟩
abbrev cX8_fixBits : ByteArray := prog_10_method_50_code
def yX8_fixBits : MethodName := ⟨RX8, "fixBits", "(I)I"⟩
abbrev cX8_fixAgain : ByteArray := prog_10_method_51_code
def yX8_fixAgain : MethodName := ⟨RX8, "fixAgain", "(I)I"⟩
abbrev cX8_meet : ByteArray := prog_10_method_52_code
def yX8_meet : MethodName := ⟨RX8, "meet", "(II)I"⟩
abbrev cX8_unlike : ByteArray := prog_10_method_53_code
def yX8_unlike : MethodName := ⟨RX8, "unlike", "(II)I"⟩
abbrev cX8_unlikeAgain : ByteArray := prog_10_method_54_code
def yX8_unlikeAgain : MethodName := ⟨RX8, "unlikeAgain", "(II)I"⟩
abbrev cX8_closest : ByteArray := prog_10_method_55_code
def yX8_closest : MethodName := ⟨RX8, "closest", "(II)I"⟩
abbrev cX8_would : ByteArray := prog_10_method_56_code
def yX8_would : MethodName := ⟨RX8, "would", "(II)I"⟩
abbrev cX8_sinks : ByteArray := prog_10_method_57_code
def yX8_sinks : MethodName := ⟨RX8, "sinks", "(I)I"⟩
abbrev cX8_messes : ByteArray := prog_10_method_58_code
def yX8_messes : MethodName := ⟨RX8, "messes", "()I"⟩
abbrev cX8_highest : ByteArray := prog_10_method_59_code
def yX8_highest : MethodName := ⟨RX8, "highest", "(I)I"⟩
abbrev cX8_ranked : ByteArray := prog_10_method_60_code
def yX8_ranked : MethodName := ⟨RX8, "ranked", "(I)I"⟩
abbrev cX8_packed : ByteArray := prog_10_method_61_code
def yX8_packed : MethodName := ⟨RX8, "packed", "()J"⟩
abbrev cX8_isCounted : ByteArray := prog_10_method_62_code
def yX8_isCounted : MethodName := ⟨RX8, "isCounted", "()Z"⟩
abbrev cX8_meanAngle : ByteArray := prog_10_method_63_code
def yX8_meanAngle : MethodName := ⟨RX8, "meanAngle", "()D"⟩
abbrev cX8_account : ByteArray := prog_10_method_64_code
def yX8_account : MethodName := ⟨RX8, "account", "(I)I"⟩
abbrev cX8_writes : ByteArray := prog_10_method_65_code
def yX8_writes : MethodName := ⟨RX8, "writes", "(I)V"⟩
abbrev cX8_writesNumber : ByteArray := prog_10_method_66_code
def yX8_writesNumber : MethodName := ⟨RX8, "writesNumber", "(I)V"⟩
abbrev cX8_write : ByteArray := prog_10_method_67_code
def yX8_write : MethodName := ⟨RX8, "write", "(I)I"⟩
abbrev cX8_writeLog : ByteArray := prog_10_method_68_code
def yX8_writeLog : MethodName := ⟨RX8, "writeLog", "()I"⟩
abbrev cX8_written : ByteArray := prog_10_method_69_code
def yX8_written : MethodName := ⟨RX8, "written", "(I)I"⟩
abbrev cX8_append : ByteArray := prog_10_method_70_code
def yX8_append : MethodName := ⟨RX8, "append", "(C)I"⟩
abbrev cX8_sign : ByteArray := prog_10_method_71_code
def yX8_sign : MethodName := ⟨RX8, "sign", "()I"⟩
abbrev cX8_mark : ByteArray := prog_10_method_72_code
def yX8_mark : MethodName := ⟨RX8, "mark", "(I)V"⟩
abbrev cX8_digit : ByteArray := prog_10_method_73_code
def yX8_digit : MethodName := ⟨RX8, "digit", "()I"⟩
abbrev cX8_hexes : ByteArray := prog_10_method_74_code
def yX8_hexes : MethodName := ⟨RX8, "hexes", "()I"⟩
abbrev cX8_word : ByteArray := prog_10_method_75_code
def yX8_word : MethodName := ⟨RX8, "word", "()I"⟩
abbrev cX8_does : ByteArray := prog_10_method_76_code
def yX8_does : MethodName := ⟨RX8, "does", "(III)I"⟩
abbrev cX8_command : ByteArray := prog_10_method_77_code
def yX8_command : MethodName := ⟨RX8, "command", "()V"⟩
abbrev cX8_commands : ByteArray := prog_10_method_78_code
def yX8_commands : MethodName := ⟨RX8, "commands", "()I"⟩
abbrev cX8_read : ByteArray := prog_10_method_79_code
def yX8_read : MethodName := ⟨RX8, "read", "()I"⟩
abbrev cX8_fault : ByteArray := prog_10_method_80_code
def yX8_fault : MethodName := ⟨RX8, "fault", "()I"⟩
abbrev cX8_reason : ByteArray := prog_10_method_81_code
def yX8_reason : MethodName := ⟨RX8, "reason", "(IZ)I"⟩
abbrev cX8_undo : ByteArray := prog_10_method_82_code
def yX8_undo : MethodName := ⟨RX8, "undo", "()I"⟩
abbrev cX8_save : ByteArray := prog_10_method_83_code
def yX8_save : MethodName := ⟨RX8, "save", "()I"⟩
abbrev cX8_restore : ByteArray := prog_10_method_84_code
def yX8_restore : MethodName := ⟨RX8, "restore", "()I"⟩
def RJx29ce0 : String := "java/lang/Enum"
def TJx29ce0 : u_T := fun k => match k with
  | _ => ("", "", "", false)
def tyJx29ce0 : Nat → FieldType := fun k => match k with
  | _ => .int
abbrev wsJx29ce00 : List Cond := u_ws RJx29ce0 TJx29ce0 0
theorem nmJx29ce0 : ∀ a, a < 0 → ∀ b, b < 0 → a ≠ b → (TJx29ce0 a).2.1 ≠ (TJx29ce0 b).2.1 := by decide +kernel
theorem tyJx29ce0_ok : ∀ k, k < 0 → parseFieldDescriptor (TJx29ce0 k).2.2.1 = some (tyJx29ce0 k) := by decide +kernel
abbrev cJx29ce0_ordinal_8abf5 : ByteArray := prog_11_method_2_code
def yJx29ce0_ordinal_8abf5 : MethodName := ⟨RJx29ce0, "ordinal", "()I"⟩
def RJxf58ca : String := "java/lang/Float"
def TJxf58ca : u_T := fun k => match k with
  | _ => ("", "", "", false)
def tyJxf58ca : Nat → FieldType := fun k => match k with
  | _ => .int
abbrev wsJxf58ca0 : List Cond := u_ws RJxf58ca TJxf58ca 0
theorem nmJxf58ca : ∀ a, a < 0 → ∀ b, b < 0 → a ≠ b → (TJxf58ca a).2.1 ≠ (TJxf58ca b).2.1 := by decide +kernel
theorem tyJxf58ca_ok : ∀ k, k < 0 → parseFieldDescriptor (TJxf58ca k).2.2.1 = some (tyJxf58ca k) := by decide +kernel
abbrev cJxf58ca_isNaN_12338 : ByteArray := prog_12_method_6_code
def yJxf58ca_isNaN_12338 : MethodName := ⟨RJxf58ca, "isNaN", "(F)Z"⟩
abbrev cJxf58ca_floatToIntBits_5c35a : ByteArray := prog_12_method_24_code
def yJxf58ca_floatToIntBits_5c35a : MethodName := ⟨RJxf58ca, "floatToIntBits", "(F)I"⟩
def RJ6 : String := "java/lang/Integer"
def TJ6 : u_T := fun k => match k with
  | _ => ("", "", "", false)
def tyJ6 : Nat → FieldType := fun k => match k with
  | _ => .int
abbrev wsJ60 : List Cond := u_ws RJ6 TJ6 0
theorem nmJ6 : ∀ a, a < 0 → ∀ b, b < 0 → a ≠ b → (TJ6 a).2.1 ≠ (TJ6 b).2.1 := by decide +kernel
theorem tyJ6_ok : ∀ k, k < 0 → parseFieldDescriptor (TJ6 k).2.2.1 = some (tyJ6 k) := by decide +kernel
abbrev cJ6_bitCount_0f7a4 : ByteArray := prog_13_method_49_code
def yJ6_bitCount_0f7a4 : MethodName := ⟨RJ6, "bitCount", "(I)I"⟩
def RJ9 : String := "java/lang/Math"
def TJ9 : u_T := fun k => match k with
  | _ => ("", "", "", false)
def tyJ9 : Nat → FieldType := fun k => match k with
  | _ => .int
abbrev wsJ90 : List Cond := u_ws RJ9 TJ9 0
theorem nmJ9 : ∀ a, a < 0 → ∀ b, b < 0 → a ≠ b → (TJ9 a).2.1 ≠ (TJ9 b).2.1 := by decide +kernel
theorem tyJ9_ok : ∀ k, k < 0 → parseFieldDescriptor (TJ9 k).2.2.1 = some (tyJ9 k) := by decide +kernel
abbrev cJ9_floorDiv_7cf53 : ByteArray := prog_14_method_47_code
def yJ9_floorDiv_7cf53 : MethodName := ⟨RJ9, "floorDiv", "(II)I"⟩
abbrev cJ9_floorMod_7cf53 : ByteArray := prog_14_method_50_code
def yJ9_floorMod_7cf53 : MethodName := ⟨RJ9, "floorMod", "(II)I"⟩
abbrev cJ9_max_7cf53 : ByteArray := prog_14_method_65_code
def yJ9_max_7cf53 : MethodName := ⟨RJ9, "max", "(II)I"⟩
def RJ0 : String := "java/lang/String"
def TJ0 : u_T := fun k => match k with
  | _ => ("", "", "", false)
def tyJ0 : Nat → FieldType := fun k => match k with
  | _ => .int
abbrev wsJ00 : List Cond := u_ws RJ0 TJ0 0
theorem nmJ0 : ∀ a, a < 0 → ∀ b, b < 0 → a ≠ b → (TJ0 a).2.1 ≠ (TJ0 b).2.1 := by decide +kernel
theorem tyJ0_ok : ∀ k, k < 0 → parseFieldDescriptor (TJ0 k).2.2.1 = some (tyJ0 k) := by decide +kernel
abbrev cJ0_length_8abf5 : ByteArray := prog_15_method_54_code
def yJ0_length_8abf5 : MethodName := ⟨RJ0, "length", "()I"⟩
abbrev cJ0_charAt_5068e : ByteArray := prog_15_method_56_code
def yJ0_charAt_5068e : MethodName := ⟨RJ0, "charAt", "(I)C"⟩
abbrev cJ0_coder_7d493 : ByteArray := prog_15_method_152_code
def yJ0_coder_7d493 : MethodName := ⟨RJ0, "coder", "()B"⟩
abbrev cJ0_isLatin1_aae02 : ByteArray := prog_15_method_154_code
def yJ0_isLatin1_aae02 : MethodName := ⟨RJ0, "isLatin1", "()Z"⟩
abbrev cJ0_checkIndex_df160 : ByteArray := prog_15_method_155_code
def yJ0_checkIndex_df160 : MethodName := ⟨RJ0, "checkIndex", "(II)V"⟩
def RJ1 : String := "java/lang/StringLatin1"
def TJ1 : u_T := fun k => match k with
  | _ => ("", "", "", false)
def tyJ1 : Nat → FieldType := fun k => match k with
  | _ => .int
abbrev wsJ10 : List Cond := u_ws RJ1 TJ1 0
theorem nmJ1 : ∀ a, a < 0 → ∀ b, b < 0 → a ≠ b → (TJ1 a).2.1 ≠ (TJ1 b).2.1 := by decide +kernel
theorem tyJ1_ok : ∀ k, k < 0 → parseFieldDescriptor (TJ1 k).2.2.1 = some (tyJ1 k) := by decide +kernel
abbrev cJ1_charAt_3b067 : ByteArray := prog_16_method_2_code
def yJ1_charAt_3b067 : MethodName := ⟨RJ1, "charAt", "([BI)C"⟩
def RJ2 : String := "java/lang/StringUTF16"
def TJ2 : u_T := fun k => match k with
  | _ => ("", "", "", false)
def tyJ2 : Nat → FieldType := fun k => match k with
  | _ => .int
abbrev wsJ20 : List Cond := u_ws RJ2 TJ2 0
theorem nmJ2 : ∀ a, a < 0 → ∀ b, b < 0 → a ≠ b → (TJ2 a).2.1 ≠ (TJ2 b).2.1 := by decide +kernel
theorem tyJ2_ok : ∀ k, k < 0 → parseFieldDescriptor (TJ2 k).2.2.1 = some (tyJ2 k) := by decide +kernel
abbrev cJ2_getChar_3b067 : ByteArray := prog_17_method_5_code
def yJ2_getChar_3b067 : MethodName := ⟨RJ2, "getChar", "([BI)C"⟩
abbrev cJ2_length_9d52b : ByteArray := prog_17_method_6_code
def yJ2_length_9d52b : MethodName := ⟨RJ2, "length", "([B)I"⟩
abbrev cJ2_charAt_3b067 : ByteArray := prog_17_method_83_code
def yJ2_charAt_3b067 : MethodName := ⟨RJ2, "charAt", "([BI)C"⟩
abbrev cJ2_checkIndex_2214a : ByteArray := prog_17_method_91_code
def yJ2_checkIndex_2214a : MethodName := ⟨RJ2, "checkIndex", "(I[B)V"⟩
def RJ10 : String := "java/lang/System"
def TJ10 : u_T := fun k => match k with
  | _ => ("", "", "", false)
def tyJ10 : Nat → FieldType := fun k => match k with
  | _ => .int
abbrev wsJ100 : List Cond := u_ws RJ10 TJ10 0
theorem nmJ10 : ∀ a, a < 0 → ∀ b, b < 0 → a ≠ b → (TJ10 a).2.1 ≠ (TJ10 b).2.1 := by decide +kernel
theorem tyJ10_ok : ∀ k, k < 0 → parseFieldDescriptor (TJ10 k).2.2.1 = some (tyJ10 k) := by decide +kernel
def RJ3 : String := "jdk/internal/util/Preconditions"
def TJ3 : u_T := fun k => match k with
  | _ => ("", "", "", false)
def tyJ3 : Nat → FieldType := fun k => match k with
  | _ => .int
abbrev wsJ30 : List Cond := u_ws RJ3 TJ3 0
theorem nmJ3 : ∀ a, a < 0 → ∀ b, b < 0 → a ≠ b → (TJ3 a).2.1 ≠ (TJ3 b).2.1 := by decide +kernel
theorem tyJ3_ok : ∀ k, k < 0 → parseFieldDescriptor (TJ3 k).2.2.1 = some (tyJ3 k) := by decide +kernel
abbrev cJ3_checkIndex_8e157 : ByteArray := prog_19_method_11_code
def yJ3_checkIndex_8e157 : MethodName := ⟨RJ3, "checkIndex", "(IILjava/util/function/BiFunction;)I"⟩
def RL : String := "MoodSextantLaw"
abbrev cL_law : ByteArray := code
abbrev vwCl : List vw_C := [(RX2, TX2, 3), (RX3, TX3, 2), (RX4, TX4, 3), (RX5, TX5, 15), (RX6, TX6, 6), (RX7, TX7, 10), (RX8, TX8, 24)]
/-- the words that all contracts here have: of the law's, those that every call keeps -/
def wsL_law : List Cond := lw_tbl.filter goodWord
theorem wT_of {w : Cond} (h : w ∈ lw_tbl) (g : goodWord w = true) : w ∈ wsL_law := List.mem_filter.mpr ⟨h, g⟩
theorem wT_at {w : Cond} (k : Nat) (h : lw_tbl[k]? = some w) (g : goodWord w = true) : w ∈ wsL_law := wT_of (List.mem_of_getElem? h) g
