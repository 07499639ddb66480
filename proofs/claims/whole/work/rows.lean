section
-- ===== PART A: goes FIRST, ahead of the names: the tables' words, and 'selects' of the private methods out of them =====
/-- a private method of a class that the tables say can be made, by its rows of tables_1 -/
def lw_okq (q : MethodName × Nat) : Prop := (q.1.cls ≠ "java/lang/invoke/MethodHandle" ∧ q.1.cls ≠ "java/lang/invoke/VarHandle") ∧ Cond.instantiable q.1.cls q.2 ∈ tables_1 ∧ Cond.privateMethod q.1 ∈ tables_1 ∧ Cond.instanceMethod q.1 ∈ tables_1
theorem lw_p0 : lw_okq (⟨"MoodSextant", "isRefused", "(LMoodSextant$Form;II)Z"⟩, 10) := ⟨⟨by decide +kernel, by decide +kernel⟩, List.mem_of_getElem? (i := 20) (by decide +kernel), List.mem_of_getElem? (i := 226) (by decide +kernel), List.mem_of_getElem? (i := 227) (by decide +kernel)⟩
theorem lw_p1 : lw_okq (⟨"MoodSextant$Ship", "isSightedNow", "(I)Z"⟩, 15) := ⟨⟨by decide +kernel, by decide +kernel⟩, List.mem_of_getElem? (i := 28) (by decide +kernel), List.mem_of_getElem? (i := 242) (by decide +kernel), List.mem_of_getElem? (i := 243) (by decide +kernel)⟩
theorem lw_p2 : lw_okq (⟨"MoodSextant$Ship", "sightFrom", "(II)I"⟩, 15) := ⟨⟨by decide +kernel, by decide +kernel⟩, List.mem_of_getElem? (i := 28) (by decide +kernel), List.mem_of_getElem? (i := 246) (by decide +kernel), List.mem_of_getElem? (i := 247) (by decide +kernel)⟩
theorem lw_p3 : lw_okq (⟨"MoodSextant", "change", "(LMoodSextant$Form;II)V"⟩, 10) := ⟨⟨by decide +kernel, by decide +kernel⟩, List.mem_of_getElem? (i := 20) (by decide +kernel), List.mem_of_getElem? (i := 259) (by decide +kernel), List.mem_of_getElem? (i := 260) (by decide +kernel)⟩
theorem lw_p4 : lw_okq (⟨"MoodSextant$Ship", "addSailor", "(I)V"⟩, 15) := ⟨⟨by decide +kernel, by decide +kernel⟩, List.mem_of_getElem? (i := 28) (by decide +kernel), List.mem_of_getElem? (i := 278) (by decide +kernel), List.mem_of_getElem? (i := 279) (by decide +kernel)⟩
theorem lw_p5 : lw_okq (⟨"MoodSextant$Ship", "removeSailor", "(I)V"⟩, 15) := ⟨⟨by decide +kernel, by decide +kernel⟩, List.mem_of_getElem? (i := 28) (by decide +kernel), List.mem_of_getElem? (i := 282) (by decide +kernel), List.mem_of_getElem? (i := 283) (by decide +kernel)⟩
theorem lw_p6 : lw_okq (⟨"MoodSextant$Ship", "forgetSightsOf", "(I)V"⟩, 15) := ⟨⟨by decide +kernel, by decide +kernel⟩, List.mem_of_getElem? (i := 28) (by decide +kernel), List.mem_of_getElem? (i := 286) (by decide +kernel), List.mem_of_getElem? (i := 287) (by decide +kernel)⟩
theorem lw_p7 : lw_okq (⟨"MoodSextant$Ship", "addSight", "(I)V"⟩, 15) := ⟨⟨by decide +kernel, by decide +kernel⟩, List.mem_of_getElem? (i := 28) (by decide +kernel), List.mem_of_getElem? (i := 290) (by decide +kernel), List.mem_of_getElem? (i := 291) (by decide +kernel)⟩
theorem lw_p8 : lw_okq (⟨"MoodSextant$Ship", "give", "(II)V"⟩, 15) := ⟨⟨by decide +kernel, by decide +kernel⟩, List.mem_of_getElem? (i := 28) (by decide +kernel), List.mem_of_getElem? (i := 329) (by decide +kernel), List.mem_of_getElem? (i := 330) (by decide +kernel)⟩
theorem lw_p9 : lw_okq (⟨"MoodSextant$Ship", "passHour", "()V"⟩, 15) := ⟨⟨by decide +kernel, by decide +kernel⟩, List.mem_of_getElem? (i := 28) (by decide +kernel), List.mem_of_getElem? (i := 333) (by decide +kernel), List.mem_of_getElem? (i := 334) (by decide +kernel)⟩
theorem lw_p10 : lw_okq (⟨"MoodSextant$Ship", "mateSet", "(I)I"⟩, 15) := ⟨⟨by decide +kernel, by decide +kernel⟩, List.mem_of_getElem? (i := 28) (by decide +kernel), List.mem_of_getElem? (i := 421) (by decide +kernel), List.mem_of_getElem? (i := 422) (by decide +kernel)⟩
theorem lw_p11 : lw_okq (⟨"MoodSextant$Ship", "areMates", "(II)Z"⟩, 15) := ⟨⟨by decide +kernel, by decide +kernel⟩, List.mem_of_getElem? (i := 28) (by decide +kernel), List.mem_of_getElem? (i := 425) (by decide +kernel), List.mem_of_getElem? (i := 426) (by decide +kernel)⟩
theorem lw_p12 : lw_okq (⟨"MoodSextant$Ship", "latestReading", "(I)F"⟩, 15) := ⟨⟨by decide +kernel, by decide +kernel⟩, List.mem_of_getElem? (i := 28) (by decide +kernel), List.mem_of_getElem? (i := 488) (by decide +kernel), List.mem_of_getElem? (i := 489) (by decide +kernel)⟩
theorem lw_p13 : lw_okq (⟨"MoodSextant$Ship", "secondReading", "(I)F"⟩, 15) := ⟨⟨by decide +kernel, by decide +kernel⟩, List.mem_of_getElem? (i := 28) (by decide +kernel), List.mem_of_getElem? (i := 492) (by decide +kernel), List.mem_of_getElem? (i := 493) (by decide +kernel)⟩
theorem lw_p14 : lw_okq (⟨"MoodSextant$Ship", "isHigher", "(II)Z"⟩, 15) := ⟨⟨by decide +kernel, by decide +kernel⟩, List.mem_of_getElem? (i := 28) (by decide +kernel), List.mem_of_getElem? (i := 561) (by decide +kernel), List.mem_of_getElem? (i := 562) (by decide +kernel)⟩
theorem lw_p15 : lw_okq (⟨"MoodSextant$Ship", "isSightHigher", "(II)Z"⟩, 15) := ⟨⟨by decide +kernel, by decide +kernel⟩, List.mem_of_getElem? (i := 28) (by decide +kernel), List.mem_of_getElem? (i := 573) (by decide +kernel), List.mem_of_getElem? (i := 574) (by decide +kernel)⟩
def lw_privs_1 : List (MethodName × Nat) := [(⟨"MoodSextant", "isRefused", "(LMoodSextant$Form;II)Z"⟩, 10), (⟨"MoodSextant$Ship", "isSightedNow", "(I)Z"⟩, 15), (⟨"MoodSextant$Ship", "sightFrom", "(II)I"⟩, 15), (⟨"MoodSextant", "change", "(LMoodSextant$Form;II)V"⟩, 10), (⟨"MoodSextant$Ship", "addSailor", "(I)V"⟩, 15), (⟨"MoodSextant$Ship", "removeSailor", "(I)V"⟩, 15), (⟨"MoodSextant$Ship", "forgetSightsOf", "(I)V"⟩, 15), (⟨"MoodSextant$Ship", "addSight", "(I)V"⟩, 15), (⟨"MoodSextant$Ship", "give", "(II)V"⟩, 15), (⟨"MoodSextant$Ship", "passHour", "()V"⟩, 15), (⟨"MoodSextant$Ship", "mateSet", "(I)I"⟩, 15), (⟨"MoodSextant$Ship", "areMates", "(II)Z"⟩, 15), (⟨"MoodSextant$Ship", "latestReading", "(I)F"⟩, 15), (⟨"MoodSextant$Ship", "secondReading", "(I)F"⟩, 15), (⟨"MoodSextant$Ship", "isHigher", "(II)Z"⟩, 15), (⟨"MoodSextant$Ship", "isSightHigher", "(II)Z"⟩, 15)]
theorem lw_r1 : ∀ q ∈ lw_privs_1, lw_okq q := List.forall_mem_cons.mpr ⟨lw_p0, List.forall_mem_cons.mpr ⟨lw_p1, List.forall_mem_cons.mpr ⟨lw_p2, List.forall_mem_cons.mpr ⟨lw_p3, List.forall_mem_cons.mpr ⟨lw_p4, List.forall_mem_cons.mpr ⟨lw_p5, List.forall_mem_cons.mpr ⟨lw_p6, List.forall_mem_cons.mpr ⟨lw_p7, List.forall_mem_cons.mpr ⟨lw_p8, List.forall_mem_cons.mpr ⟨lw_p9, List.forall_mem_cons.mpr ⟨lw_p10, List.forall_mem_cons.mpr ⟨lw_p11, List.forall_mem_cons.mpr ⟨lw_p12, List.forall_mem_cons.mpr ⟨lw_p13, List.forall_mem_cons.mpr ⟨lw_p14, List.forall_mem_cons.mpr ⟨lw_p15, fun _ h => absurd h List.not_mem_nil⟩⟩⟩⟩⟩⟩⟩⟩⟩⟩⟩⟩⟩⟩⟩⟩
theorem lw_p16 : lw_okq (⟨"MoodSextant$Text", "formAt", "(I)LMoodSextant$Form;"⟩, 6) := ⟨⟨by decide +kernel, by decide +kernel⟩, List.mem_of_getElem? (i := 136) (by decide +kernel), List.mem_of_getElem? (i := 666) (by decide +kernel), List.mem_of_getElem? (i := 667) (by decide +kernel)⟩
theorem lw_p17 : lw_okq (⟨"MoodSextant$Text", "matchedAt", "(Ljava/lang/String;I)I"⟩, 6) := ⟨⟨by decide +kernel, by decide +kernel⟩, List.mem_of_getElem? (i := 136) (by decide +kernel), List.mem_of_getElem? (i := 672) (by decide +kernel), List.mem_of_getElem? (i := 673) (by decide +kernel)⟩
theorem lw_p18 : lw_okq (⟨"MoodSextant$Text", "farthestAt", "(I)I"⟩, 6) := ⟨⟨by decide +kernel, by decide +kernel⟩, List.mem_of_getElem? (i := 136) (by decide +kernel), List.mem_of_getElem? (i := 730) (by decide +kernel), List.mem_of_getElem? (i := 731) (by decide +kernel)⟩
theorem lw_p19 : lw_okq (⟨"MoodSextant$Text", "keep", "(LMoodSextant$Form;I)V"⟩, 6) := ⟨⟨by decide +kernel, by decide +kernel⟩, List.mem_of_getElem? (i := 136) (by decide +kernel), List.mem_of_getElem? (i := 735) (by decide +kernel), List.mem_of_getElem? (i := 736) (by decide +kernel)⟩
theorem lw_p20 : lw_okq (⟨"MoodSextant", "isTextDone", "()Z"⟩, 10) := ⟨⟨by decide +kernel, by decide +kernel⟩, List.mem_of_getElem? (i := 20) (by decide +kernel), List.mem_of_getElem? (i := 749) (by decide +kernel), List.mem_of_getElem? (i := 750) (by decide +kernel)⟩
theorem lw_p21 : lw_okq (⟨"MoodSextantModel", "begins", "()V"⟩, 24) := ⟨⟨by decide +kernel, by decide +kernel⟩, List.mem_of_getElem? (i := 796) (by decide +kernel), List.mem_of_getElem? (i := 879) (by decide +kernel), List.mem_of_getElem? (i := 880) (by decide +kernel)⟩
theorem lw_p22 : lw_okq (⟨"MoodSextantModel", "comes", "(I)I"⟩, 24) := ⟨⟨by decide +kernel, by decide +kernel⟩, List.mem_of_getElem? (i := 796) (by decide +kernel), List.mem_of_getElem? (i := 886) (by decide +kernel), List.mem_of_getElem? (i := 887) (by decide +kernel)⟩
theorem lw_p23 : lw_okq (⟨"MoodSextantModel", "fail", "(I)I"⟩, 24) := ⟨⟨by decide +kernel, by decide +kernel⟩, List.mem_of_getElem? (i := 796) (by decide +kernel), List.mem_of_getElem? (i := 898) (by decide +kernel), List.mem_of_getElem? (i := 899) (by decide +kernel)⟩
theorem lw_p24 : lw_okq (⟨"MoodSextantModel", "refuses", "(II)I"⟩, 24) := ⟨⟨by decide +kernel, by decide +kernel⟩, List.mem_of_getElem? (i := 796) (by decide +kernel), List.mem_of_getElem? (i := 902) (by decide +kernel), List.mem_of_getElem? (i := 903) (by decide +kernel)⟩
theorem lw_p25 : lw_okq (⟨"MoodSextantModel", "ends", "(I)I"⟩, 24) := ⟨⟨by decide +kernel, by decide +kernel⟩, List.mem_of_getElem? (i := 796) (by decide +kernel), List.mem_of_getElem? (i := 910) (by decide +kernel), List.mem_of_getElem? (i := 911) (by decide +kernel)⟩
theorem lw_p26 : lw_okq (⟨"MoodSextantModel", "goes", "(I)I"⟩, 24) := ⟨⟨by decide +kernel, by decide +kernel⟩, List.mem_of_getElem? (i := 796) (by decide +kernel), List.mem_of_getElem? (i := 918) (by decide +kernel), List.mem_of_getElem? (i := 919) (by decide +kernel)⟩
theorem lw_p27 : lw_okq (⟨"MoodSextantModel", "isSailor", "(I)Z"⟩, 24) := ⟨⟨by decide +kernel, by decide +kernel⟩, List.mem_of_getElem? (i := 796) (by decide +kernel), List.mem_of_getElem? (i := 922) (by decide +kernel), List.mem_of_getElem? (i := 923) (by decide +kernel)⟩
theorem lw_p28 : lw_okq (⟨"MoodSextantModel", "forgets", "(I)V"⟩, 24) := ⟨⟨by decide +kernel, by decide +kernel⟩, List.mem_of_getElem? (i := 796) (by decide +kernel), List.mem_of_getElem? (i := 927) (by decide +kernel), List.mem_of_getElem? (i := 928) (by decide +kernel)⟩
theorem lw_p29 : lw_okq (⟨"MoodSextantModel", "moods", "(II)I"⟩, 24) := ⟨⟨by decide +kernel, by decide +kernel⟩, List.mem_of_getElem? (i := 796) (by decide +kernel), List.mem_of_getElem? (i := 935) (by decide +kernel), List.mem_of_getElem? (i := 936) (by decide +kernel)⟩
theorem lw_p30 : lw_okq (⟨"MoodSextantModel", "sets", "(II)I"⟩, 24) := ⟨⟨by decide +kernel, by decide +kernel⟩, List.mem_of_getElem? (i := 796) (by decide +kernel), List.mem_of_getElem? (i := 939) (by decide +kernel), List.mem_of_getElem? (i := 940) (by decide +kernel)⟩
theorem lw_p31 : lw_okq (⟨"MoodSextantModel", "drinks", "(II)I"⟩, 24) := ⟨⟨by decide +kernel, by decide +kernel⟩, List.mem_of_getElem? (i := 796) (by decide +kernel), List.mem_of_getElem? (i := 947) (by decide +kernel), List.mem_of_getElem? (i := 948) (by decide +kernel)⟩
def lw_privs_2 : List (MethodName × Nat) := [(⟨"MoodSextant$Text", "formAt", "(I)LMoodSextant$Form;"⟩, 6), (⟨"MoodSextant$Text", "matchedAt", "(Ljava/lang/String;I)I"⟩, 6), (⟨"MoodSextant$Text", "farthestAt", "(I)I"⟩, 6), (⟨"MoodSextant$Text", "keep", "(LMoodSextant$Form;I)V"⟩, 6), (⟨"MoodSextant", "isTextDone", "()Z"⟩, 10), (⟨"MoodSextantModel", "begins", "()V"⟩, 24), (⟨"MoodSextantModel", "comes", "(I)I"⟩, 24), (⟨"MoodSextantModel", "fail", "(I)I"⟩, 24), (⟨"MoodSextantModel", "refuses", "(II)I"⟩, 24), (⟨"MoodSextantModel", "ends", "(I)I"⟩, 24), (⟨"MoodSextantModel", "goes", "(I)I"⟩, 24), (⟨"MoodSextantModel", "isSailor", "(I)Z"⟩, 24), (⟨"MoodSextantModel", "forgets", "(I)V"⟩, 24), (⟨"MoodSextantModel", "moods", "(II)I"⟩, 24), (⟨"MoodSextantModel", "sets", "(II)I"⟩, 24), (⟨"MoodSextantModel", "drinks", "(II)I"⟩, 24)]
theorem lw_r2 : ∀ q ∈ lw_privs_2, lw_okq q := List.forall_mem_cons.mpr ⟨lw_p16, List.forall_mem_cons.mpr ⟨lw_p17, List.forall_mem_cons.mpr ⟨lw_p18, List.forall_mem_cons.mpr ⟨lw_p19, List.forall_mem_cons.mpr ⟨lw_p20, List.forall_mem_cons.mpr ⟨lw_p21, List.forall_mem_cons.mpr ⟨lw_p22, List.forall_mem_cons.mpr ⟨lw_p23, List.forall_mem_cons.mpr ⟨lw_p24, List.forall_mem_cons.mpr ⟨lw_p25, List.forall_mem_cons.mpr ⟨lw_p26, List.forall_mem_cons.mpr ⟨lw_p27, List.forall_mem_cons.mpr ⟨lw_p28, List.forall_mem_cons.mpr ⟨lw_p29, List.forall_mem_cons.mpr ⟨lw_p30, List.forall_mem_cons.mpr ⟨lw_p31, fun _ h => absurd h List.not_mem_nil⟩⟩⟩⟩⟩⟩⟩⟩⟩⟩⟩⟩⟩⟩⟩⟩
theorem lw_p32 : lw_okq (⟨"MoodSextantModel", "stands", "(II)I"⟩, 24) := ⟨⟨by decide +kernel, by decide +kernel⟩, List.mem_of_getElem? (i := 796) (by decide +kernel), List.mem_of_getElem? (i := 955) (by decide +kernel), List.mem_of_getElem? (i := 956) (by decide +kernel)⟩
theorem lw_p33 : lw_okq (⟨"MoodSextantModel", "horizons", "(II)I"⟩, 24) := ⟨⟨by decide +kernel, by decide +kernel⟩, List.mem_of_getElem? (i := 796) (by decide +kernel), List.mem_of_getElem? (i := 966) (by decide +kernel), List.mem_of_getElem? (i := 967) (by decide +kernel)⟩
theorem lw_p34 : lw_okq (⟨"MoodSextantModel", "errs", "(I)I"⟩, 24) := ⟨⟨by decide +kernel, by decide +kernel⟩, List.mem_of_getElem? (i := 796) (by decide +kernel), List.mem_of_getElem? (i := 974) (by decide +kernel), List.mem_of_getElem? (i := 975) (by decide +kernel)⟩
theorem lw_p35 : lw_okq (⟨"MoodSextantModel", "takes", "(I)I"⟩, 24) := ⟨⟨by decide +kernel, by decide +kernel⟩, List.mem_of_getElem? (i := 796) (by decide +kernel), List.mem_of_getElem? (i := 982) (by decide +kernel), List.mem_of_getElem? (i := 983) (by decide +kernel)⟩
theorem lw_p36 : lw_okq (⟨"MoodSextantModel", "reads", "(I)F"⟩, 24) := ⟨⟨by decide +kernel, by decide +kernel⟩, List.mem_of_getElem? (i := 796) (by decide +kernel), List.mem_of_getElem? (i := 986) (by decide +kernel), List.mem_of_getElem? (i := 987) (by decide +kernel)⟩
theorem lw_p37 : lw_okq (⟨"MoodSextantModel", "angled", "(I)I"⟩, 24) := ⟨⟨by decide +kernel, by decide +kernel⟩, List.mem_of_getElem? (i := 796) (by decide +kernel), List.mem_of_getElem? (i := 990) (by decide +kernel), List.mem_of_getElem? (i := 991) (by decide +kernel)⟩
theorem lw_p38 : lw_okq (⟨"MoodSextantModel", "cheer", "(I)I"⟩, 24) := ⟨⟨by decide +kernel, by decide +kernel⟩, List.mem_of_getElem? (i := 796) (by decide +kernel), List.mem_of_getElem? (i := 994) (by decide +kernel), List.mem_of_getElem? (i := 995) (by decide +kernel)⟩
theorem lw_p39 : lw_okq (⟨"MoodSextantModel", "dread", "(I)I"⟩, 24) := ⟨⟨by decide +kernel, by decide +kernel⟩, List.mem_of_getElem? (i := 796) (by decide +kernel), List.mem_of_getElem? (i := 1001) (by decide +kernel), List.mem_of_getElem? (i := 1002) (by decide +kernel)⟩
theorem lw_p40 : lw_okq (⟨"MoodSextantModel", "passes", "()I"⟩, 24) := ⟨⟨by decide +kernel, by decide +kernel⟩, List.mem_of_getElem? (i := 796) (by decide +kernel), List.mem_of_getElem? (i := 1021) (by decide +kernel), List.mem_of_getElem? (i := 1022) (by decide +kernel)⟩
theorem lw_p41 : lw_okq (⟨"MoodSextantModel", "allRum", "()I"⟩, 24) := ⟨⟨by decide +kernel, by decide +kernel⟩, List.mem_of_getElem? (i := 796) (by decide +kernel), List.mem_of_getElem? (i := 1028) (by decide +kernel), List.mem_of_getElem? (i := 1029) (by decide +kernel)⟩
theorem lw_p42 : lw_okq (⟨"MoodSextantModel", "sights", "(I)I"⟩, 24) := ⟨⟨by decide +kernel, by decide +kernel⟩, List.mem_of_getElem? (i := 796) (by decide +kernel), List.mem_of_getElem? (i := 1036) (by decide +kernel), List.mem_of_getElem? (i := 1037) (by decide +kernel)⟩
theorem lw_p43 : lw_okq (⟨"MoodSextantModel", "mates", "(I)I"⟩, 24) := ⟨⟨by decide +kernel, by decide +kernel⟩, List.mem_of_getElem? (i := 796) (by decide +kernel), List.mem_of_getElem? (i := 1040) (by decide +kernel), List.mem_of_getElem? (i := 1041) (by decide +kernel)⟩
theorem lw_p44 : lw_okq (⟨"MoodSextantModel", "differs", "(II)I"⟩, 24) := ⟨⟨by decide +kernel, by decide +kernel⟩, List.mem_of_getElem? (i := 796) (by decide +kernel), List.mem_of_getElem? (i := 1044) (by decide +kernel), List.mem_of_getElem? (i := 1045) (by decide +kernel)⟩
theorem lw_p45 : lw_okq (⟨"MoodSextantModel", "mess", "(I)I"⟩, 24) := ⟨⟨by decide +kernel, by decide +kernel⟩, List.mem_of_getElem? (i := 796) (by decide +kernel), List.mem_of_getElem? (i := 1048) (by decide +kernel), List.mem_of_getElem? (i := 1049) (by decide +kernel)⟩
theorem lw_p46 : lw_okq (⟨"MoodSextantModel", "fixed", "(I)F"⟩, 24) := ⟨⟨by decide +kernel, by decide +kernel⟩, List.mem_of_getElem? (i := 796) (by decide +kernel), List.mem_of_getElem? (i := 1073) (by decide +kernel), List.mem_of_getElem? (i := 1074) (by decide +kernel)⟩
theorem lw_p47 : lw_okq (⟨"MoodSextantModel", "value", "(I)F"⟩, 24) := ⟨⟨by decide +kernel, by decide +kernel⟩, List.mem_of_getElem? (i := 796) (by decide +kernel), List.mem_of_getElem? (i := 1077) (by decide +kernel), List.mem_of_getElem? (i := 1078) (by decide +kernel)⟩
def lw_privs_3 : List (MethodName × Nat) := [(⟨"MoodSextantModel", "stands", "(II)I"⟩, 24), (⟨"MoodSextantModel", "horizons", "(II)I"⟩, 24), (⟨"MoodSextantModel", "errs", "(I)I"⟩, 24), (⟨"MoodSextantModel", "takes", "(I)I"⟩, 24), (⟨"MoodSextantModel", "reads", "(I)F"⟩, 24), (⟨"MoodSextantModel", "angled", "(I)I"⟩, 24), (⟨"MoodSextantModel", "cheer", "(I)I"⟩, 24), (⟨"MoodSextantModel", "dread", "(I)I"⟩, 24), (⟨"MoodSextantModel", "passes", "()I"⟩, 24), (⟨"MoodSextantModel", "allRum", "()I"⟩, 24), (⟨"MoodSextantModel", "sights", "(I)I"⟩, 24), (⟨"MoodSextantModel", "mates", "(I)I"⟩, 24), (⟨"MoodSextantModel", "differs", "(II)I"⟩, 24), (⟨"MoodSextantModel", "mess", "(I)I"⟩, 24), (⟨"MoodSextantModel", "fixed", "(I)F"⟩, 24), (⟨"MoodSextantModel", "value", "(I)F"⟩, 24)]
theorem lw_r3 : ∀ q ∈ lw_privs_3, lw_okq q := List.forall_mem_cons.mpr ⟨lw_p32, List.forall_mem_cons.mpr ⟨lw_p33, List.forall_mem_cons.mpr ⟨lw_p34, List.forall_mem_cons.mpr ⟨lw_p35, List.forall_mem_cons.mpr ⟨lw_p36, List.forall_mem_cons.mpr ⟨lw_p37, List.forall_mem_cons.mpr ⟨lw_p38, List.forall_mem_cons.mpr ⟨lw_p39, List.forall_mem_cons.mpr ⟨lw_p40, List.forall_mem_cons.mpr ⟨lw_p41, List.forall_mem_cons.mpr ⟨lw_p42, List.forall_mem_cons.mpr ⟨lw_p43, List.forall_mem_cons.mpr ⟨lw_p44, List.forall_mem_cons.mpr ⟨lw_p45, List.forall_mem_cons.mpr ⟨lw_p46, List.forall_mem_cons.mpr ⟨lw_p47, fun _ h => absurd h List.not_mem_nil⟩⟩⟩⟩⟩⟩⟩⟩⟩⟩⟩⟩⟩⟩⟩⟩
theorem lw_p48 : lw_okq (⟨"MoodSextantModel", "writes", "(I)V"⟩, 24) := ⟨⟨by decide +kernel, by decide +kernel⟩, List.mem_of_getElem? (i := 796) (by decide +kernel), List.mem_of_getElem? (i := 1149) (by decide +kernel), List.mem_of_getElem? (i := 1150) (by decide +kernel)⟩
theorem lw_p49 : lw_okq (⟨"MoodSextantModel", "writesNumber", "(I)V"⟩, 24) := ⟨⟨by decide +kernel, by decide +kernel⟩, List.mem_of_getElem? (i := 796) (by decide +kernel), List.mem_of_getElem? (i := 1153) (by decide +kernel), List.mem_of_getElem? (i := 1154) (by decide +kernel)⟩
theorem lw_p50 : lw_okq (⟨"MoodSextantModel", "commands", "()I"⟩, 24) := ⟨⟨by decide +kernel, by decide +kernel⟩, List.mem_of_getElem? (i := 796) (by decide +kernel), List.mem_of_getElem? (i := 1174) (by decide +kernel), List.mem_of_getElem? (i := 1175) (by decide +kernel)⟩
theorem lw_p51 : lw_okq (⟨"MoodSextantModel", "command", "()V"⟩, 24) := ⟨⟨by decide +kernel, by decide +kernel⟩, List.mem_of_getElem? (i := 796) (by decide +kernel), List.mem_of_getElem? (i := 1178) (by decide +kernel), List.mem_of_getElem? (i := 1179) (by decide +kernel)⟩
theorem lw_p52 : lw_okq (⟨"MoodSextantModel", "word", "()I"⟩, 24) := ⟨⟨by decide +kernel, by decide +kernel⟩, List.mem_of_getElem? (i := 796) (by decide +kernel), List.mem_of_getElem? (i := 1182) (by decide +kernel), List.mem_of_getElem? (i := 1183) (by decide +kernel)⟩
theorem lw_p53 : lw_okq (⟨"MoodSextantModel", "sign", "()I"⟩, 24) := ⟨⟨by decide +kernel, by decide +kernel⟩, List.mem_of_getElem? (i := 796) (by decide +kernel), List.mem_of_getElem? (i := 1186) (by decide +kernel), List.mem_of_getElem? (i := 1187) (by decide +kernel)⟩
theorem lw_p54 : lw_okq (⟨"MoodSextantModel", "hexes", "()I"⟩, 24) := ⟨⟨by decide +kernel, by decide +kernel⟩, List.mem_of_getElem? (i := 796) (by decide +kernel), List.mem_of_getElem? (i := 1190) (by decide +kernel), List.mem_of_getElem? (i := 1191) (by decide +kernel)⟩
theorem lw_p55 : lw_okq (⟨"MoodSextantModel", "digit", "()I"⟩, 24) := ⟨⟨by decide +kernel, by decide +kernel⟩, List.mem_of_getElem? (i := 796) (by decide +kernel), List.mem_of_getElem? (i := 1194) (by decide +kernel), List.mem_of_getElem? (i := 1195) (by decide +kernel)⟩
theorem lw_p56 : lw_okq (⟨"MoodSextantModel", "mark", "(I)V"⟩, 24) := ⟨⟨by decide +kernel, by decide +kernel⟩, List.mem_of_getElem? (i := 796) (by decide +kernel), List.mem_of_getElem? (i := 1198) (by decide +kernel), List.mem_of_getElem? (i := 1199) (by decide +kernel)⟩
theorem lw_p57 : lw_okq (⟨"MoodSextantModel", "does", "(III)I"⟩, 24) := ⟨⟨by decide +kernel, by decide +kernel⟩, List.mem_of_getElem? (i := 796) (by decide +kernel), List.mem_of_getElem? (i := 1202) (by decide +kernel), List.mem_of_getElem? (i := 1203) (by decide +kernel)⟩
def lw_privs_4 : List (MethodName × Nat) := [(⟨"MoodSextantModel", "writes", "(I)V"⟩, 24), (⟨"MoodSextantModel", "writesNumber", "(I)V"⟩, 24), (⟨"MoodSextantModel", "commands", "()I"⟩, 24), (⟨"MoodSextantModel", "command", "()V"⟩, 24), (⟨"MoodSextantModel", "word", "()I"⟩, 24), (⟨"MoodSextantModel", "sign", "()I"⟩, 24), (⟨"MoodSextantModel", "hexes", "()I"⟩, 24), (⟨"MoodSextantModel", "digit", "()I"⟩, 24), (⟨"MoodSextantModel", "mark", "(I)V"⟩, 24), (⟨"MoodSextantModel", "does", "(III)I"⟩, 24)]
theorem lw_r4 : ∀ q ∈ lw_privs_4, lw_okq q := List.forall_mem_cons.mpr ⟨lw_p48, List.forall_mem_cons.mpr ⟨lw_p49, List.forall_mem_cons.mpr ⟨lw_p50, List.forall_mem_cons.mpr ⟨lw_p51, List.forall_mem_cons.mpr ⟨lw_p52, List.forall_mem_cons.mpr ⟨lw_p53, List.forall_mem_cons.mpr ⟨lw_p54, List.forall_mem_cons.mpr ⟨lw_p55, List.forall_mem_cons.mpr ⟨lw_p56, List.forall_mem_cons.mpr ⟨lw_p57, fun _ h => absurd h List.not_mem_nil⟩⟩⟩⟩⟩⟩⟩⟩⟩⟩
def lw_privs : List (MethodName × Nat) := lw_privs_1 ++ (lw_privs_2 ++ (lw_privs_3 ++ (lw_privs_4)))
def lw_tbl : List Cond := k2_sels lw_privs ++ tables_1
theorem lw_privs_ok : ∀ q ∈ lw_privs, lw_okq q := by
  show ∀ q ∈ lw_privs_1 ++ (lw_privs_2 ++ (lw_privs_3 ++ (lw_privs_4))), lw_okq q
  exact List.forall_mem_append.mpr ⟨lw_r1, List.forall_mem_append.mpr ⟨lw_r2, List.forall_mem_append.mpr ⟨lw_r3, lw_r4⟩⟩⟩
/-- the streams that the claim lets the run draw from -/
abbrev lw_cs : List Choice := [Jvm.Choice.named "NaN.bits", Jvm.Choice.named "NaN.copy"]
theorem lw_bits : nanBits ∈ lw_cs := by first | decide | exact List.mem_cons_self | simp [lw_cs, nanBits]
-- ===== end of PART A; then your names; then what follows =====
def RX0 : String := "MoodSextant$1"
def TX0 : u_T := fun k => match k with
  | _ => ("", "", "", false)
def tyX0 : Nat → FieldType := fun k => match k with
  | _ => .int
abbrev wsX00 : List Cond := u_ws RX0 TX0 0
theorem nmX0 : ∀ a, a < 0 → ∀ b, b < 0 → a ≠ b → (TX0 a).2.1 ≠ (TX0 b).2.1 := by decide +kernel
theorem tyX0_ok : ∀ k, k < 0 → parseFieldDescriptor (TX0 k).2.2.1 = some (tyX0 k) := by decide +kernel
def RX1 : String := "MoodSextant$Form"
def TX1 : u_T := fun k => match k with
  | _ => ("", "", "", false)
def tyX1 : Nat → FieldType := fun k => match k with
  | _ => .int
abbrev wsX10 : List Cond := u_ws RX1 TX1 0
theorem nmX1 : ∀ a, a < 0 → ∀ b, b < 0 → a ≠ b → (TX1 a).2.1 ≠ (TX1 b).2.1 := by decide +kernel
theorem tyX1_ok : ∀ k, k < 0 → parseFieldDescriptor (TX1 k).2.2.1 = some (tyX1 k) := by decide +kernel
def RX2 : String := "MoodSextant$History"
def TX2 : u_T := fun k => match k with
  | 0 => ("MoodSextant$History", "ships", "[LMoodSextant$Ship;", true)
  | 1 => ("MoodSextant$History", "next", "I", false)
  | _ => ("MoodSextant$History", "kept", "I", false)
def tyX2 : Nat → FieldType := fun k => match k with
  | 0 => .array (.object "MoodSextant$Ship")
  | 1 => .int
  | _ => .int
abbrev wsX20 : List Cond := u_ws RX2 TX2 3
theorem nmX2 : ∀ a, a < 3 → ∀ b, b < 3 → a ≠ b → (TX2 a).2.1 ≠ (TX2 b).2.1 := by decide +kernel
theorem tyX2_ok : ∀ k, k < 3 → parseFieldDescriptor (TX2 k).2.2.1 = some (tyX2 k) := by decide +kernel
abbrev cX2_init : ByteArray := prog_4_method_1_code
def yX2_init : MethodName := ⟨RX2, "<init>", "()V"⟩
abbrev cX2_remember : ByteArray := prog_4_method_2_code
def yX2_remember : MethodName := ⟨RX2, "remember", "(LMoodSextant$Ship;)V"⟩
abbrev cX2_takeBack : ByteArray := prog_4_method_3_code
def yX2_takeBack : MethodName := ⟨RX2, "takeBack", "(LMoodSextant$Ship;)Z"⟩
abbrev cX2_forget : ByteArray := prog_4_method_4_code
def yX2_forget : MethodName := ⟨RX2, "forget", "()V"⟩
def RX3 : String := "MoodSextant$Line"
def TX3 : u_T := fun k => match k with
  | 0 => ("MoodSextant$Line", "signs", "[C", true)
  | _ => ("MoodSextant$Line", "length", "I", false)
def tyX3 : Nat → FieldType := fun k => match k with
  | 0 => .array .char
  | _ => .int
abbrev wsX30 : List Cond := u_ws RX3 TX3 2
theorem nmX3 : ∀ a, a < 2 → ∀ b, b < 2 → a ≠ b → (TX3 a).2.1 ≠ (TX3 b).2.1 := by decide +kernel
theorem tyX3_ok : ∀ k, k < 2 → parseFieldDescriptor (TX3 k).2.2.1 = some (tyX3 k) := by decide +kernel
abbrev cX3_init : ByteArray := prog_5_method_1_code
def yX3_init : MethodName := ⟨RX3, "<init>", "()V"⟩
abbrev cX3_clear : ByteArray := prog_5_method_2_code
def yX3_clear : MethodName := ⟨RX3, "clear", "()V"⟩
abbrev cX3_put : ByteArray := prog_5_method_3_code
def yX3_put : MethodName := ⟨RX3, "put", "(C)V"⟩
abbrev cX3_putMood : ByteArray := prog_5_method_4_code
def yX3_putMood : MethodName := ⟨RX3, "putMood", "(I)V"⟩
abbrev cX3_putNumber : ByteArray := prog_5_method_5_code
def yX3_putNumber : MethodName := ⟨RX3, "putNumber", "(I)V"⟩
def RX4 : String := "MoodSextant$Reasons"
def TX4 : u_T := fun k => match k with
  | 0 => ("MoodSextant$Reasons", "numbers", "[I", true)
  | 1 => ("MoodSextant$Reasons", "details", "[I", true)
  | _ => ("MoodSextant$Reasons", "depth", "I", false)
def tyX4 : Nat → FieldType := fun k => match k with
  | 0 => .array .int
  | 1 => .array .int
  | _ => .int
abbrev wsX40 : List Cond := u_ws RX4 TX4 3
theorem nmX4 : ∀ a, a < 3 → ∀ b, b < 3 → a ≠ b → (TX4 a).2.1 ≠ (TX4 b).2.1 := by decide +kernel
theorem tyX4_ok : ∀ k, k < 3 → parseFieldDescriptor (TX4 k).2.2.1 = some (tyX4 k) := by decide +kernel
abbrev cX4_init : ByteArray := prog_6_method_1_code
def yX4_init : MethodName := ⟨RX4, "<init>", "()V"⟩
abbrev cX4_keep : ByteArray := prog_6_method_2_code
def yX4_keep : MethodName := ⟨RX4, "keep", "(II)V"⟩
abbrev cX4_keepBehind : ByteArray := prog_6_method_3_code
def yX4_keepBehind : MethodName := ⟨RX4, "keepBehind", "(II)V"⟩
def RX5 : String := "MoodSextant$Ship"
def TX5 : u_T := fun k => match k with
  | 0 => ("MoodSextant$Ship", "sailors", "I", false)
  | 1 => ("MoodSextant$Ship", "moods", "[I", true)
  | 2 => ("MoodSextant$Ship", "cups", "[I", true)
  | 3 => ("MoodSextant$Ship", "watches", "[I", true)
  | 4 => ("MoodSextant$Ship", "horizons", "[I", true)
  | 5 => ("MoodSextant$Ship", "wrongBy", "I", false)
  | 6 => ("MoodSextant$Ship", "hoursGone", "I", false)
  | 7 => ("MoodSextant$Ship", "sights", "I", false)
  | 8 => ("MoodSextant$Ship", "sighted", "[I", true)
  | 9 => ("MoodSextant$Ship", "sightHours", "[I", true)
  | 10 => ("MoodSextant$Ship", "readings", "[F", true)
  | 11 => ("MoodSextant$Ship", "taken", "I", false)
  | 12 => ("MoodSextant$Ship", "given", "I", false)
  | 13 => ("MoodSextant$Ship", "drunk", "I", false)
  | _ => ("MoodSextant$Ship", "ashore", "I", false)
def tyX5 : Nat → FieldType := fun k => match k with
  | 0 => .int
  | 1 => .array .int
  | 2 => .array .int
  | 3 => .array .int
  | 4 => .array .int
  | 5 => .int
  | 6 => .int
  | 7 => .int
  | 8 => .array .int
  | 9 => .array .int
  | 10 => .array .float
  | 11 => .int
  | 12 => .int
  | 13 => .int
  | _ => .int
abbrev wsX50 : List Cond := u_ws RX5 TX5 15
theorem nmX5 : ∀ a, a < 15 → ∀ b, b < 15 → a ≠ b → (TX5 a).2.1 ≠ (TX5 b).2.1 := by decide +kernel
theorem tyX5_ok : ∀ k, k < 15 → parseFieldDescriptor (TX5 k).2.2.1 = some (tyX5 k) := by decide +kernel
abbrev cX5_init : ByteArray := prog_7_method_1_code
def yX5_init : MethodName := ⟨RX5, "<init>", "()V"⟩
abbrev cX5_copyFrom : ByteArray := prog_7_method_2_code
def yX5_copyFrom : MethodName := ⟨RX5, "copyFrom", "(LMoodSextant$Ship;)V"⟩
abbrev cX5_isMood : ByteArray := prog_7_method_3_code
def yX5_isMood : MethodName := ⟨RX5, "isMood", "(I)Z"⟩
abbrev cX5_isGift : ByteArray := prog_7_method_4_code
def yX5_isGift : MethodName := ⟨RX5, "isGift", "(I)Z"⟩
abbrev cX5_isWatch : ByteArray := prog_7_method_5_code
def yX5_isWatch : MethodName := ⟨RX5, "isWatch", "(I)Z"⟩
abbrev cX5_isHorizon : ByteArray := prog_7_method_6_code
def yX5_isHorizon : MethodName := ⟨RX5, "isHorizon", "(I)Z"⟩
abbrev cX5_isError : ByteArray := prog_7_method_7_code
def yX5_isError : MethodName := ⟨RX5, "isError", "(I)Z"⟩
abbrev cX5_hasSailor : ByteArray := prog_7_method_8_code
def yX5_hasSailor : MethodName := ⟨RX5, "hasSailor", "(I)Z"⟩
abbrev cX5_hasBoth : ByteArray := prog_7_method_9_code
def yX5_hasBoth : MethodName := ⟨RX5, "hasBoth", "(II)Z"⟩
abbrev cX5_hasSight : ByteArray := prog_7_method_10_code
def yX5_hasSight : MethodName := ⟨RX5, "hasSight", "(I)Z"⟩
abbrev cX5_isInRange : ByteArray := prog_7_method_11_code
def yX5_isInRange : MethodName := ⟨RX5, "isInRange", "(LMoodSextant$Form;II)Z"⟩
abbrev cX5_reasonAgainst : ByteArray := prog_7_method_12_code
def yX5_reasonAgainst : MethodName := ⟨RX5, "reasonAgainst", "(LMoodSextant$Form;II)I"⟩
abbrev cX5_detailOf : ByteArray := prog_7_method_13_code
def yX5_detailOf : MethodName := ⟨RX5, "detailOf", "(III)I"⟩
abbrev cX5_carryOut : ByteArray := prog_7_method_14_code
def yX5_carryOut : MethodName := ⟨RX5, "carryOut", "(LMoodSextant$Form;II)V"⟩
abbrev cX5_addSailor : ByteArray := prog_7_method_15_code
def yX5_addSailor : MethodName := ⟨RX5, "addSailor", "(I)V"⟩
abbrev cX5_removeSailor : ByteArray := prog_7_method_16_code
def yX5_removeSailor : MethodName := ⟨RX5, "removeSailor", "(I)V"⟩
abbrev cX5_forgetSightsOf : ByteArray := prog_7_method_17_code
def yX5_forgetSightsOf : MethodName := ⟨RX5, "forgetSightsOf", "(I)V"⟩
abbrev cX5_give : ByteArray := prog_7_method_18_code
def yX5_give : MethodName := ⟨RX5, "give", "(II)V"⟩
abbrev cX5_addSight : ByteArray := prog_7_method_19_code
def yX5_addSight : MethodName := ⟨RX5, "addSight", "(I)V"⟩
abbrev cX5_passHour : ByteArray := prog_7_method_20_code
def yX5_passHour : MethodName := ⟨RX5, "passHour", "()V"⟩
abbrev cX5_isSightedNow : ByteArray := prog_7_method_21_code
def yX5_isSightedNow : MethodName := ⟨RX5, "isSightedNow", "(I)Z"⟩
abbrev cX5_turned : ByteArray := prog_7_method_22_code
def yX5_turned : MethodName := ⟨RX5, "turned", "(II)I"⟩
abbrev cX5_cheerIn : ByteArray := prog_7_method_23_code
def yX5_cheerIn : MethodName := ⟨RX5, "cheerIn", "(I)I"⟩
abbrev cX5_dreadIn : ByteArray := prog_7_method_24_code
def yX5_dreadIn : MethodName := ⟨RX5, "dreadIn", "(I)I"⟩
abbrev cX5_angleAfter : ByteArray := prog_7_method_25_code
def yX5_angleAfter : MethodName := ⟨RX5, "angleAfter", "(II)I"⟩
abbrev cX5_readingOf : ByteArray := prog_7_method_26_code
def yX5_readingOf : MethodName := ⟨RX5, "readingOf", "(I)F"⟩
abbrev cX5_sightFrom : ByteArray := prog_7_method_27_code
def yX5_sightFrom : MethodName := ⟨RX5, "sightFrom", "(II)I"⟩
abbrev cX5_sightsOf : ByteArray := prog_7_method_28_code
def yX5_sightsOf : MethodName := ⟨RX5, "sightsOf", "(I)I"⟩
abbrev cX5_hasFix : ByteArray := prog_7_method_29_code
def yX5_hasFix : MethodName := ⟨RX5, "hasFix", "(I)Z"⟩
abbrev cX5_latestReading : ByteArray := prog_7_method_30_code
def yX5_latestReading : MethodName := ⟨RX5, "latestReading", "(I)F"⟩
abbrev cX5_secondReading : ByteArray := prog_7_method_31_code
def yX5_secondReading : MethodName := ⟨RX5, "secondReading", "(I)F"⟩
abbrev cX5_fixOf : ByteArray := prog_7_method_32_code
def yX5_fixOf : MethodName := ⟨RX5, "fixOf", "(I)F"⟩
abbrev cX5_fixFromLatest : ByteArray := prog_7_method_33_code
def yX5_fixFromLatest : MethodName := ⟨RX5, "fixFromLatest", "(I)F"⟩
abbrev cX5_unlikeBits : ByteArray := prog_7_method_34_code
def yX5_unlikeBits : MethodName := ⟨RX5, "unlikeBits", "(II)I"⟩
abbrev cX5_unlikeByCounts : ByteArray := prog_7_method_35_code
def yX5_unlikeByCounts : MethodName := ⟨RX5, "unlikeByCounts", "(II)I"⟩
abbrev cX5_closestTurn : ByteArray := prog_7_method_36_code
def yX5_closestTurn : MethodName := ⟨RX5, "closestTurn", "(II)I"⟩
abbrev cX5_areMates : ByteArray := prog_7_method_37_code
def yX5_areMates : MethodName := ⟨RX5, "areMates", "(II)Z"⟩
abbrev cX5_mateSet : ByteArray := prog_7_method_38_code
def yX5_mateSet : MethodName := ⟨RX5, "mateSet", "(I)I"⟩
abbrev cX5_matesOf : ByteArray := prog_7_method_39_code
def yX5_matesOf : MethodName := ⟨RX5, "matesOf", "(I)I"⟩
abbrev cX5_messOf : ByteArray := prog_7_method_40_code
def yX5_messOf : MethodName := ⟨RX5, "messOf", "(I)I"⟩
abbrev cX5_allMesses : ByteArray := prog_7_method_41_code
def yX5_allMesses : MethodName := ⟨RX5, "allMesses", "()I"⟩
abbrev cX5_sailorsIn : ByteArray := prog_7_method_42_code
def yX5_sailorsIn : MethodName := ⟨RX5, "sailorsIn", "(I)I"⟩
abbrev cX5_watchCheer : ByteArray := prog_7_method_43_code
def yX5_watchCheer : MethodName := ⟨RX5, "watchCheer", "(I)I"⟩
abbrev cX5_watchDread : ByteArray := prog_7_method_44_code
def yX5_watchDread : MethodName := ⟨RX5, "watchDread", "(I)I"⟩
abbrev cX5_allCups : ByteArray := prog_7_method_45_code
def yX5_allCups : MethodName := ⟨RX5, "allCups", "()I"⟩
abbrev cX5_allAngles : ByteArray := prog_7_method_46_code
def yX5_allAngles : MethodName := ⟨RX5, "allAngles", "()I"⟩
abbrev cX5_isHigher : ByteArray := prog_7_method_47_code
def yX5_isHigher : MethodName := ⟨RX5, "isHigher", "(II)Z"⟩
abbrev cX5_placeOfSailor : ByteArray := prog_7_method_48_code
def yX5_placeOfSailor : MethodName := ⟨RX5, "placeOfSailor", "(I)I"⟩
abbrev cX5_isSightHigher : ByteArray := prog_7_method_49_code
def yX5_isSightHigher : MethodName := ⟨RX5, "isSightHigher", "(II)Z"⟩
abbrev cX5_placeOfSight : ByteArray := prog_7_method_50_code
def yX5_placeOfSight : MethodName := ⟨RX5, "placeOfSight", "(I)I"⟩
abbrev cX5_isUnlikeAlike : ByteArray := prog_7_method_51_code
def yX5_isUnlikeAlike : MethodName := ⟨RX5, "isUnlikeAlike", "()Z"⟩
abbrev cX5_isFixAlike : ByteArray := prog_7_method_52_code
def yX5_isFixAlike : MethodName := ⟨RX5, "isFixAlike", "()Z"⟩
abbrev cX5_isLogOfCrew : ByteArray := prog_7_method_53_code
def yX5_isLogOfCrew : MethodName := ⟨RX5, "isLogOfCrew", "()Z"⟩
abbrev cX5_isRumCounted : ByteArray := prog_7_method_54_code
def yX5_isRumCounted : MethodName := ⟨RX5, "isRumCounted", "()Z"⟩
def RX6 : String := "MoodSextant$Text"
def TX6 : u_T := fun k => match k with
  | 0 => ("MoodSextant$Text", "signs", "[C", true)
  | 1 => ("MoodSextant$Text", "length", "I", false)
  | 2 => ("MoodSextant$Text", "forms", "[LMoodSextant$Form;", true)
  | 3 => ("MoodSextant$Text", "whos", "[I", true)
  | 4 => ("MoodSextant$Text", "values", "[I", true)
  | _ => ("MoodSextant$Text", "commands", "I", false)
def tyX6 : Nat → FieldType := fun k => match k with
  | 0 => .array .char
  | 1 => .int
  | 2 => .array (.object "MoodSextant$Form")
  | 3 => .array .int
  | 4 => .array .int
  | _ => .int
abbrev wsX60 : List Cond := u_ws RX6 TX6 6
theorem nmX6 : ∀ a, a < 6 → ∀ b, b < 6 → a ≠ b → (TX6 a).2.1 ≠ (TX6 b).2.1 := by decide +kernel
theorem tyX6_ok : ∀ k, k < 6 → parseFieldDescriptor (TX6 k).2.2.1 = some (tyX6 k) := by decide +kernel
abbrev cX6_init : ByteArray := prog_8_method_1_code
def yX6_init : MethodName := ⟨RX6, "<init>", "()V"⟩
abbrev cX6_add : ByteArray := prog_8_method_2_code
def yX6_add : MethodName := ⟨RX6, "add", "(C)Z"⟩
abbrev cX6_clear : ByteArray := prog_8_method_3_code
def yX6_clear : MethodName := ⟨RX6, "clear", "()V"⟩
abbrev cX6_parse : ByteArray := prog_8_method_4_code
def yX6_parse : MethodName := ⟨RX6, "parse", "()I"⟩
abbrev cX6_formAt : ByteArray := prog_8_method_5_code
def yX6_formAt : MethodName := ⟨RX6, "formAt", "(I)LMoodSextant$Form;"⟩
abbrev cX6_farthestAt : ByteArray := prog_8_method_6_code
def yX6_farthestAt : MethodName := ⟨RX6, "farthestAt", "(I)I"⟩
abbrev cX6_matchedAt : ByteArray := prog_8_method_7_code
def yX6_matchedAt : MethodName := ⟨RX6, "matchedAt", "(Ljava/lang/String;I)I"⟩
abbrev cX6_isFit : ByteArray := prog_8_method_8_code
def yX6_isFit : MethodName := ⟨RX6, "isFit", "(CC)Z"⟩
abbrev cX6_isDigit : ByteArray := prog_8_method_9_code
def yX6_isDigit : MethodName := ⟨RX6, "isDigit", "(C)Z"⟩
abbrev cX6_hexOf : ByteArray := prog_8_method_10_code
def yX6_hexOf : MethodName := ⟨RX6, "hexOf", "(C)I"⟩
abbrev cX6_keep : ByteArray := prog_8_method_11_code
def yX6_keep : MethodName := ⟨RX6, "keep", "(LMoodSextant$Form;I)V"⟩
def RX7 : String := "MoodSextant"
def TX7 : u_T := fun k => match k with
  | 0 => ("MoodSextant", "ship", "LMoodSextant$Ship;", true)
  | 1 => ("MoodSextant", "trial", "LMoodSextant$Ship;", true)
  | 2 => ("MoodSextant", "saved", "LMoodSextant$Ship;", true)
  | 3 => ("MoodSextant", "history", "LMoodSextant$History;", true)
  | 4 => ("MoodSextant", "reasons", "LMoodSextant$Reasons;", true)
  | 5 => ("MoodSextant", "text", "LMoodSextant$Text;", true)
  | 6 => ("MoodSextant", "line", "LMoodSextant$Line;", true)
  | 7 => ("MoodSextant", "isSaved", "Z", false)
  | 8 => ("MoodSextant", "isFaultKept", "Z", false)
  | _ => ("MoodSextant", "faultPosition", "I", false)
def tyX7 : Nat → FieldType := fun k => match k with
  | 0 => .object "MoodSextant$Ship"
  | 1 => .object "MoodSextant$Ship"
  | 2 => .object "MoodSextant$Ship"
  | 3 => .object "MoodSextant$History"
  | 4 => .object "MoodSextant$Reasons"
  | 5 => .object "MoodSextant$Text"
  | 6 => .object "MoodSextant$Line"
  | 7 => .boolean
  | 8 => .boolean
  | _ => .int
abbrev wsX70 : List Cond := u_ws RX7 TX7 10
theorem nmX7 : ∀ a, a < 10 → ∀ b, b < 10 → a ≠ b → (TX7 a).2.1 ≠ (TX7 b).2.1 := by decide +kernel
theorem tyX7_ok : ∀ k, k < 10 → parseFieldDescriptor (TX7 k).2.2.1 = some (tyX7 k) := by decide +kernel
abbrev cX7_init : ByteArray := prog_1_method_1_code
def yX7_init : MethodName := ⟨RX7, "<init>", "()V"⟩
abbrev cX7_sail : ByteArray := prog_1_method_2_code
def yX7_sail : MethodName := ⟨RX7, "sail", "(I)I"⟩
abbrev cX7_shore : ByteArray := prog_1_method_3_code
def yX7_shore : MethodName := ⟨RX7, "shore", "(I)I"⟩
abbrev cX7_mood : ByteArray := prog_1_method_4_code
def yX7_mood : MethodName := ⟨RX7, "mood", "(II)I"⟩
abbrev cX7_rum : ByteArray := prog_1_method_5_code
def yX7_rum : MethodName := ⟨RX7, "rum", "(II)I"⟩
abbrev cX7_watch : ByteArray := prog_1_method_6_code
def yX7_watch : MethodName := ⟨RX7, "watch", "(II)I"⟩
abbrev cX7_horizon : ByteArray := prog_1_method_7_code
def yX7_horizon : MethodName := ⟨RX7, "horizon", "(II)I"⟩
abbrev cX7_error : ByteArray := prog_1_method_8_code
def yX7_error : MethodName := ⟨RX7, "error", "(I)I"⟩
abbrev cX7_sight : ByteArray := prog_1_method_9_code
def yX7_sight : MethodName := ⟨RX7, "sight", "(I)I"⟩
abbrev cX7_hour : ByteArray := prog_1_method_10_code
def yX7_hour : MethodName := ⟨RX7, "hour", "()I"⟩
abbrev cX7_sailorOf : ByteArray := prog_1_method_11_code
def yX7_sailorOf : MethodName := ⟨RX7, "sailorOf", "(II)I"⟩
abbrev cX7_watchOf : ByteArray := prog_1_method_12_code
def yX7_watchOf : MethodName := ⟨RX7, "watchOf", "(II)I"⟩
abbrev cX7_sightOf : ByteArray := prog_1_method_13_code
def yX7_sightOf : MethodName := ⟨RX7, "sightOf", "(II)I"⟩
abbrev cX7_angle : ByteArray := prog_1_method_14_code
def yX7_angle : MethodName := ⟨RX7, "angle", "(I)F"⟩
abbrev cX7_readBits : ByteArray := prog_1_method_15_code
def yX7_readBits : MethodName := ⟨RX7, "readBits", "(I)I"⟩
abbrev cX7_fixBits : ByteArray := prog_1_method_16_code
def yX7_fixBits : MethodName := ⟨RX7, "fixBits", "(I)I"⟩
abbrev cX7_fixAgain : ByteArray := prog_1_method_17_code
def yX7_fixAgain : MethodName := ⟨RX7, "fixAgain", "(I)I"⟩
abbrev cX7_meet : ByteArray := prog_1_method_18_code
def yX7_meet : MethodName := ⟨RX7, "meet", "(II)I"⟩
abbrev cX7_unlike : ByteArray := prog_1_method_19_code
def yX7_unlike : MethodName := ⟨RX7, "unlike", "(II)I"⟩
abbrev cX7_unlikeAgain : ByteArray := prog_1_method_20_code
def yX7_unlikeAgain : MethodName := ⟨RX7, "unlikeAgain", "(II)I"⟩
abbrev cX7_closest : ByteArray := prog_1_method_21_code
def yX7_closest : MethodName := ⟨RX7, "closest", "(II)I"⟩
abbrev cX7_would : ByteArray := prog_1_method_22_code
def yX7_would : MethodName := ⟨RX7, "would", "(II)I"⟩
abbrev cX7_sinks : ByteArray := prog_1_method_23_code
def yX7_sinks : MethodName := ⟨RX7, "sinks", "(I)I"⟩
abbrev cX7_messes : ByteArray := prog_1_method_24_code
def yX7_messes : MethodName := ⟨RX7, "messes", "()I"⟩
abbrev cX7_highest : ByteArray := prog_1_method_25_code
def yX7_highest : MethodName := ⟨RX7, "highest", "(I)I"⟩
abbrev cX7_ranked : ByteArray := prog_1_method_26_code
def yX7_ranked : MethodName := ⟨RX7, "ranked", "(I)I"⟩
abbrev cX7_packed : ByteArray := prog_1_method_27_code
def yX7_packed : MethodName := ⟨RX7, "packed", "()J"⟩
abbrev cX7_isCounted : ByteArray := prog_1_method_28_code
def yX7_isCounted : MethodName := ⟨RX7, "isCounted", "()Z"⟩
abbrev cX7_meanAngle : ByteArray := prog_1_method_29_code
def yX7_meanAngle : MethodName := ⟨RX7, "meanAngle", "()D"⟩
abbrev cX7_account : ByteArray := prog_1_method_30_code
def yX7_account : MethodName := ⟨RX7, "account", "(I)I"⟩
abbrev cX7_write : ByteArray := prog_1_method_31_code
def yX7_write : MethodName := ⟨RX7, "write", "(I)I"⟩
abbrev cX7_writeLog : ByteArray := prog_1_method_32_code
def yX7_writeLog : MethodName := ⟨RX7, "writeLog", "()I"⟩
abbrev cX7_written : ByteArray := prog_1_method_33_code
def yX7_written : MethodName := ⟨RX7, "written", "(I)I"⟩
abbrev cX7_append : ByteArray := prog_1_method_34_code
def yX7_append : MethodName := ⟨RX7, "append", "(C)I"⟩
abbrev cX7_read : ByteArray := prog_1_method_35_code
def yX7_read : MethodName := ⟨RX7, "read", "()I"⟩
abbrev cX7_fault : ByteArray := prog_1_method_36_code
def yX7_fault : MethodName := ⟨RX7, "fault", "()I"⟩
abbrev cX7_reason : ByteArray := prog_1_method_37_code
def yX7_reason : MethodName := ⟨RX7, "reason", "(IZ)I"⟩
abbrev cX7_undo : ByteArray := prog_1_method_38_code
def yX7_undo : MethodName := ⟨RX7, "undo", "()I"⟩
abbrev cX7_save : ByteArray := prog_1_method_39_code
def yX7_save : MethodName := ⟨RX7, "save", "()I"⟩
abbrev cX7_restore : ByteArray := prog_1_method_40_code
def yX7_restore : MethodName := ⟨RX7, "restore", "()I"⟩
abbrev cX7_isRefused : ByteArray := prog_1_method_41_code
def yX7_isRefused : MethodName := ⟨RX7, "isRefused", "(LMoodSextant$Form;II)Z"⟩
abbrev cX7_change : ByteArray := prog_1_method_42_code
def yX7_change : MethodName := ⟨RX7, "change", "(LMoodSextant$Form;II)V"⟩
abbrev cX7_isTextDone : ByteArray := prog_1_method_43_code
def yX7_isTextDone : MethodName := ⟨RX7, "isTextDone", "()Z"⟩
abbrev cX7_bitsOf : ByteArray := prog_1_method_44_code
def yX7_bitsOf : MethodName := ⟨RX7, "bitsOf", "(F)I"⟩
def RX8 : String := "MoodSextantModel"
def TX8 : u_T := fun k => match k with
  | 0 => ("MoodSextantModel", "fails", "I", false)
  | 1 => ("MoodSextantModel", "changes", "I", false)
  | 2 => ("MoodSextantModel", "why", "I", false)
  | 3 => ("MoodSextantModel", "detail", "I", false)
  | 4 => ("MoodSextantModel", "behindWhy", "I", false)
  | 5 => ("MoodSextantModel", "behindDetail", "I", false)
  | 6 => ("MoodSextantModel", "faultAt", "I", false)
  | 7 => ("MoodSextantModel", "isSaved", "Z", false)
  | 8 => ("MoodSextantModel", "v", "[I", true)
  | 9 => ("MoodSextantModel", "before", "[I", true)
  | 10 => ("MoodSextantModel", "saved", "[I", true)
  | 11 => ("MoodSextantModel", "kept", "[I", true)
  | 12 => ("MoodSextantModel", "past", "[I", true)
  | 13 => ("MoodSextantModel", "text", "[I", true)
  | 14 => ("MoodSextantModel", "line", "[I", true)
  | 15 => ("MoodSextantModel", "isLeft", "[I", true)
  | 16 => ("MoodSextantModel", "words", "[I", true)
  | 17 => ("MoodSextantModel", "wordAt", "[I", true)
  | 18 => ("MoodSextantModel", "textN", "I", false)
  | 19 => ("MoodSextantModel", "here", "I", false)
  | 20 => ("MoodSextantModel", "end", "I", false)
  | 21 => ("MoodSextantModel", "lineN", "I", false)
  | 22 => ("MoodSextantModel", "isWrong", "Z", false)
  | _ => ("MoodSextantModel", "isDoing", "Z", false)
def tyX8 : Nat → FieldType := fun k => match k with
  | 0 => .int
  | 1 => .int
  | 2 => .int
  | 3 => .int
  | 4 => .int
  | 5 => .int
  | 6 => .int
  | 7 => .boolean
  | 8 => .array .int
  | 9 => .array .int
  | 10 => .array .int
  | 11 => .array .int
  | 12 => .array .int
  | 13 => .array .int
  | 14 => .array .int
  | 15 => .array .int
  | 16 => .array .int
  | 17 => .array .int
  | 18 => .int
  | 19 => .int
  | 20 => .int
  | 21 => .int
  | 22 => .boolean
  | _ => .boolean
abbrev wsX80 : List Cond := u_ws RX8 TX8 24
theorem nmX8 : ∀ a, a < 24 → ∀ b, b < 24 → a ≠ b → (TX8 a).2.1 ≠ (TX8 b).2.1 := by decide +kernel
theorem tyX8_ok : ∀ k, k < 24 → parseFieldDescriptor (TX8 k).2.2.1 = some (tyX8 k) := by decide +kernel
abbrev cX8_init : ByteArray := prog_10_method_1_code
def yX8_init : MethodName := ⟨RX8, "<init>", "()V"⟩
abbrev cX8_fail : ByteArray := prog_10_method_2_code
def yX8_fail : MethodName := ⟨RX8, "fail", "(I)I"⟩
abbrev cX8_refuses : ByteArray := prog_10_method_3_code
def yX8_refuses : MethodName := ⟨RX8, "refuses", "(II)I"⟩
abbrev cX8_isIn : ByteArray := prog_10_method_4_code
def yX8_isIn : MethodName := ⟨RX8, "isIn", "(III)Z"⟩
abbrev cX8_lays : ByteArray := prog_10_method_5_code
def yX8_lays : MethodName := ⟨RX8, "lays", "([I[I)V"⟩
abbrev cX8_begins : ByteArray := prog_10_method_6_code
def yX8_begins : MethodName := ⟨RX8, "begins", "()V"⟩
abbrev cX8_ends : ByteArray := prog_10_method_7_code
def yX8_ends : MethodName := ⟨RX8, "ends", "(I)I"⟩
abbrev cX8_at : ByteArray := prog_10_method_8_code
def yX8_at : MethodName := ⟨RX8, "at", "(II)I"⟩
abbrev cX8_isSailor : ByteArray := prog_10_method_9_code
def yX8_isSailor : MethodName := ⟨RX8, "isSailor", "(I)Z"⟩
abbrev cX8_isWatch : ByteArray := prog_10_method_10_code
def yX8_isWatch : MethodName := ⟨RX8, "isWatch", "(I)Z"⟩
abbrev cX8_isMood : ByteArray := prog_10_method_11_code
def yX8_isMood : MethodName := ⟨RX8, "isMood", "(I)Z"⟩
abbrev cX8_bits : ByteArray := prog_10_method_12_code
def yX8_bits : MethodName := ⟨RX8, "bits", "(I)I"⟩
abbrev cX8_cheer : ByteArray := prog_10_method_13_code
def yX8_cheer : MethodName := ⟨RX8, "cheer", "(I)I"⟩
abbrev cX8_dread : ByteArray := prog_10_method_14_code
def yX8_dread : MethodName := ⟨RX8, "dread", "(I)I"⟩
abbrev cX8_angled : ByteArray := prog_10_method_15_code
def yX8_angled : MethodName := ⟨RX8, "angled", "(I)I"⟩
abbrev cX8_reads : ByteArray := prog_10_method_16_code
def yX8_reads : MethodName := ⟨RX8, "reads", "(I)F"⟩
abbrev cX8_comes : ByteArray := prog_10_method_17_code
def yX8_comes : MethodName := ⟨RX8, "comes", "(I)I"⟩
abbrev cX8_sail : ByteArray := prog_10_method_18_code
def yX8_sail : MethodName := ⟨RX8, "sail", "(I)I"⟩
abbrev cX8_forgets : ByteArray := prog_10_method_19_code
def yX8_forgets : MethodName := ⟨RX8, "forgets", "(I)V"⟩
abbrev cX8_goes : ByteArray := prog_10_method_20_code
def yX8_goes : MethodName := ⟨RX8, "goes", "(I)I"⟩
abbrev cX8_shore : ByteArray := prog_10_method_21_code
def yX8_shore : MethodName := ⟨RX8, "shore", "(I)I"⟩
abbrev cX8_sets : ByteArray := prog_10_method_22_code
def yX8_sets : MethodName := ⟨RX8, "sets", "(II)I"⟩
abbrev cX8_moods : ByteArray := prog_10_method_23_code
def yX8_moods : MethodName := ⟨RX8, "moods", "(II)I"⟩
abbrev cX8_mood : ByteArray := prog_10_method_24_code
def yX8_mood : MethodName := ⟨RX8, "mood", "(II)I"⟩
abbrev cX8_drinks : ByteArray := prog_10_method_25_code
def yX8_drinks : MethodName := ⟨RX8, "drinks", "(II)I"⟩
abbrev cX8_rum : ByteArray := prog_10_method_26_code
def yX8_rum : MethodName := ⟨RX8, "rum", "(II)I"⟩
abbrev cX8_stands : ByteArray := prog_10_method_27_code
def yX8_stands : MethodName := ⟨RX8, "stands", "(II)I"⟩
abbrev cX8_watch : ByteArray := prog_10_method_28_code
def yX8_watch : MethodName := ⟨RX8, "watch", "(II)I"⟩
abbrev cX8_horizons : ByteArray := prog_10_method_29_code
def yX8_horizons : MethodName := ⟨RX8, "horizons", "(II)I"⟩
abbrev cX8_horizon : ByteArray := prog_10_method_30_code
def yX8_horizon : MethodName := ⟨RX8, "horizon", "(II)I"⟩
abbrev cX8_errs : ByteArray := prog_10_method_31_code
def yX8_errs : MethodName := ⟨RX8, "errs", "(I)I"⟩
abbrev cX8_error : ByteArray := prog_10_method_32_code
def yX8_error : MethodName := ⟨RX8, "error", "(I)I"⟩
abbrev cX8_takes : ByteArray := prog_10_method_33_code
def yX8_takes : MethodName := ⟨RX8, "takes", "(I)I"⟩
abbrev cX8_sight : ByteArray := prog_10_method_34_code
def yX8_sight : MethodName := ⟨RX8, "sight", "(I)I"⟩
abbrev cX8_turned : ByteArray := prog_10_method_35_code
def yX8_turned : MethodName := ⟨RX8, "turned", "(I)I"⟩
abbrev cX8_allRum : ByteArray := prog_10_method_36_code
def yX8_allRum : MethodName := ⟨RX8, "allRum", "()I"⟩
abbrev cX8_passes : ByteArray := prog_10_method_37_code
def yX8_passes : MethodName := ⟨RX8, "passes", "()I"⟩
abbrev cX8_hour : ByteArray := prog_10_method_38_code
def yX8_hour : MethodName := ⟨RX8, "hour", "()I"⟩
abbrev cX8_sights : ByteArray := prog_10_method_39_code
def yX8_sights : MethodName := ⟨RX8, "sights", "(I)I"⟩
abbrev cX8_differs : ByteArray := prog_10_method_40_code
def yX8_differs : MethodName := ⟨RX8, "differs", "(II)I"⟩
abbrev cX8_mates : ByteArray := prog_10_method_41_code
def yX8_mates : MethodName := ⟨RX8, "mates", "(I)I"⟩
abbrev cX8_mess : ByteArray := prog_10_method_42_code
def yX8_mess : MethodName := ⟨RX8, "mess", "(I)I"⟩
abbrev cX8_sailorOf : ByteArray := prog_10_method_43_code
def yX8_sailorOf : MethodName := ⟨RX8, "sailorOf", "(II)I"⟩
abbrev cX8_watchOf : ByteArray := prog_10_method_44_code
def yX8_watchOf : MethodName := ⟨RX8, "watchOf", "(II)I"⟩
abbrev cX8_sightOf : ByteArray := prog_10_method_45_code
def yX8_sightOf : MethodName := ⟨RX8, "sightOf", "(II)I"⟩
abbrev cX8_angle : ByteArray := prog_10_method_46_code
def yX8_angle : MethodName := ⟨RX8, "angle", "(I)F"⟩
abbrev cX8_readBits : ByteArray := prog_10_method_47_code
def yX8_readBits : MethodName := ⟨RX8, "readBits", "(I)I"⟩
abbrev cX8_value : ByteArray := prog_10_method_48_code
def yX8_value : MethodName := ⟨RX8, "value", "(I)F"⟩
abbrev cX8_fixed : ByteArray := prog_10_method_49_code
def yX8_fixed : MethodName := ⟨RX8, "fixed", "(I)F"⟩
abbrev cX8_fixBits : ByteArray := prog_10_method_50_code
def yX8_fixBits : MethodName := ⟨RX8, "fixBits", "(I)I"⟩
abbrev cX8_fixAgain : ByteArray := prog_10_method_51_code
def yX8_fixAgain : MethodName := ⟨RX8, "fixAgain", "(I)I"⟩
abbrev cX8_meet : ByteArray := prog_10_method_52_code
def yX8_meet : MethodName := ⟨RX8, "meet", "(II)I"⟩
abbrev cX8_unlike : ByteArray := prog_10_method_53_code
def yX8_unlike : MethodName := ⟨RX8, "unlike", "(II)I"⟩
abbrev cX8_unlikeAgain : ByteArray := prog_10_method_54_code
def yX8_unlikeAgain : MethodName := ⟨RX8, "unlikeAgain", "(II)I"⟩
abbrev cX8_closest : ByteArray := prog_10_method_55_code
def yX8_closest : MethodName := ⟨RX8, "closest", "(II)I"⟩
abbrev cX8_would : ByteArray := prog_10_method_56_code
def yX8_would : MethodName := ⟨RX8, "would", "(II)I"⟩
abbrev cX8_sinks : ByteArray := prog_10_method_57_code
def yX8_sinks : MethodName := ⟨RX8, "sinks", "(I)I"⟩
abbrev cX8_messes : ByteArray := prog_10_method_58_code
def yX8_messes : MethodName := ⟨RX8, "messes", "()I"⟩
abbrev cX8_highest : ByteArray := prog_10_method_59_code
def yX8_highest : MethodName := ⟨RX8, "highest", "(I)I"⟩
abbrev cX8_ranked : ByteArray := prog_10_method_60_code
def yX8_ranked : MethodName := ⟨RX8, "ranked", "(I)I"⟩
abbrev cX8_packed : ByteArray := prog_10_method_61_code
def yX8_packed : MethodName := ⟨RX8, "packed", "()J"⟩
abbrev cX8_isCounted : ByteArray := prog_10_method_62_code
def yX8_isCounted : MethodName := ⟨RX8, "isCounted", "()Z"⟩
abbrev cX8_meanAngle : ByteArray := prog_10_method_63_code
def yX8_meanAngle : MethodName := ⟨RX8, "meanAngle", "()D"⟩
abbrev cX8_account : ByteArray := prog_10_method_64_code
def yX8_account : MethodName := ⟨RX8, "account", "(I)I"⟩
abbrev cX8_writes : ByteArray := prog_10_method_65_code
def yX8_writes : MethodName := ⟨RX8, "writes", "(I)V"⟩
abbrev cX8_writesNumber : ByteArray := prog_10_method_66_code
def yX8_writesNumber : MethodName := ⟨RX8, "writesNumber", "(I)V"⟩
abbrev cX8_write : ByteArray := prog_10_method_67_code
def yX8_write : MethodName := ⟨RX8, "write", "(I)I"⟩
abbrev cX8_writeLog : ByteArray := prog_10_method_68_code
def yX8_writeLog : MethodName := ⟨RX8, "writeLog", "()I"⟩
abbrev cX8_written : ByteArray := prog_10_method_69_code
def yX8_written : MethodName := ⟨RX8, "written", "(I)I"⟩
abbrev cX8_append : ByteArray := prog_10_method_70_code
def yX8_append : MethodName := ⟨RX8, "append", "(C)I"⟩
abbrev cX8_sign : ByteArray := prog_10_method_71_code
def yX8_sign : MethodName := ⟨RX8, "sign", "()I"⟩
abbrev cX8_mark : ByteArray := prog_10_method_72_code
def yX8_mark : MethodName := ⟨RX8, "mark", "(I)V"⟩
abbrev cX8_digit : ByteArray := prog_10_method_73_code
def yX8_digit : MethodName := ⟨RX8, "digit", "()I"⟩
abbrev cX8_hexes : ByteArray := prog_10_method_74_code
def yX8_hexes : MethodName := ⟨RX8, "hexes", "()I"⟩
abbrev cX8_word : ByteArray := prog_10_method_75_code
def yX8_word : MethodName := ⟨RX8, "word", "()I"⟩
abbrev cX8_does : ByteArray := prog_10_method_76_code
def yX8_does : MethodName := ⟨RX8, "does", "(III)I"⟩
abbrev cX8_command : ByteArray := prog_10_method_77_code
def yX8_command : MethodName := ⟨RX8, "command", "()V"⟩
abbrev cX8_commands : ByteArray := prog_10_method_78_code
def yX8_commands : MethodName := ⟨RX8, "commands", "()I"⟩
abbrev cX8_read : ByteArray := prog_10_method_79_code
def yX8_read : MethodName := ⟨RX8, "read", "()I"⟩
abbrev cX8_fault : ByteArray := prog_10_method_80_code
def yX8_fault : MethodName := ⟨RX8, "fault", "()I"⟩
abbrev cX8_reason : ByteArray := prog_10_method_81_code
def yX8_reason : MethodName := ⟨RX8, "reason", "(IZ)I"⟩
abbrev cX8_undo : ByteArray := prog_10_method_82_code
def yX8_undo : MethodName := ⟨RX8, "undo", "()I"⟩
abbrev cX8_save : ByteArray := prog_10_method_83_code
def yX8_save : MethodName := ⟨RX8, "save", "()I"⟩
abbrev cX8_restore : ByteArray := prog_10_method_84_code
def yX8_restore : MethodName := ⟨RX8, "restore", "()I"⟩
def RJx29ce0 : String := "java/lang/Enum"
def TJx29ce0 : u_T := fun k => match k with
  | _ => ("", "", "", false)
def tyJx29ce0 : Nat → FieldType := fun k => match k with
  | _ => .int
abbrev wsJx29ce00 : List Cond := u_ws RJx29ce0 TJx29ce0 0
theorem nmJx29ce0 : ∀ a, a < 0 → ∀ b, b < 0 → a ≠ b → (TJx29ce0 a).2.1 ≠ (TJx29ce0 b).2.1 := by decide +kernel
theorem tyJx29ce0_ok : ∀ k, k < 0 → parseFieldDescriptor (TJx29ce0 k).2.2.1 = some (tyJx29ce0 k) := by decide +kernel
abbrev cJx29ce0_ordinal_8abf5 : ByteArray := prog_11_method_2_code
def yJx29ce0_ordinal_8abf5 : MethodName := ⟨RJx29ce0, "ordinal", "()I"⟩
def RJxf58ca : String := "java/lang/Float"
def TJxf58ca : u_T := fun k => match k with
  | _ => ("", "", "", false)
def tyJxf58ca : Nat → FieldType := fun k => match k with
  | _ => .int
abbrev wsJxf58ca0 : List Cond := u_ws RJxf58ca TJxf58ca 0
theorem nmJxf58ca : ∀ a, a < 0 → ∀ b, b < 0 → a ≠ b → (TJxf58ca a).2.1 ≠ (TJxf58ca b).2.1 := by decide +kernel
theorem tyJxf58ca_ok : ∀ k, k < 0 → parseFieldDescriptor (TJxf58ca k).2.2.1 = some (tyJxf58ca k) := by decide +kernel
abbrev cJxf58ca_isNaN_12338 : ByteArray := prog_12_method_6_code
def yJxf58ca_isNaN_12338 : MethodName := ⟨RJxf58ca, "isNaN", "(F)Z"⟩
abbrev cJxf58ca_floatToIntBits_5c35a : ByteArray := prog_12_method_24_code
def yJxf58ca_floatToIntBits_5c35a : MethodName := ⟨RJxf58ca, "floatToIntBits", "(F)I"⟩
def RJ6 : String := "java/lang/Integer"
def TJ6 : u_T := fun k => match k with
  | _ => ("", "", "", false)
def tyJ6 : Nat → FieldType := fun k => match k with
  | _ => .int
abbrev wsJ60 : List Cond := u_ws RJ6 TJ6 0
theorem nmJ6 : ∀ a, a < 0 → ∀ b, b < 0 → a ≠ b → (TJ6 a).2.1 ≠ (TJ6 b).2.1 := by decide +kernel
theorem tyJ6_ok : ∀ k, k < 0 → parseFieldDescriptor (TJ6 k).2.2.1 = some (tyJ6 k) := by decide +kernel
abbrev cJ6_bitCount_0f7a4 : ByteArray := prog_13_method_49_code
def yJ6_bitCount_0f7a4 : MethodName := ⟨RJ6, "bitCount", "(I)I"⟩
def RJ9 : String := "java/lang/Math"
def TJ9 : u_T := fun k => match k with
  | _ => ("", "", "", false)
def tyJ9 : Nat → FieldType := fun k => match k with
  | _ => .int
abbrev wsJ90 : List Cond := u_ws RJ9 TJ9 0
theorem nmJ9 : ∀ a, a < 0 → ∀ b, b < 0 → a ≠ b → (TJ9 a).2.1 ≠ (TJ9 b).2.1 := by decide +kernel
theorem tyJ9_ok : ∀ k, k < 0 → parseFieldDescriptor (TJ9 k).2.2.1 = some (tyJ9 k) := by decide +kernel
abbrev cJ9_floorDiv_7cf53 : ByteArray := prog_14_method_47_code
def yJ9_floorDiv_7cf53 : MethodName := ⟨RJ9, "floorDiv", "(II)I"⟩
abbrev cJ9_floorMod_7cf53 : ByteArray := prog_14_method_50_code
def yJ9_floorMod_7cf53 : MethodName := ⟨RJ9, "floorMod", "(II)I"⟩
abbrev cJ9_max_7cf53 : ByteArray := prog_14_method_65_code
def yJ9_max_7cf53 : MethodName := ⟨RJ9, "max", "(II)I"⟩
def RJ0 : String := "java/lang/String"
def TJ0 : u_T := fun k => match k with
  | _ => ("", "", "", false)
def tyJ0 : Nat → FieldType := fun k => match k with
  | _ => .int
abbrev wsJ00 : List Cond := u_ws RJ0 TJ0 0
theorem nmJ0 : ∀ a, a < 0 → ∀ b, b < 0 → a ≠ b → (TJ0 a).2.1 ≠ (TJ0 b).2.1 := by decide +kernel
theorem tyJ0_ok : ∀ k, k < 0 → parseFieldDescriptor (TJ0 k).2.2.1 = some (tyJ0 k) := by decide +kernel
abbrev cJ0_length_8abf5 : ByteArray := prog_15_method_54_code
def yJ0_length_8abf5 : MethodName := ⟨RJ0, "length", "()I"⟩
abbrev cJ0_charAt_5068e : ByteArray := prog_15_method_56_code
def yJ0_charAt_5068e : MethodName := ⟨RJ0, "charAt", "(I)C"⟩
abbrev cJ0_coder_7d493 : ByteArray := prog_15_method_152_code
def yJ0_coder_7d493 : MethodName := ⟨RJ0, "coder", "()B"⟩
abbrev cJ0_isLatin1_aae02 : ByteArray := prog_15_method_154_code
def yJ0_isLatin1_aae02 : MethodName := ⟨RJ0, "isLatin1", "()Z"⟩
abbrev cJ0_checkIndex_df160 : ByteArray := prog_15_method_155_code
def yJ0_checkIndex_df160 : MethodName := ⟨RJ0, "checkIndex", "(II)V"⟩
def RJ1 : String := "java/lang/StringLatin1"
def TJ1 : u_T := fun k => match k with
  | _ => ("", "", "", false)
def tyJ1 : Nat → FieldType := fun k => match k with
  | _ => .int
abbrev wsJ10 : List Cond := u_ws RJ1 TJ1 0
theorem nmJ1 : ∀ a, a < 0 → ∀ b, b < 0 → a ≠ b → (TJ1 a).2.1 ≠ (TJ1 b).2.1 := by decide +kernel
theorem tyJ1_ok : ∀ k, k < 0 → parseFieldDescriptor (TJ1 k).2.2.1 = some (tyJ1 k) := by decide +kernel
abbrev cJ1_charAt_3b067 : ByteArray := prog_16_method_2_code
def yJ1_charAt_3b067 : MethodName := ⟨RJ1, "charAt", "([BI)C"⟩
def RJ2 : String := "java/lang/StringUTF16"
def TJ2 : u_T := fun k => match k with
  | _ => ("", "", "", false)
def tyJ2 : Nat → FieldType := fun k => match k with
  | _ => .int
abbrev wsJ20 : List Cond := u_ws RJ2 TJ2 0
theorem nmJ2 : ∀ a, a < 0 → ∀ b, b < 0 → a ≠ b → (TJ2 a).2.1 ≠ (TJ2 b).2.1 := by decide +kernel
theorem tyJ2_ok : ∀ k, k < 0 → parseFieldDescriptor (TJ2 k).2.2.1 = some (tyJ2 k) := by decide +kernel
abbrev cJ2_getChar_3b067 : ByteArray := prog_17_method_5_code
def yJ2_getChar_3b067 : MethodName := ⟨RJ2, "getChar", "([BI)C"⟩
abbrev cJ2_length_9d52b : ByteArray := prog_17_method_6_code
def yJ2_length_9d52b : MethodName := ⟨RJ2, "length", "([B)I"⟩
abbrev cJ2_charAt_3b067 : ByteArray := prog_17_method_83_code
def yJ2_charAt_3b067 : MethodName := ⟨RJ2, "charAt", "([BI)C"⟩
abbrev cJ2_checkIndex_2214a : ByteArray := prog_17_method_91_code
def yJ2_checkIndex_2214a : MethodName := ⟨RJ2, "checkIndex", "(I[B)V"⟩
def RJ10 : String := "java/lang/System"
def TJ10 : u_T := fun k => match k with
  | _ => ("", "", "", false)
def tyJ10 : Nat → FieldType := fun k => match k with
  | _ => .int
abbrev wsJ100 : List Cond := u_ws RJ10 TJ10 0
theorem nmJ10 : ∀ a, a < 0 → ∀ b, b < 0 → a ≠ b → (TJ10 a).2.1 ≠ (TJ10 b).2.1 := by decide +kernel
theorem tyJ10_ok : ∀ k, k < 0 → parseFieldDescriptor (TJ10 k).2.2.1 = some (tyJ10 k) := by decide +kernel
def RJ3 : String := "jdk/internal/util/Preconditions"
def TJ3 : u_T := fun k => match k with
  | _ => ("", "", "", false)
def tyJ3 : Nat → FieldType := fun k => match k with
  | _ => .int
abbrev wsJ30 : List Cond := u_ws RJ3 TJ3 0
theorem nmJ3 : ∀ a, a < 0 → ∀ b, b < 0 → a ≠ b → (TJ3 a).2.1 ≠ (TJ3 b).2.1 := by decide +kernel
theorem tyJ3_ok : ∀ k, k < 0 → parseFieldDescriptor (TJ3 k).2.2.1 = some (tyJ3 k) := by decide +kernel
abbrev cJ3_checkIndex_8e157 : ByteArray := prog_19_method_11_code
def yJ3_checkIndex_8e157 : MethodName := ⟨RJ3, "checkIndex", "(IILjava/util/function/BiFunction;)I"⟩
def RL : String := "MoodSextantLaw"
abbrev cL_law : ByteArray := code
abbrev vwCl : List vw_C := [(RX2, TX2, 3), (RX3, TX3, 2), (RX4, TX4, 3), (RX5, TX5, 15), (RX6, TX6, 6), (RX7, TX7, 10), (RX8, TX8, 24)]
/-- the words that all contracts here have: of the law's, those that every call keeps -/
def wsL_law : List Cond := lw_tbl.filter goodWord
theorem wT_of {w : Cond} (h : w ∈ lw_tbl) (g : goodWord w = true) : w ∈ wsL_law := List.mem_filter.mpr ⟨h, g⟩
theorem wT_at {w : Cond} (k : Nat) (h : lw_tbl[k]? = some w) (g : goodWord w = true) : w ∈ wsL_law := wT_of (List.mem_of_getElem? h) g
end
section
theorem dJ0_length_8abf5_0 : decode cJ0_length_8abf5 0 = .ok (.aload_n 0, 1) := by decide +kernel
theorem dJ0_length_8abf5_1 : decode cJ0_length_8abf5 1 = .ok (.getfield 9, 3) := by decide +kernel
theorem dJ0_length_8abf5_4 : decode cJ0_length_8abf5 4 = .ok (.arraylength, 1) := by decide +kernel
theorem dJ0_length_8abf5_5 : decode cJ0_length_8abf5 5 = .ok (.aload_n 0, 1) := by decide +kernel
theorem dJ0_length_8abf5_6 : decode cJ0_length_8abf5 6 = .ok (.invokevirtual 335, 3) := by decide +kernel
theorem dJ0_length_8abf5_9 : decode cJ0_length_8abf5 9 = .ok (.ishr, 1) := by decide +kernel
theorem dJ0_length_8abf5_10 : decode cJ0_length_8abf5 10 = .ok (.ireturn, 1) := by decide +kernel
theorem dJ0_charAt_5068e_0 : decode cJ0_charAt_5068e 0 = .ok (.aload_n 0, 1) := by decide +kernel
theorem dJ0_charAt_5068e_1 : decode cJ0_charAt_5068e 1 = .ok (.invokevirtual 492, 3) := by decide +kernel
theorem dJ0_charAt_5068e_4 : decode cJ0_charAt_5068e 4 = .ok (.ifCond .eq 12, 3) := by decide +kernel
theorem dJ0_charAt_5068e_7 : decode cJ0_charAt_5068e 7 = .ok (.aload_n 0, 1) := by decide +kernel
theorem dJ0_charAt_5068e_8 : decode cJ0_charAt_5068e 8 = .ok (.getfield 9, 3) := by decide +kernel
theorem dJ0_charAt_5068e_11 : decode cJ0_charAt_5068e 11 = .ok (.iload_n 1, 1) := by decide +kernel
theorem dJ0_charAt_5068e_12 : decode cJ0_charAt_5068e 12 = .ok (.invokestatic 495, 3) := by decide +kernel
theorem dJ0_charAt_5068e_15 : decode cJ0_charAt_5068e 15 = .ok (.ireturn, 1) := by decide +kernel
theorem dJ0_charAt_5068e_16 : decode cJ0_charAt_5068e 16 = .ok (.aload_n 0, 1) := by decide +kernel
theorem dJ0_charAt_5068e_17 : decode cJ0_charAt_5068e 17 = .ok (.getfield 9, 3) := by decide +kernel
theorem dJ0_charAt_5068e_20 : decode cJ0_charAt_5068e 20 = .ok (.iload_n 1, 1) := by decide +kernel
theorem dJ0_charAt_5068e_21 : decode cJ0_charAt_5068e 21 = .ok (.invokestatic 498, 3) := by decide +kernel
theorem dJ0_charAt_5068e_24 : decode cJ0_charAt_5068e 24 = .ok (.ireturn, 1) := by decide +kernel
theorem dJ0_coder_7d493_0 : decode cJ0_coder_7d493 0 = .ok (.getstatic 38, 3) := by decide +kernel
theorem dJ0_coder_7d493_3 : decode cJ0_coder_7d493 3 = .ok (.ifCond .eq 10, 3) := by decide +kernel
theorem dJ0_coder_7d493_6 : decode cJ0_coder_7d493 6 = .ok (.aload_n 0, 1) := by decide +kernel
theorem dJ0_coder_7d493_7 : decode cJ0_coder_7d493 7 = .ok (.getfield 15, 3) := by decide +kernel
theorem dJ0_coder_7d493_10 : decode cJ0_coder_7d493 10 = .ok (.goto 4, 3) := by decide +kernel
theorem dJ0_coder_7d493_13 : decode cJ0_coder_7d493 13 = .ok (.iconst 1, 1) := by decide +kernel
theorem dJ0_coder_7d493_14 : decode cJ0_coder_7d493 14 = .ok (.ireturn, 1) := by decide +kernel
theorem dJ0_isLatin1_aae02_0 : decode cJ0_isLatin1_aae02 0 = .ok (.getstatic 38, 3) := by decide +kernel
theorem dJ0_isLatin1_aae02_3 : decode cJ0_isLatin1_aae02 3 = .ok (.ifCond .eq 14, 3) := by decide +kernel
theorem dJ0_isLatin1_aae02_6 : decode cJ0_isLatin1_aae02 6 = .ok (.aload_n 0, 1) := by decide +kernel
theorem dJ0_isLatin1_aae02_7 : decode cJ0_isLatin1_aae02 7 = .ok (.getfield 15, 3) := by decide +kernel
theorem dJ0_isLatin1_aae02_10 : decode cJ0_isLatin1_aae02 10 = .ok (.ifCond .ne 7, 3) := by decide +kernel
theorem dJ0_isLatin1_aae02_13 : decode cJ0_isLatin1_aae02 13 = .ok (.iconst 1, 1) := by decide +kernel
theorem dJ0_isLatin1_aae02_14 : decode cJ0_isLatin1_aae02 14 = .ok (.goto 4, 3) := by decide +kernel
theorem dJ0_isLatin1_aae02_17 : decode cJ0_isLatin1_aae02 17 = .ok (.iconst 0, 1) := by decide +kernel
theorem dJ0_isLatin1_aae02_18 : decode cJ0_isLatin1_aae02 18 = .ok (.ireturn, 1) := by decide +kernel
theorem dJ0_checkIndex_df160_0 : decode cJ0_checkIndex_df160 0 = .ok (.iload_n 0, 1) := by decide +kernel
theorem dJ0_checkIndex_df160_1 : decode cJ0_checkIndex_df160 1 = .ok (.iload_n 1, 1) := by decide +kernel
theorem dJ0_checkIndex_df160_2 : decode cJ0_checkIndex_df160 2 = .ok (.getstatic 1053, 3) := by decide +kernel
theorem dJ0_checkIndex_df160_5 : decode cJ0_checkIndex_df160 5 = .ok (.invokestatic 1059, 3) := by decide +kernel
theorem dJ0_checkIndex_df160_8 : decode cJ0_checkIndex_df160 8 = .ok (.pop, 1) := by decide +kernel
theorem dJ0_checkIndex_df160_9 : decode cJ0_checkIndex_df160 9 = .ok (.return_, 1) := by decide +kernel
end
section
theorem dJ1_charAt_3b067_0 : decode cJ1_charAt_3b067 0 = .ok (.iload_n 1, 1) := by decide +kernel
theorem dJ1_charAt_3b067_1 : decode cJ1_charAt_3b067 1 = .ok (.aload_n 0, 1) := by decide +kernel
theorem dJ1_charAt_3b067_2 : decode cJ1_charAt_3b067 2 = .ok (.arraylength, 1) := by decide +kernel
theorem dJ1_charAt_3b067_3 : decode cJ1_charAt_3b067 3 = .ok (.invokestatic 9, 3) := by decide +kernel
theorem dJ1_charAt_3b067_6 : decode cJ1_charAt_3b067 6 = .ok (.aload_n 0, 1) := by decide +kernel
theorem dJ1_charAt_3b067_7 : decode cJ1_charAt_3b067 7 = .ok (.iload_n 1, 1) := by decide +kernel
theorem dJ1_charAt_3b067_8 : decode cJ1_charAt_3b067 8 = .ok (.baload, 1) := by decide +kernel
theorem dJ1_charAt_3b067_9 : decode cJ1_charAt_3b067 9 = .ok (.sipush 255, 3) := by decide +kernel
theorem dJ1_charAt_3b067_12 : decode cJ1_charAt_3b067 12 = .ok (.iand, 1) := by decide +kernel
theorem dJ1_charAt_3b067_13 : decode cJ1_charAt_3b067 13 = .ok (.i2c, 1) := by decide +kernel
theorem dJ1_charAt_3b067_14 : decode cJ1_charAt_3b067 14 = .ok (.ireturn, 1) := by decide +kernel
end
section
theorem dJ2_getChar_3b067_0 : decode cJ2_getChar_3b067 0 = .ok (.getstatic 44, 3) := by decide +kernel
theorem dJ2_getChar_3b067_3 : decode cJ2_getChar_3b067 3 = .ok (.ifCond .ne 25, 3) := by decide +kernel
theorem dJ2_getChar_3b067_6 : decode cJ2_getChar_3b067 6 = .ok (.iload_n 1, 1) := by decide +kernel
theorem dJ2_getChar_3b067_7 : decode cJ2_getChar_3b067 7 = .ok (.ifCond .lt 11, 3) := by decide +kernel
theorem dJ2_getChar_3b067_10 : decode cJ2_getChar_3b067 10 = .ok (.iload_n 1, 1) := by decide +kernel
theorem dJ2_getChar_3b067_11 : decode cJ2_getChar_3b067 11 = .ok (.aload_n 0, 1) := by decide +kernel
theorem dJ2_getChar_3b067_12 : decode cJ2_getChar_3b067 12 = .ok (.invokestatic 48, 3) := by decide +kernel
theorem dJ2_getChar_3b067_15 : decode cJ2_getChar_3b067 15 = .ok (.if_icmp .lt 13, 3) := by decide +kernel
theorem dJ2_getChar_3b067_18 : decode cJ2_getChar_3b067 18 = .ok (.new 52, 3) := by decide +kernel
theorem dJ2_getChar_3b067_21 : decode cJ2_getChar_3b067 21 = .ok (.dup, 1) := by decide +kernel
theorem dJ2_getChar_3b067_22 : decode cJ2_getChar_3b067 22 = .ok (.ldc 54, 2) := by decide +kernel
theorem dJ2_getChar_3b067_24 : decode cJ2_getChar_3b067 24 = .ok (.invokespecial 56, 3) := by decide +kernel
theorem dJ2_getChar_3b067_27 : decode cJ2_getChar_3b067 27 = .ok (.athrow, 1) := by decide +kernel
theorem dJ2_getChar_3b067_28 : decode cJ2_getChar_3b067 28 = .ok (.iload_n 1, 1) := by decide +kernel
theorem dJ2_getChar_3b067_29 : decode cJ2_getChar_3b067 29 = .ok (.iconst 1, 1) := by decide +kernel
theorem dJ2_getChar_3b067_30 : decode cJ2_getChar_3b067 30 = .ok (.ishl, 1) := by decide +kernel
theorem dJ2_getChar_3b067_31 : decode cJ2_getChar_3b067 31 = .ok (.istore_n 1, 1) := by decide +kernel
theorem dJ2_getChar_3b067_32 : decode cJ2_getChar_3b067 32 = .ok (.aload_n 0, 1) := by decide +kernel
theorem dJ2_getChar_3b067_33 : decode cJ2_getChar_3b067 33 = .ok (.iload_n 1, 1) := by decide +kernel
theorem dJ2_getChar_3b067_34 : decode cJ2_getChar_3b067 34 = .ok (.iinc 1 1, 3) := by decide +kernel
theorem dJ2_getChar_3b067_37 : decode cJ2_getChar_3b067 37 = .ok (.baload, 1) := by decide +kernel
theorem dJ2_getChar_3b067_38 : decode cJ2_getChar_3b067 38 = .ok (.sipush 255, 3) := by decide +kernel
theorem dJ2_getChar_3b067_41 : decode cJ2_getChar_3b067 41 = .ok (.iand, 1) := by decide +kernel
theorem dJ2_getChar_3b067_42 : decode cJ2_getChar_3b067 42 = .ok (.getstatic 59, 3) := by decide +kernel
theorem dJ2_getChar_3b067_45 : decode cJ2_getChar_3b067 45 = .ok (.ishl, 1) := by decide +kernel
theorem dJ2_getChar_3b067_46 : decode cJ2_getChar_3b067 46 = .ok (.aload_n 0, 1) := by decide +kernel
theorem dJ2_getChar_3b067_47 : decode cJ2_getChar_3b067 47 = .ok (.iload_n 1, 1) := by decide +kernel
theorem dJ2_getChar_3b067_48 : decode cJ2_getChar_3b067 48 = .ok (.baload, 1) := by decide +kernel
theorem dJ2_getChar_3b067_49 : decode cJ2_getChar_3b067 49 = .ok (.sipush 255, 3) := by decide +kernel
theorem dJ2_getChar_3b067_52 : decode cJ2_getChar_3b067 52 = .ok (.iand, 1) := by decide +kernel
theorem dJ2_getChar_3b067_53 : decode cJ2_getChar_3b067 53 = .ok (.getstatic 63, 3) := by decide +kernel
theorem dJ2_getChar_3b067_56 : decode cJ2_getChar_3b067 56 = .ok (.ishl, 1) := by decide +kernel
theorem dJ2_getChar_3b067_57 : decode cJ2_getChar_3b067 57 = .ok (.ior, 1) := by decide +kernel
theorem dJ2_getChar_3b067_58 : decode cJ2_getChar_3b067 58 = .ok (.i2c, 1) := by decide +kernel
theorem dJ2_getChar_3b067_59 : decode cJ2_getChar_3b067 59 = .ok (.ireturn, 1) := by decide +kernel
theorem dJ2_length_9d52b_0 : decode cJ2_length_9d52b 0 = .ok (.aload_n 0, 1) := by decide +kernel
theorem dJ2_length_9d52b_1 : decode cJ2_length_9d52b 1 = .ok (.arraylength, 1) := by decide +kernel
theorem dJ2_length_9d52b_2 : decode cJ2_length_9d52b 2 = .ok (.iconst 1, 1) := by decide +kernel
theorem dJ2_length_9d52b_3 : decode cJ2_length_9d52b 3 = .ok (.ishr, 1) := by decide +kernel
theorem dJ2_length_9d52b_4 : decode cJ2_length_9d52b 4 = .ok (.ireturn, 1) := by decide +kernel
theorem dJ2_charAt_3b067_0 : decode cJ2_charAt_3b067 0 = .ok (.iload_n 1, 1) := by decide +kernel
theorem dJ2_charAt_3b067_1 : decode cJ2_charAt_3b067 1 = .ok (.aload_n 0, 1) := by decide +kernel
theorem dJ2_charAt_3b067_2 : decode cJ2_charAt_3b067 2 = .ok (.invokestatic 67, 3) := by decide +kernel
theorem dJ2_charAt_3b067_5 : decode cJ2_charAt_3b067 5 = .ok (.aload_n 0, 1) := by decide +kernel
theorem dJ2_charAt_3b067_6 : decode cJ2_charAt_3b067 6 = .ok (.iload_n 1, 1) := by decide +kernel
theorem dJ2_charAt_3b067_7 : decode cJ2_charAt_3b067 7 = .ok (.invokestatic 71, 3) := by decide +kernel
theorem dJ2_charAt_3b067_10 : decode cJ2_charAt_3b067 10 = .ok (.ireturn, 1) := by decide +kernel
theorem dJ2_checkIndex_2214a_0 : decode cJ2_checkIndex_2214a 0 = .ok (.iload_n 0, 1) := by decide +kernel
theorem dJ2_checkIndex_2214a_1 : decode cJ2_checkIndex_2214a 1 = .ok (.aload_n 1, 1) := by decide +kernel
theorem dJ2_checkIndex_2214a_2 : decode cJ2_checkIndex_2214a 2 = .ok (.invokestatic 48, 3) := by decide +kernel
theorem dJ2_checkIndex_2214a_5 : decode cJ2_checkIndex_2214a 5 = .ok (.invokestatic 414, 3) := by decide +kernel
theorem dJ2_checkIndex_2214a_8 : decode cJ2_checkIndex_2214a 8 = .ok (.return_, 1) := by decide +kernel
end
section
theorem dJ3_checkIndex_8e157_0 : decode cJ3_checkIndex_8e157 0 = .ok (.iload_n 0, 1) := by decide +kernel
theorem dJ3_checkIndex_8e157_1 : decode cJ3_checkIndex_8e157 1 = .ok (.ifCond .lt 8, 3) := by decide +kernel
theorem dJ3_checkIndex_8e157_4 : decode cJ3_checkIndex_8e157 4 = .ok (.iload_n 0, 1) := by decide +kernel
theorem dJ3_checkIndex_8e157_5 : decode cJ3_checkIndex_8e157 5 = .ok (.iload_n 1, 1) := by decide +kernel
theorem dJ3_checkIndex_8e157_6 : decode cJ3_checkIndex_8e157 6 = .ok (.if_icmp .lt 10, 3) := by decide +kernel
theorem dJ3_checkIndex_8e157_9 : decode cJ3_checkIndex_8e157 9 = .ok (.aload_n 2, 1) := by decide +kernel
theorem dJ3_checkIndex_8e157_10 : decode cJ3_checkIndex_8e157 10 = .ok (.iload_n 0, 1) := by decide +kernel
theorem dJ3_checkIndex_8e157_11 : decode cJ3_checkIndex_8e157 11 = .ok (.iload_n 1, 1) := by decide +kernel
theorem dJ3_checkIndex_8e157_12 : decode cJ3_checkIndex_8e157 12 = .ok (.invokestatic 95, 3) := by decide +kernel
theorem dJ3_checkIndex_8e157_15 : decode cJ3_checkIndex_8e157 15 = .ok (.athrow, 1) := by decide +kernel
theorem dJ3_checkIndex_8e157_16 : decode cJ3_checkIndex_8e157 16 = .ok (.iload_n 0, 1) := by decide +kernel
theorem dJ3_checkIndex_8e157_17 : decode cJ3_checkIndex_8e157 17 = .ok (.ireturn, 1) := by decide +kernel
end
section
theorem dJ6_bitCount_0f7a4_0 : decode cJ6_bitCount_0f7a4 0 = .ok (.iload_n 0, 1) := by decide +kernel
theorem dJ6_bitCount_0f7a4_1 : decode cJ6_bitCount_0f7a4 1 = .ok (.iload_n 0, 1) := by decide +kernel
theorem dJ6_bitCount_0f7a4_2 : decode cJ6_bitCount_0f7a4 2 = .ok (.iconst 1, 1) := by decide +kernel
theorem dJ6_bitCount_0f7a4_3 : decode cJ6_bitCount_0f7a4 3 = .ok (.iushr, 1) := by decide +kernel
theorem dJ6_bitCount_0f7a4_4 : decode cJ6_bitCount_0f7a4 4 = .ok (.ldc_w 265, 3) := by decide +kernel
theorem dJ6_bitCount_0f7a4_7 : decode cJ6_bitCount_0f7a4 7 = .ok (.iand, 1) := by decide +kernel
theorem dJ6_bitCount_0f7a4_8 : decode cJ6_bitCount_0f7a4 8 = .ok (.isub, 1) := by decide +kernel
theorem dJ6_bitCount_0f7a4_9 : decode cJ6_bitCount_0f7a4 9 = .ok (.istore_n 0, 1) := by decide +kernel
theorem dJ6_bitCount_0f7a4_10 : decode cJ6_bitCount_0f7a4 10 = .ok (.iload_n 0, 1) := by decide +kernel
theorem dJ6_bitCount_0f7a4_11 : decode cJ6_bitCount_0f7a4 11 = .ok (.ldc_w 266, 3) := by decide +kernel
theorem dJ6_bitCount_0f7a4_14 : decode cJ6_bitCount_0f7a4 14 = .ok (.iand, 1) := by decide +kernel
theorem dJ6_bitCount_0f7a4_15 : decode cJ6_bitCount_0f7a4 15 = .ok (.iload_n 0, 1) := by decide +kernel
theorem dJ6_bitCount_0f7a4_16 : decode cJ6_bitCount_0f7a4 16 = .ok (.iconst 2, 1) := by decide +kernel
theorem dJ6_bitCount_0f7a4_17 : decode cJ6_bitCount_0f7a4 17 = .ok (.iushr, 1) := by decide +kernel
theorem dJ6_bitCount_0f7a4_18 : decode cJ6_bitCount_0f7a4 18 = .ok (.ldc_w 266, 3) := by decide +kernel
theorem dJ6_bitCount_0f7a4_21 : decode cJ6_bitCount_0f7a4 21 = .ok (.iand, 1) := by decide +kernel
theorem dJ6_bitCount_0f7a4_22 : decode cJ6_bitCount_0f7a4 22 = .ok (.iadd, 1) := by decide +kernel
theorem dJ6_bitCount_0f7a4_23 : decode cJ6_bitCount_0f7a4 23 = .ok (.istore_n 0, 1) := by decide +kernel
theorem dJ6_bitCount_0f7a4_24 : decode cJ6_bitCount_0f7a4 24 = .ok (.iload_n 0, 1) := by decide +kernel
theorem dJ6_bitCount_0f7a4_25 : decode cJ6_bitCount_0f7a4 25 = .ok (.iload_n 0, 1) := by decide +kernel
theorem dJ6_bitCount_0f7a4_26 : decode cJ6_bitCount_0f7a4 26 = .ok (.iconst 4, 1) := by decide +kernel
theorem dJ6_bitCount_0f7a4_27 : decode cJ6_bitCount_0f7a4 27 = .ok (.iushr, 1) := by decide +kernel
theorem dJ6_bitCount_0f7a4_28 : decode cJ6_bitCount_0f7a4 28 = .ok (.iadd, 1) := by decide +kernel
theorem dJ6_bitCount_0f7a4_29 : decode cJ6_bitCount_0f7a4 29 = .ok (.ldc_w 267, 3) := by decide +kernel
theorem dJ6_bitCount_0f7a4_32 : decode cJ6_bitCount_0f7a4 32 = .ok (.iand, 1) := by decide +kernel
theorem dJ6_bitCount_0f7a4_33 : decode cJ6_bitCount_0f7a4 33 = .ok (.istore_n 0, 1) := by decide +kernel
theorem dJ6_bitCount_0f7a4_34 : decode cJ6_bitCount_0f7a4 34 = .ok (.iload_n 0, 1) := by decide +kernel
theorem dJ6_bitCount_0f7a4_35 : decode cJ6_bitCount_0f7a4 35 = .ok (.iload_n 0, 1) := by decide +kernel
theorem dJ6_bitCount_0f7a4_36 : decode cJ6_bitCount_0f7a4 36 = .ok (.bipush 8, 2) := by decide +kernel
theorem dJ6_bitCount_0f7a4_38 : decode cJ6_bitCount_0f7a4 38 = .ok (.iushr, 1) := by decide +kernel
theorem dJ6_bitCount_0f7a4_39 : decode cJ6_bitCount_0f7a4 39 = .ok (.iadd, 1) := by decide +kernel
theorem dJ6_bitCount_0f7a4_40 : decode cJ6_bitCount_0f7a4 40 = .ok (.istore_n 0, 1) := by decide +kernel
theorem dJ6_bitCount_0f7a4_41 : decode cJ6_bitCount_0f7a4 41 = .ok (.iload_n 0, 1) := by decide +kernel
theorem dJ6_bitCount_0f7a4_42 : decode cJ6_bitCount_0f7a4 42 = .ok (.iload_n 0, 1) := by decide +kernel
theorem dJ6_bitCount_0f7a4_43 : decode cJ6_bitCount_0f7a4 43 = .ok (.bipush 16, 2) := by decide +kernel
theorem dJ6_bitCount_0f7a4_45 : decode cJ6_bitCount_0f7a4 45 = .ok (.iushr, 1) := by decide +kernel
theorem dJ6_bitCount_0f7a4_46 : decode cJ6_bitCount_0f7a4 46 = .ok (.iadd, 1) := by decide +kernel
theorem dJ6_bitCount_0f7a4_47 : decode cJ6_bitCount_0f7a4 47 = .ok (.istore_n 0, 1) := by decide +kernel
theorem dJ6_bitCount_0f7a4_48 : decode cJ6_bitCount_0f7a4 48 = .ok (.iload_n 0, 1) := by decide +kernel
theorem dJ6_bitCount_0f7a4_49 : decode cJ6_bitCount_0f7a4 49 = .ok (.bipush 63, 2) := by decide +kernel
theorem dJ6_bitCount_0f7a4_51 : decode cJ6_bitCount_0f7a4 51 = .ok (.iand, 1) := by decide +kernel
theorem dJ6_bitCount_0f7a4_52 : decode cJ6_bitCount_0f7a4 52 = .ok (.ireturn, 1) := by decide +kernel
end
section
theorem dJ9_floorDiv_7cf53_0 : decode cJ9_floorDiv_7cf53 0 = .ok (.iload_n 0, 1) := by decide +kernel
theorem dJ9_floorDiv_7cf53_1 : decode cJ9_floorDiv_7cf53 1 = .ok (.iload_n 1, 1) := by decide +kernel
theorem dJ9_floorDiv_7cf53_2 : decode cJ9_floorDiv_7cf53 2 = .ok (.idiv, 1) := by decide +kernel
theorem dJ9_floorDiv_7cf53_3 : decode cJ9_floorDiv_7cf53 3 = .ok (.istore_n 2, 1) := by decide +kernel
theorem dJ9_floorDiv_7cf53_4 : decode cJ9_floorDiv_7cf53 4 = .ok (.iload_n 0, 1) := by decide +kernel
theorem dJ9_floorDiv_7cf53_5 : decode cJ9_floorDiv_7cf53 5 = .ok (.iload_n 1, 1) := by decide +kernel
theorem dJ9_floorDiv_7cf53_6 : decode cJ9_floorDiv_7cf53 6 = .ok (.ixor, 1) := by decide +kernel
theorem dJ9_floorDiv_7cf53_7 : decode cJ9_floorDiv_7cf53 7 = .ok (.ifCond .ge 14, 3) := by decide +kernel
theorem dJ9_floorDiv_7cf53_10 : decode cJ9_floorDiv_7cf53 10 = .ok (.iload_n 2, 1) := by decide +kernel
theorem dJ9_floorDiv_7cf53_11 : decode cJ9_floorDiv_7cf53 11 = .ok (.iload_n 1, 1) := by decide +kernel
theorem dJ9_floorDiv_7cf53_12 : decode cJ9_floorDiv_7cf53 12 = .ok (.imul, 1) := by decide +kernel
theorem dJ9_floorDiv_7cf53_13 : decode cJ9_floorDiv_7cf53 13 = .ok (.iload_n 0, 1) := by decide +kernel
theorem dJ9_floorDiv_7cf53_14 : decode cJ9_floorDiv_7cf53 14 = .ok (.if_icmp .eq 7, 3) := by decide +kernel
theorem dJ9_floorDiv_7cf53_17 : decode cJ9_floorDiv_7cf53 17 = .ok (.iload_n 2, 1) := by decide +kernel
theorem dJ9_floorDiv_7cf53_18 : decode cJ9_floorDiv_7cf53 18 = .ok (.iconst 1, 1) := by decide +kernel
theorem dJ9_floorDiv_7cf53_19 : decode cJ9_floorDiv_7cf53 19 = .ok (.isub, 1) := by decide +kernel
theorem dJ9_floorDiv_7cf53_20 : decode cJ9_floorDiv_7cf53 20 = .ok (.ireturn, 1) := by decide +kernel
theorem dJ9_floorDiv_7cf53_21 : decode cJ9_floorDiv_7cf53 21 = .ok (.iload_n 2, 1) := by decide +kernel
theorem dJ9_floorDiv_7cf53_22 : decode cJ9_floorDiv_7cf53 22 = .ok (.ireturn, 1) := by decide +kernel
theorem dJ9_floorMod_7cf53_0 : decode cJ9_floorMod_7cf53 0 = .ok (.iload_n 0, 1) := by decide +kernel
theorem dJ9_floorMod_7cf53_1 : decode cJ9_floorMod_7cf53 1 = .ok (.iload_n 1, 1) := by decide +kernel
theorem dJ9_floorMod_7cf53_2 : decode cJ9_floorMod_7cf53 2 = .ok (.irem, 1) := by decide +kernel
theorem dJ9_floorMod_7cf53_3 : decode cJ9_floorMod_7cf53 3 = .ok (.istore_n 2, 1) := by decide +kernel
theorem dJ9_floorMod_7cf53_4 : decode cJ9_floorMod_7cf53 4 = .ok (.iload_n 0, 1) := by decide +kernel
theorem dJ9_floorMod_7cf53_5 : decode cJ9_floorMod_7cf53 5 = .ok (.iload_n 1, 1) := by decide +kernel
theorem dJ9_floorMod_7cf53_6 : decode cJ9_floorMod_7cf53 6 = .ok (.ixor, 1) := by decide +kernel
theorem dJ9_floorMod_7cf53_7 : decode cJ9_floorMod_7cf53 7 = .ok (.ifCond .ge 11, 3) := by decide +kernel
theorem dJ9_floorMod_7cf53_10 : decode cJ9_floorMod_7cf53 10 = .ok (.iload_n 2, 1) := by decide +kernel
theorem dJ9_floorMod_7cf53_11 : decode cJ9_floorMod_7cf53 11 = .ok (.ifCond .eq 7, 3) := by decide +kernel
theorem dJ9_floorMod_7cf53_14 : decode cJ9_floorMod_7cf53 14 = .ok (.iload_n 2, 1) := by decide +kernel
theorem dJ9_floorMod_7cf53_15 : decode cJ9_floorMod_7cf53 15 = .ok (.iload_n 1, 1) := by decide +kernel
theorem dJ9_floorMod_7cf53_16 : decode cJ9_floorMod_7cf53 16 = .ok (.iadd, 1) := by decide +kernel
theorem dJ9_floorMod_7cf53_17 : decode cJ9_floorMod_7cf53 17 = .ok (.ireturn, 1) := by decide +kernel
theorem dJ9_floorMod_7cf53_18 : decode cJ9_floorMod_7cf53 18 = .ok (.iload_n 2, 1) := by decide +kernel
theorem dJ9_floorMod_7cf53_19 : decode cJ9_floorMod_7cf53 19 = .ok (.ireturn, 1) := by decide +kernel
theorem dJ9_max_7cf53_0 : decode cJ9_max_7cf53 0 = .ok (.iload_n 0, 1) := by decide +kernel
theorem dJ9_max_7cf53_1 : decode cJ9_max_7cf53 1 = .ok (.iload_n 1, 1) := by decide +kernel
theorem dJ9_max_7cf53_2 : decode cJ9_max_7cf53 2 = .ok (.if_icmp .lt 7, 3) := by decide +kernel
theorem dJ9_max_7cf53_5 : decode cJ9_max_7cf53 5 = .ok (.iload_n 0, 1) := by decide +kernel
theorem dJ9_max_7cf53_6 : decode cJ9_max_7cf53 6 = .ok (.goto 4, 3) := by decide +kernel
theorem dJ9_max_7cf53_9 : decode cJ9_max_7cf53 9 = .ok (.iload_n 1, 1) := by decide +kernel
theorem dJ9_max_7cf53_10 : decode cJ9_max_7cf53 10 = .ok (.ireturn, 1) := by decide +kernel
end
section
theorem dJx29ce0_ordinal_8abf5_0 : decode cJx29ce0_ordinal_8abf5 0 = .ok (.aload_n 0, 1) := by decide +kernel
theorem dJx29ce0_ordinal_8abf5_1 : decode cJx29ce0_ordinal_8abf5 1 = .ok (.getfield 7, 3) := by decide +kernel
theorem dJx29ce0_ordinal_8abf5_4 : decode cJx29ce0_ordinal_8abf5 4 = .ok (.ireturn, 1) := by decide +kernel
end
section
theorem dJxf58ca_isNaN_12338_0 : decode cJxf58ca_isNaN_12338 0 = .ok (.fload_n 0, 1) := by decide +kernel
theorem dJxf58ca_isNaN_12338_1 : decode cJxf58ca_isNaN_12338 1 = .ok (.fload_n 0, 1) := by decide +kernel
theorem dJxf58ca_isNaN_12338_2 : decode cJxf58ca_isNaN_12338 2 = .ok (.fcmp .l, 1) := by decide +kernel
theorem dJxf58ca_isNaN_12338_3 : decode cJxf58ca_isNaN_12338 3 = .ok (.ifCond .eq 7, 3) := by decide +kernel
theorem dJxf58ca_isNaN_12338_6 : decode cJxf58ca_isNaN_12338 6 = .ok (.iconst 1, 1) := by decide +kernel
theorem dJxf58ca_isNaN_12338_7 : decode cJxf58ca_isNaN_12338 7 = .ok (.goto 4, 3) := by decide +kernel
theorem dJxf58ca_isNaN_12338_10 : decode cJxf58ca_isNaN_12338 10 = .ok (.iconst 0, 1) := by decide +kernel
theorem dJxf58ca_isNaN_12338_11 : decode cJxf58ca_isNaN_12338 11 = .ok (.ireturn, 1) := by decide +kernel
theorem dJxf58ca_floatToIntBits_5c35a_0 : decode cJxf58ca_floatToIntBits_5c35a 0 = .ok (.fload_n 0, 1) := by decide +kernel
theorem dJxf58ca_floatToIntBits_5c35a_1 : decode cJxf58ca_floatToIntBits_5c35a 1 = .ok (.invokestatic 59, 3) := by decide +kernel
theorem dJxf58ca_floatToIntBits_5c35a_4 : decode cJxf58ca_floatToIntBits_5c35a 4 = .ok (.ifCond .ne 8, 3) := by decide +kernel
theorem dJxf58ca_floatToIntBits_5c35a_7 : decode cJxf58ca_floatToIntBits_5c35a 7 = .ok (.fload_n 0, 1) := by decide +kernel
theorem dJxf58ca_floatToIntBits_5c35a_8 : decode cJxf58ca_floatToIntBits_5c35a 8 = .ok (.invokestatic 74, 3) := by decide +kernel
theorem dJxf58ca_floatToIntBits_5c35a_11 : decode cJxf58ca_floatToIntBits_5c35a 11 = .ok (.ireturn, 1) := by decide +kernel
theorem dJxf58ca_floatToIntBits_5c35a_12 : decode cJxf58ca_floatToIntBits_5c35a 12 = .ok (.ldc 77, 2) := by decide +kernel
theorem dJxf58ca_floatToIntBits_5c35a_14 : decode cJxf58ca_floatToIntBits_5c35a 14 = .ok (.ireturn, 1) := by decide +kernel
end
section
theorem dX8_init_0 : decode cX8_init 0 = .ok (.aload_n 0, 1) := by decide +kernel
theorem dX8_init_1 : decode cX8_init 1 = .ok (.invokespecial 1, 3) := by decide +kernel
theorem dX8_init_4 : decode cX8_init 4 = .ok (.aload_n 0, 1) := by decide +kernel
theorem dX8_init_5 : decode cX8_init 5 = .ok (.iconst (-1), 1) := by decide +kernel
theorem dX8_init_6 : decode cX8_init 6 = .ok (.putfield 7, 3) := by decide +kernel
theorem dX8_init_9 : decode cX8_init 9 = .ok (.aload_n 0, 1) := by decide +kernel
theorem dX8_init_10 : decode cX8_init 10 = .ok (.bipush 66, 2) := by decide +kernel
theorem dX8_init_12 : decode cX8_init 12 = .ok (.newarray .int, 2) := by decide +kernel
theorem dX8_init_14 : decode cX8_init 14 = .ok (.putfield 13, 3) := by decide +kernel
theorem dX8_init_17 : decode cX8_init 17 = .ok (.aload_n 0, 1) := by decide +kernel
theorem dX8_init_18 : decode cX8_init 18 = .ok (.bipush 66, 2) := by decide +kernel
theorem dX8_init_20 : decode cX8_init 20 = .ok (.newarray .int, 2) := by decide +kernel
theorem dX8_init_22 : decode cX8_init 22 = .ok (.putfield 17, 3) := by decide +kernel
theorem dX8_init_25 : decode cX8_init 25 = .ok (.aload_n 0, 1) := by decide +kernel
theorem dX8_init_26 : decode cX8_init 26 = .ok (.bipush 66, 2) := by decide +kernel
theorem dX8_init_28 : decode cX8_init 28 = .ok (.newarray .int, 2) := by decide +kernel
theorem dX8_init_30 : decode cX8_init 30 = .ok (.putfield 20, 3) := by decide +kernel
theorem dX8_init_33 : decode cX8_init 33 = .ok (.aload_n 0, 1) := by decide +kernel
theorem dX8_init_34 : decode cX8_init 34 = .ok (.bipush 66, 2) := by decide +kernel
theorem dX8_init_36 : decode cX8_init 36 = .ok (.newarray .int, 2) := by decide +kernel
theorem dX8_init_38 : decode cX8_init 38 = .ok (.putfield 23, 3) := by decide +kernel
theorem dX8_init_41 : decode cX8_init 41 = .ok (.aload_n 0, 1) := by decide +kernel
theorem dX8_init_42 : decode cX8_init 42 = .ok (.sipush 528, 3) := by decide +kernel
theorem dX8_init_45 : decode cX8_init 45 = .ok (.newarray .int, 2) := by decide +kernel
theorem dX8_init_47 : decode cX8_init 47 = .ok (.putfield 26, 3) := by decide +kernel
theorem dX8_init_50 : decode cX8_init 50 = .ok (.aload_n 0, 1) := by decide +kernel
theorem dX8_init_51 : decode cX8_init 51 = .ok (.bipush 60, 2) := by decide +kernel
theorem dX8_init_53 : decode cX8_init 53 = .ok (.newarray .int, 2) := by decide +kernel
theorem dX8_init_55 : decode cX8_init 55 = .ok (.putfield 29, 3) := by decide +kernel
theorem dX8_init_58 : decode cX8_init 58 = .ok (.aload_n 0, 1) := by decide +kernel
theorem dX8_init_59 : decode cX8_init 59 = .ok (.sipush 140, 3) := by decide +kernel
theorem dX8_init_62 : decode cX8_init 62 = .ok (.newarray .int, 2) := by decide +kernel
theorem dX8_init_64 : decode cX8_init 64 = .ok (.putfield 32, 3) := by decide +kernel
theorem dX8_init_67 : decode cX8_init 67 = .ok (.aload_n 0, 1) := by decide +kernel
theorem dX8_init_68 : decode cX8_init 68 = .ok (.bipush 9, 2) := by decide +kernel
theorem dX8_init_70 : decode cX8_init 70 = .ok (.newarray .int, 2) := by decide +kernel
theorem dX8_init_72 : decode cX8_init 72 = .ok (.putfield 35, 3) := by decide +kernel
theorem dX8_init_75 : decode cX8_init 75 = .ok (.aload_n 0, 1) := by decide +kernel
theorem dX8_init_76 : decode cX8_init 76 = .ok (.bipush 50, 2) := by decide +kernel
theorem dX8_init_78 : decode cX8_init 78 = .ok (.newarray .int, 2) := by decide +kernel
theorem dX8_init_80 : decode cX8_init 80 = .ok (.dup, 1) := by decide +kernel
theorem dX8_init_81 : decode cX8_init 81 = .ok (.iconst 0, 1) := by decide +kernel
theorem dX8_init_82 : decode cX8_init 82 = .ok (.bipush 115, 2) := by decide +kernel
theorem dX8_init_84 : decode cX8_init 84 = .ok (.iastore, 1) := by decide +kernel
theorem dX8_init_85 : decode cX8_init 85 = .ok (.dup, 1) := by decide +kernel
theorem dX8_init_86 : decode cX8_init 86 = .ok (.iconst 1, 1) := by decide +kernel
theorem dX8_init_87 : decode cX8_init 87 = .ok (.bipush 97, 2) := by decide +kernel
theorem dX8_init_89 : decode cX8_init 89 = .ok (.iastore, 1) := by decide +kernel
theorem dX8_init_90 : decode cX8_init 90 = .ok (.dup, 1) := by decide +kernel
theorem dX8_init_91 : decode cX8_init 91 = .ok (.iconst 2, 1) := by decide +kernel
theorem dX8_init_92 : decode cX8_init 92 = .ok (.bipush 105, 2) := by decide +kernel
theorem dX8_init_94 : decode cX8_init 94 = .ok (.iastore, 1) := by decide +kernel
theorem dX8_init_95 : decode cX8_init 95 = .ok (.dup, 1) := by decide +kernel
theorem dX8_init_96 : decode cX8_init 96 = .ok (.iconst 3, 1) := by decide +kernel
theorem dX8_init_97 : decode cX8_init 97 = .ok (.bipush 108, 2) := by decide +kernel
theorem dX8_init_99 : decode cX8_init 99 = .ok (.iastore, 1) := by decide +kernel
theorem dX8_init_100 : decode cX8_init 100 = .ok (.dup, 1) := by decide +kernel
theorem dX8_init_101 : decode cX8_init 101 = .ok (.iconst 4, 1) := by decide +kernel
theorem dX8_init_102 : decode cX8_init 102 = .ok (.bipush 32, 2) := by decide +kernel
theorem dX8_init_104 : decode cX8_init 104 = .ok (.iastore, 1) := by decide +kernel
theorem dX8_init_105 : decode cX8_init 105 = .ok (.dup, 1) := by decide +kernel
theorem dX8_init_106 : decode cX8_init 106 = .ok (.iconst 5, 1) := by decide +kernel
theorem dX8_init_107 : decode cX8_init 107 = .ok (.bipush 115, 2) := by decide +kernel
theorem dX8_init_109 : decode cX8_init 109 = .ok (.iastore, 1) := by decide +kernel
theorem dX8_init_110 : decode cX8_init 110 = .ok (.dup, 1) := by decide +kernel
theorem dX8_init_111 : decode cX8_init 111 = .ok (.bipush 6, 2) := by decide +kernel
theorem dX8_init_113 : decode cX8_init 113 = .ok (.bipush 104, 2) := by decide +kernel
theorem dX8_init_115 : decode cX8_init 115 = .ok (.iastore, 1) := by decide +kernel
theorem dX8_init_116 : decode cX8_init 116 = .ok (.dup, 1) := by decide +kernel
theorem dX8_init_117 : decode cX8_init 117 = .ok (.bipush 7, 2) := by decide +kernel
theorem dX8_init_119 : decode cX8_init 119 = .ok (.bipush 111, 2) := by decide +kernel
theorem dX8_init_121 : decode cX8_init 121 = .ok (.iastore, 1) := by decide +kernel
theorem dX8_init_122 : decode cX8_init 122 = .ok (.dup, 1) := by decide +kernel
theorem dX8_init_123 : decode cX8_init 123 = .ok (.bipush 8, 2) := by decide +kernel
theorem dX8_init_125 : decode cX8_init 125 = .ok (.bipush 114, 2) := by decide +kernel
theorem dX8_init_127 : decode cX8_init 127 = .ok (.iastore, 1) := by decide +kernel
theorem dX8_init_128 : decode cX8_init 128 = .ok (.dup, 1) := by decide +kernel
theorem dX8_init_129 : decode cX8_init 129 = .ok (.bipush 9, 2) := by decide +kernel
theorem dX8_init_131 : decode cX8_init 131 = .ok (.bipush 101, 2) := by decide +kernel
theorem dX8_init_133 : decode cX8_init 133 = .ok (.iastore, 1) := by decide +kernel
theorem dX8_init_134 : decode cX8_init 134 = .ok (.dup, 1) := by decide +kernel
theorem dX8_init_135 : decode cX8_init 135 = .ok (.bipush 10, 2) := by decide +kernel
theorem dX8_init_137 : decode cX8_init 137 = .ok (.bipush 32, 2) := by decide +kernel
theorem dX8_init_139 : decode cX8_init 139 = .ok (.iastore, 1) := by decide +kernel
theorem dX8_init_140 : decode cX8_init 140 = .ok (.dup, 1) := by decide +kernel
theorem dX8_init_141 : decode cX8_init 141 = .ok (.bipush 11, 2) := by decide +kernel
theorem dX8_init_143 : decode cX8_init 143 = .ok (.bipush 115, 2) := by decide +kernel
theorem dX8_init_145 : decode cX8_init 145 = .ok (.iastore, 1) := by decide +kernel
theorem dX8_init_146 : decode cX8_init 146 = .ok (.dup, 1) := by decide +kernel
theorem dX8_init_147 : decode cX8_init 147 = .ok (.bipush 12, 2) := by decide +kernel
theorem dX8_init_149 : decode cX8_init 149 = .ok (.bipush 105, 2) := by decide +kernel
theorem dX8_init_151 : decode cX8_init 151 = .ok (.iastore, 1) := by decide +kernel
theorem dX8_init_152 : decode cX8_init 152 = .ok (.dup, 1) := by decide +kernel
theorem dX8_init_153 : decode cX8_init 153 = .ok (.bipush 13, 2) := by decide +kernel
theorem dX8_init_155 : decode cX8_init 155 = .ok (.bipush 103, 2) := by decide +kernel
theorem dX8_init_157 : decode cX8_init 157 = .ok (.iastore, 1) := by decide +kernel
theorem dX8_init_158 : decode cX8_init 158 = .ok (.dup, 1) := by decide +kernel
theorem dX8_init_159 : decode cX8_init 159 = .ok (.bipush 14, 2) := by decide +kernel
theorem dX8_init_161 : decode cX8_init 161 = .ok (.bipush 104, 2) := by decide +kernel
theorem dX8_init_163 : decode cX8_init 163 = .ok (.iastore, 1) := by decide +kernel
theorem dX8_init_164 : decode cX8_init 164 = .ok (.dup, 1) := by decide +kernel
theorem dX8_init_165 : decode cX8_init 165 = .ok (.bipush 15, 2) := by decide +kernel
theorem dX8_init_167 : decode cX8_init 167 = .ok (.bipush 116, 2) := by decide +kernel
theorem dX8_init_169 : decode cX8_init 169 = .ok (.iastore, 1) := by decide +kernel
theorem dX8_init_170 : decode cX8_init 170 = .ok (.dup, 1) := by decide +kernel
theorem dX8_init_171 : decode cX8_init 171 = .ok (.bipush 16, 2) := by decide +kernel
theorem dX8_init_173 : decode cX8_init 173 = .ok (.bipush 32, 2) := by decide +kernel
theorem dX8_init_175 : decode cX8_init 175 = .ok (.iastore, 1) := by decide +kernel
theorem dX8_init_176 : decode cX8_init 176 = .ok (.dup, 1) := by decide +kernel
theorem dX8_init_177 : decode cX8_init 177 = .ok (.bipush 17, 2) := by decide +kernel
theorem dX8_init_179 : decode cX8_init 179 = .ok (.bipush 109, 2) := by decide +kernel
theorem dX8_init_181 : decode cX8_init 181 = .ok (.iastore, 1) := by decide +kernel
theorem dX8_init_182 : decode cX8_init 182 = .ok (.dup, 1) := by decide +kernel
theorem dX8_init_183 : decode cX8_init 183 = .ok (.bipush 18, 2) := by decide +kernel
theorem dX8_init_185 : decode cX8_init 185 = .ok (.bipush 111, 2) := by decide +kernel
theorem dX8_init_187 : decode cX8_init 187 = .ok (.iastore, 1) := by decide +kernel
theorem dX8_init_188 : decode cX8_init 188 = .ok (.dup, 1) := by decide +kernel
theorem dX8_init_189 : decode cX8_init 189 = .ok (.bipush 19, 2) := by decide +kernel
theorem dX8_init_191 : decode cX8_init 191 = .ok (.bipush 111, 2) := by decide +kernel
theorem dX8_init_193 : decode cX8_init 193 = .ok (.iastore, 1) := by decide +kernel
theorem dX8_init_194 : decode cX8_init 194 = .ok (.dup, 1) := by decide +kernel
theorem dX8_init_195 : decode cX8_init 195 = .ok (.bipush 20, 2) := by decide +kernel
theorem dX8_init_197 : decode cX8_init 197 = .ok (.bipush 100, 2) := by decide +kernel
theorem dX8_init_199 : decode cX8_init 199 = .ok (.iastore, 1) := by decide +kernel
theorem dX8_init_200 : decode cX8_init 200 = .ok (.dup, 1) := by decide +kernel
theorem dX8_init_201 : decode cX8_init 201 = .ok (.bipush 21, 2) := by decide +kernel
theorem dX8_init_203 : decode cX8_init 203 = .ok (.bipush 32, 2) := by decide +kernel
theorem dX8_init_205 : decode cX8_init 205 = .ok (.iastore, 1) := by decide +kernel
theorem dX8_init_206 : decode cX8_init 206 = .ok (.dup, 1) := by decide +kernel
theorem dX8_init_207 : decode cX8_init 207 = .ok (.bipush 22, 2) := by decide +kernel
theorem dX8_init_209 : decode cX8_init 209 = .ok (.bipush 114, 2) := by decide +kernel
theorem dX8_init_211 : decode cX8_init 211 = .ok (.iastore, 1) := by decide +kernel
theorem dX8_init_212 : decode cX8_init 212 = .ok (.dup, 1) := by decide +kernel
theorem dX8_init_213 : decode cX8_init 213 = .ok (.bipush 23, 2) := by decide +kernel
theorem dX8_init_215 : decode cX8_init 215 = .ok (.bipush 117, 2) := by decide +kernel
theorem dX8_init_217 : decode cX8_init 217 = .ok (.iastore, 1) := by decide +kernel
theorem dX8_init_218 : decode cX8_init 218 = .ok (.dup, 1) := by decide +kernel
theorem dX8_init_219 : decode cX8_init 219 = .ok (.bipush 24, 2) := by decide +kernel
theorem dX8_init_221 : decode cX8_init 221 = .ok (.bipush 109, 2) := by decide +kernel
theorem dX8_init_223 : decode cX8_init 223 = .ok (.iastore, 1) := by decide +kernel
theorem dX8_init_224 : decode cX8_init 224 = .ok (.dup, 1) := by decide +kernel
theorem dX8_init_225 : decode cX8_init 225 = .ok (.bipush 25, 2) := by decide +kernel
theorem dX8_init_227 : decode cX8_init 227 = .ok (.bipush 32, 2) := by decide +kernel
theorem dX8_init_229 : decode cX8_init 229 = .ok (.iastore, 1) := by decide +kernel
theorem dX8_init_230 : decode cX8_init 230 = .ok (.dup, 1) := by decide +kernel
theorem dX8_init_231 : decode cX8_init 231 = .ok (.bipush 26, 2) := by decide +kernel
theorem dX8_init_233 : decode cX8_init 233 = .ok (.bipush 119, 2) := by decide +kernel
theorem dX8_init_235 : decode cX8_init 235 = .ok (.iastore, 1) := by decide +kernel
theorem dX8_init_236 : decode cX8_init 236 = .ok (.dup, 1) := by decide +kernel
theorem dX8_init_237 : decode cX8_init 237 = .ok (.bipush 27, 2) := by decide +kernel
theorem dX8_init_239 : decode cX8_init 239 = .ok (.bipush 97, 2) := by decide +kernel
theorem dX8_init_241 : decode cX8_init 241 = .ok (.iastore, 1) := by decide +kernel
theorem dX8_init_242 : decode cX8_init 242 = .ok (.dup, 1) := by decide +kernel
theorem dX8_init_243 : decode cX8_init 243 = .ok (.bipush 28, 2) := by decide +kernel
theorem dX8_init_245 : decode cX8_init 245 = .ok (.bipush 116, 2) := by decide +kernel
theorem dX8_init_247 : decode cX8_init 247 = .ok (.iastore, 1) := by decide +kernel
theorem dX8_init_248 : decode cX8_init 248 = .ok (.dup, 1) := by decide +kernel
theorem dX8_init_249 : decode cX8_init 249 = .ok (.bipush 29, 2) := by decide +kernel
theorem dX8_init_251 : decode cX8_init 251 = .ok (.bipush 99, 2) := by decide +kernel
theorem dX8_init_253 : decode cX8_init 253 = .ok (.iastore, 1) := by decide +kernel
theorem dX8_init_254 : decode cX8_init 254 = .ok (.dup, 1) := by decide +kernel
theorem dX8_init_255 : decode cX8_init 255 = .ok (.bipush 30, 2) := by decide +kernel
theorem dX8_init_257 : decode cX8_init 257 = .ok (.bipush 104, 2) := by decide +kernel
theorem dX8_init_259 : decode cX8_init 259 = .ok (.iastore, 1) := by decide +kernel
theorem dX8_init_260 : decode cX8_init 260 = .ok (.dup, 1) := by decide +kernel
theorem dX8_init_261 : decode cX8_init 261 = .ok (.bipush 31, 2) := by decide +kernel
theorem dX8_init_263 : decode cX8_init 263 = .ok (.bipush 32, 2) := by decide +kernel
theorem dX8_init_265 : decode cX8_init 265 = .ok (.iastore, 1) := by decide +kernel
theorem dX8_init_266 : decode cX8_init 266 = .ok (.dup, 1) := by decide +kernel
theorem dX8_init_267 : decode cX8_init 267 = .ok (.bipush 32, 2) := by decide +kernel
theorem dX8_init_269 : decode cX8_init 269 = .ok (.bipush 104, 2) := by decide +kernel
theorem dX8_init_271 : decode cX8_init 271 = .ok (.iastore, 1) := by decide +kernel
theorem dX8_init_272 : decode cX8_init 272 = .ok (.dup, 1) := by decide +kernel
theorem dX8_init_273 : decode cX8_init 273 = .ok (.bipush 33, 2) := by decide +kernel
theorem dX8_init_275 : decode cX8_init 275 = .ok (.bipush 111, 2) := by decide +kernel
theorem dX8_init_277 : decode cX8_init 277 = .ok (.iastore, 1) := by decide +kernel
theorem dX8_init_278 : decode cX8_init 278 = .ok (.dup, 1) := by decide +kernel
theorem dX8_init_279 : decode cX8_init 279 = .ok (.bipush 34, 2) := by decide +kernel
theorem dX8_init_281 : decode cX8_init 281 = .ok (.bipush 114, 2) := by decide +kernel
theorem dX8_init_283 : decode cX8_init 283 = .ok (.iastore, 1) := by decide +kernel
theorem dX8_init_284 : decode cX8_init 284 = .ok (.dup, 1) := by decide +kernel
theorem dX8_init_285 : decode cX8_init 285 = .ok (.bipush 35, 2) := by decide +kernel
theorem dX8_init_287 : decode cX8_init 287 = .ok (.bipush 105, 2) := by decide +kernel
theorem dX8_init_289 : decode cX8_init 289 = .ok (.iastore, 1) := by decide +kernel
theorem dX8_init_290 : decode cX8_init 290 = .ok (.dup, 1) := by decide +kernel
theorem dX8_init_291 : decode cX8_init 291 = .ok (.bipush 36, 2) := by decide +kernel
theorem dX8_init_293 : decode cX8_init 293 = .ok (.bipush 122, 2) := by decide +kernel
theorem dX8_init_295 : decode cX8_init 295 = .ok (.iastore, 1) := by decide +kernel
theorem dX8_init_296 : decode cX8_init 296 = .ok (.dup, 1) := by decide +kernel
theorem dX8_init_297 : decode cX8_init 297 = .ok (.bipush 37, 2) := by decide +kernel
theorem dX8_init_299 : decode cX8_init 299 = .ok (.bipush 111, 2) := by decide +kernel
theorem dX8_init_301 : decode cX8_init 301 = .ok (.iastore, 1) := by decide +kernel
theorem dX8_init_302 : decode cX8_init 302 = .ok (.dup, 1) := by decide +kernel
theorem dX8_init_303 : decode cX8_init 303 = .ok (.bipush 38, 2) := by decide +kernel
theorem dX8_init_305 : decode cX8_init 305 = .ok (.bipush 110, 2) := by decide +kernel
theorem dX8_init_307 : decode cX8_init 307 = .ok (.iastore, 1) := by decide +kernel
theorem dX8_init_308 : decode cX8_init 308 = .ok (.dup, 1) := by decide +kernel
theorem dX8_init_309 : decode cX8_init 309 = .ok (.bipush 39, 2) := by decide +kernel
theorem dX8_init_311 : decode cX8_init 311 = .ok (.bipush 32, 2) := by decide +kernel
theorem dX8_init_313 : decode cX8_init 313 = .ok (.iastore, 1) := by decide +kernel
theorem dX8_init_314 : decode cX8_init 314 = .ok (.dup, 1) := by decide +kernel
theorem dX8_init_315 : decode cX8_init 315 = .ok (.bipush 40, 2) := by decide +kernel
theorem dX8_init_317 : decode cX8_init 317 = .ok (.bipush 101, 2) := by decide +kernel
theorem dX8_init_319 : decode cX8_init 319 = .ok (.iastore, 1) := by decide +kernel
theorem dX8_init_320 : decode cX8_init 320 = .ok (.dup, 1) := by decide +kernel
theorem dX8_init_321 : decode cX8_init 321 = .ok (.bipush 41, 2) := by decide +kernel
theorem dX8_init_323 : decode cX8_init 323 = .ok (.bipush 114, 2) := by decide +kernel
theorem dX8_init_325 : decode cX8_init 325 = .ok (.iastore, 1) := by decide +kernel
theorem dX8_init_326 : decode cX8_init 326 = .ok (.dup, 1) := by decide +kernel
theorem dX8_init_327 : decode cX8_init 327 = .ok (.bipush 42, 2) := by decide +kernel
theorem dX8_init_329 : decode cX8_init 329 = .ok (.bipush 114, 2) := by decide +kernel
theorem dX8_init_331 : decode cX8_init 331 = .ok (.iastore, 1) := by decide +kernel
theorem dX8_init_332 : decode cX8_init 332 = .ok (.dup, 1) := by decide +kernel
theorem dX8_init_333 : decode cX8_init 333 = .ok (.bipush 43, 2) := by decide +kernel
theorem dX8_init_335 : decode cX8_init 335 = .ok (.bipush 111, 2) := by decide +kernel
theorem dX8_init_337 : decode cX8_init 337 = .ok (.iastore, 1) := by decide +kernel
theorem dX8_init_338 : decode cX8_init 338 = .ok (.dup, 1) := by decide +kernel
theorem dX8_init_339 : decode cX8_init 339 = .ok (.bipush 44, 2) := by decide +kernel
theorem dX8_init_341 : decode cX8_init 341 = .ok (.bipush 114, 2) := by decide +kernel
theorem dX8_init_343 : decode cX8_init 343 = .ok (.iastore, 1) := by decide +kernel
theorem dX8_init_344 : decode cX8_init 344 = .ok (.dup, 1) := by decide +kernel
theorem dX8_init_345 : decode cX8_init 345 = .ok (.bipush 45, 2) := by decide +kernel
theorem dX8_init_347 : decode cX8_init 347 = .ok (.bipush 32, 2) := by decide +kernel
theorem dX8_init_349 : decode cX8_init 349 = .ok (.iastore, 1) := by decide +kernel
theorem dX8_init_350 : decode cX8_init 350 = .ok (.dup, 1) := by decide +kernel
theorem dX8_init_351 : decode cX8_init 351 = .ok (.bipush 46, 2) := by decide +kernel
theorem dX8_init_353 : decode cX8_init 353 = .ok (.bipush 104, 2) := by decide +kernel
theorem dX8_init_355 : decode cX8_init 355 = .ok (.iastore, 1) := by decide +kernel
theorem dX8_init_356 : decode cX8_init 356 = .ok (.dup, 1) := by decide +kernel
theorem dX8_init_357 : decode cX8_init 357 = .ok (.bipush 47, 2) := by decide +kernel
theorem dX8_init_359 : decode cX8_init 359 = .ok (.bipush 111, 2) := by decide +kernel
theorem dX8_init_361 : decode cX8_init 361 = .ok (.iastore, 1) := by decide +kernel
theorem dX8_init_362 : decode cX8_init 362 = .ok (.dup, 1) := by decide +kernel
theorem dX8_init_363 : decode cX8_init 363 = .ok (.bipush 48, 2) := by decide +kernel
theorem dX8_init_365 : decode cX8_init 365 = .ok (.bipush 117, 2) := by decide +kernel
theorem dX8_init_367 : decode cX8_init 367 = .ok (.iastore, 1) := by decide +kernel
theorem dX8_init_368 : decode cX8_init 368 = .ok (.dup, 1) := by decide +kernel
theorem dX8_init_369 : decode cX8_init 369 = .ok (.bipush 49, 2) := by decide +kernel
theorem dX8_init_371 : decode cX8_init 371 = .ok (.bipush 114, 2) := by decide +kernel
theorem dX8_init_373 : decode cX8_init 373 = .ok (.iastore, 1) := by decide +kernel
theorem dX8_init_374 : decode cX8_init 374 = .ok (.putfield 38, 3) := by decide +kernel
theorem dX8_init_377 : decode cX8_init 377 = .ok (.aload_n 0, 1) := by decide +kernel
theorem dX8_init_378 : decode cX8_init 378 = .ok (.bipush 10, 2) := by decide +kernel
theorem dX8_init_380 : decode cX8_init 380 = .ok (.newarray .int, 2) := by decide +kernel
theorem dX8_init_382 : decode cX8_init 382 = .ok (.dup, 1) := by decide +kernel
theorem dX8_init_383 : decode cX8_init 383 = .ok (.iconst 0, 1) := by decide +kernel
theorem dX8_init_384 : decode cX8_init 384 = .ok (.iconst 0, 1) := by decide +kernel
theorem dX8_init_385 : decode cX8_init 385 = .ok (.iastore, 1) := by decide +kernel
theorem dX8_init_386 : decode cX8_init 386 = .ok (.dup, 1) := by decide +kernel
theorem dX8_init_387 : decode cX8_init 387 = .ok (.iconst 1, 1) := by decide +kernel
theorem dX8_init_388 : decode cX8_init 388 = .ok (.iconst 5, 1) := by decide +kernel
theorem dX8_init_389 : decode cX8_init 389 = .ok (.iastore, 1) := by decide +kernel
theorem dX8_init_390 : decode cX8_init 390 = .ok (.dup, 1) := by decide +kernel
theorem dX8_init_391 : decode cX8_init 391 = .ok (.iconst 2, 1) := by decide +kernel
theorem dX8_init_392 : decode cX8_init 392 = .ok (.bipush 11, 2) := by decide +kernel
theorem dX8_init_394 : decode cX8_init 394 = .ok (.iastore, 1) := by decide +kernel
theorem dX8_init_395 : decode cX8_init 395 = .ok (.dup, 1) := by decide +kernel
theorem dX8_init_396 : decode cX8_init 396 = .ok (.iconst 3, 1) := by decide +kernel
theorem dX8_init_397 : decode cX8_init 397 = .ok (.bipush 17, 2) := by decide +kernel
theorem dX8_init_399 : decode cX8_init 399 = .ok (.iastore, 1) := by decide +kernel
theorem dX8_init_400 : decode cX8_init 400 = .ok (.dup, 1) := by decide +kernel
theorem dX8_init_401 : decode cX8_init 401 = .ok (.iconst 4, 1) := by decide +kernel
theorem dX8_init_402 : decode cX8_init 402 = .ok (.bipush 22, 2) := by decide +kernel
theorem dX8_init_404 : decode cX8_init 404 = .ok (.iastore, 1) := by decide +kernel
theorem dX8_init_405 : decode cX8_init 405 = .ok (.dup, 1) := by decide +kernel
theorem dX8_init_406 : decode cX8_init 406 = .ok (.iconst 5, 1) := by decide +kernel
theorem dX8_init_407 : decode cX8_init 407 = .ok (.bipush 26, 2) := by decide +kernel
theorem dX8_init_409 : decode cX8_init 409 = .ok (.iastore, 1) := by decide +kernel
theorem dX8_init_410 : decode cX8_init 410 = .ok (.dup, 1) := by decide +kernel
theorem dX8_init_411 : decode cX8_init 411 = .ok (.bipush 6, 2) := by decide +kernel
theorem dX8_init_413 : decode cX8_init 413 = .ok (.bipush 32, 2) := by decide +kernel
theorem dX8_init_415 : decode cX8_init 415 = .ok (.iastore, 1) := by decide +kernel
theorem dX8_init_416 : decode cX8_init 416 = .ok (.dup, 1) := by decide +kernel
theorem dX8_init_417 : decode cX8_init 417 = .ok (.bipush 7, 2) := by decide +kernel
theorem dX8_init_419 : decode cX8_init 419 = .ok (.bipush 40, 2) := by decide +kernel
theorem dX8_init_421 : decode cX8_init 421 = .ok (.iastore, 1) := by decide +kernel
theorem dX8_init_422 : decode cX8_init 422 = .ok (.dup, 1) := by decide +kernel
theorem dX8_init_423 : decode cX8_init 423 = .ok (.bipush 8, 2) := by decide +kernel
theorem dX8_init_425 : decode cX8_init 425 = .ok (.bipush 46, 2) := by decide +kernel
theorem dX8_init_427 : decode cX8_init 427 = .ok (.iastore, 1) := by decide +kernel
theorem dX8_init_428 : decode cX8_init 428 = .ok (.dup, 1) := by decide +kernel
theorem dX8_init_429 : decode cX8_init 429 = .ok (.bipush 9, 2) := by decide +kernel
theorem dX8_init_431 : decode cX8_init 431 = .ok (.bipush 50, 2) := by decide +kernel
theorem dX8_init_433 : decode cX8_init 433 = .ok (.iastore, 1) := by decide +kernel
theorem dX8_init_434 : decode cX8_init 434 = .ok (.putfield 41, 3) := by decide +kernel
theorem dX8_init_437 : decode cX8_init 437 = .ok (.iconst 0, 1) := by decide +kernel
theorem dX8_init_438 : decode cX8_init 438 = .ok (.istore_n 1, 1) := by decide +kernel
theorem dX8_init_439 : decode cX8_init 439 = .ok (.iload_n 1, 1) := by decide +kernel
theorem dX8_init_440 : decode cX8_init 440 = .ok (.iconst 4, 1) := by decide +kernel
theorem dX8_init_441 : decode cX8_init 441 = .ok (.if_icmp .ge 19, 3) := by decide +kernel
theorem dX8_init_444 : decode cX8_init 444 = .ok (.aload_n 0, 1) := by decide +kernel
theorem dX8_init_445 : decode cX8_init 445 = .ok (.getfield 13, 3) := by decide +kernel
theorem dX8_init_448 : decode cX8_init 448 = .ok (.bipush 8, 2) := by decide +kernel
theorem dX8_init_450 : decode cX8_init 450 = .ok (.iload_n 1, 1) := by decide +kernel
theorem dX8_init_451 : decode cX8_init 451 = .ok (.iadd, 1) := by decide +kernel
theorem dX8_init_452 : decode cX8_init 452 = .ok (.iconst 4, 1) := by decide +kernel
theorem dX8_init_453 : decode cX8_init 453 = .ok (.iastore, 1) := by decide +kernel
theorem dX8_init_454 : decode cX8_init 454 = .ok (.iinc 1 1, 3) := by decide +kernel
theorem dX8_init_457 : decode cX8_init 457 = .ok (.goto (-18), 3) := by decide +kernel
theorem dX8_init_460 : decode cX8_init 460 = .ok (.return_, 1) := by decide +kernel
theorem dX8_fail_0 : decode cX8_fail 0 = .ok (.aload_n 0, 1) := by decide +kernel
theorem dX8_fail_1 : decode cX8_fail 1 = .ok (.iload_n 1, 1) := by decide +kernel
theorem dX8_fail_2 : decode cX8_fail 2 = .ok (.putfield 44, 3) := by decide +kernel
theorem dX8_fail_5 : decode cX8_fail 5 = .ok (.iload_n 1, 1) := by decide +kernel
theorem dX8_fail_6 : decode cX8_fail 6 = .ok (.ireturn, 1) := by decide +kernel
theorem dX8_refuses_0 : decode cX8_refuses 0 = .ok (.aload_n 0, 1) := by decide +kernel
theorem dX8_refuses_1 : decode cX8_refuses 1 = .ok (.iload_n 1, 1) := by decide +kernel
theorem dX8_refuses_2 : decode cX8_refuses 2 = .ok (.putfield 47, 3) := by decide +kernel
theorem dX8_refuses_5 : decode cX8_refuses 5 = .ok (.aload_n 0, 1) := by decide +kernel
theorem dX8_refuses_6 : decode cX8_refuses 6 = .ok (.iload_n 2, 1) := by decide +kernel
theorem dX8_refuses_7 : decode cX8_refuses 7 = .ok (.putfield 50, 3) := by decide +kernel
theorem dX8_refuses_10 : decode cX8_refuses 10 = .ok (.aload_n 0, 1) := by decide +kernel
theorem dX8_refuses_11 : decode cX8_refuses 11 = .ok (.iconst 0, 1) := by decide +kernel
theorem dX8_refuses_12 : decode cX8_refuses 12 = .ok (.putfield 53, 3) := by decide +kernel
theorem dX8_refuses_15 : decode cX8_refuses 15 = .ok (.aload_n 0, 1) := by decide +kernel
theorem dX8_refuses_16 : decode cX8_refuses 16 = .ok (.ldc 56, 2) := by decide +kernel
theorem dX8_refuses_18 : decode cX8_refuses 18 = .ok (.invokevirtual 57, 3) := by decide +kernel
theorem dX8_refuses_21 : decode cX8_refuses 21 = .ok (.ireturn, 1) := by decide +kernel
theorem dX8_isIn_0 : decode cX8_isIn 0 = .ok (.iload_n 0, 1) := by decide +kernel
theorem dX8_isIn_1 : decode cX8_isIn 1 = .ok (.iload_n 1, 1) := by decide +kernel
theorem dX8_isIn_2 : decode cX8_isIn 2 = .ok (.if_icmp .lt 12, 3) := by decide +kernel
theorem dX8_isIn_5 : decode cX8_isIn 5 = .ok (.iload_n 0, 1) := by decide +kernel
theorem dX8_isIn_6 : decode cX8_isIn 6 = .ok (.iload_n 2, 1) := by decide +kernel
theorem dX8_isIn_7 : decode cX8_isIn 7 = .ok (.if_icmp .gt 7, 3) := by decide +kernel
theorem dX8_isIn_10 : decode cX8_isIn 10 = .ok (.iconst 1, 1) := by decide +kernel
theorem dX8_isIn_11 : decode cX8_isIn 11 = .ok (.goto 4, 3) := by decide +kernel
theorem dX8_isIn_14 : decode cX8_isIn 14 = .ok (.iconst 0, 1) := by decide +kernel
theorem dX8_isIn_15 : decode cX8_isIn 15 = .ok (.ireturn, 1) := by decide +kernel
theorem dX8_lays_0 : decode cX8_lays 0 = .ok (.iconst 0, 1) := by decide +kernel
theorem dX8_lays_1 : decode cX8_lays 1 = .ok (.istore_n 2, 1) := by decide +kernel
theorem dX8_lays_2 : decode cX8_lays 2 = .ok (.iload_n 2, 1) := by decide +kernel
theorem dX8_lays_3 : decode cX8_lays 3 = .ok (.bipush 66, 2) := by decide +kernel
theorem dX8_lays_5 : decode cX8_lays 5 = .ok (.if_icmp .ge 15, 3) := by decide +kernel
theorem dX8_lays_8 : decode cX8_lays 8 = .ok (.aload_n 0, 1) := by decide +kernel
theorem dX8_lays_9 : decode cX8_lays 9 = .ok (.iload_n 2, 1) := by decide +kernel
theorem dX8_lays_10 : decode cX8_lays 10 = .ok (.aload_n 1, 1) := by decide +kernel
theorem dX8_lays_11 : decode cX8_lays 11 = .ok (.iload_n 2, 1) := by decide +kernel
theorem dX8_lays_12 : decode cX8_lays 12 = .ok (.iaload, 1) := by decide +kernel
theorem dX8_lays_13 : decode cX8_lays 13 = .ok (.iastore, 1) := by decide +kernel
theorem dX8_lays_14 : decode cX8_lays 14 = .ok (.iinc 2 1, 3) := by decide +kernel
theorem dX8_lays_17 : decode cX8_lays 17 = .ok (.goto (-15), 3) := by decide +kernel
theorem dX8_lays_20 : decode cX8_lays 20 = .ok (.return_, 1) := by decide +kernel
theorem dX8_begins_0 : decode cX8_begins 0 = .ok (.aload_n 0, 1) := by decide +kernel
theorem dX8_begins_1 : decode cX8_begins 1 = .ok (.iconst 0, 1) := by decide +kernel
theorem dX8_begins_2 : decode cX8_begins 2 = .ok (.putfield 44, 3) := by decide +kernel
theorem dX8_begins_5 : decode cX8_begins 5 = .ok (.aload_n 0, 1) := by decide +kernel
theorem dX8_begins_6 : decode cX8_begins 6 = .ok (.getfield 17, 3) := by decide +kernel
theorem dX8_begins_9 : decode cX8_begins 9 = .ok (.aload_n 0, 1) := by decide +kernel
theorem dX8_begins_10 : decode cX8_begins 10 = .ok (.getfield 13, 3) := by decide +kernel
theorem dX8_begins_13 : decode cX8_begins 13 = .ok (.invokestatic 61, 3) := by decide +kernel
theorem dX8_begins_16 : decode cX8_begins 16 = .ok (.return_, 1) := by decide +kernel
theorem dX8_ends_0 : decode cX8_ends 0 = .ok (.aload_n 0, 1) := by decide +kernel
theorem dX8_ends_1 : decode cX8_ends 1 = .ok (.getfield 44, 3) := by decide +kernel
theorem dX8_ends_4 : decode cX8_ends 4 = .ok (.ifCond .eq 19, 3) := by decide +kernel
theorem dX8_ends_7 : decode cX8_ends 7 = .ok (.aload_n 0, 1) := by decide +kernel
theorem dX8_ends_8 : decode cX8_ends 8 = .ok (.getfield 13, 3) := by decide +kernel
theorem dX8_ends_11 : decode cX8_ends 11 = .ok (.aload_n 0, 1) := by decide +kernel
theorem dX8_ends_12 : decode cX8_ends 12 = .ok (.getfield 17, 3) := by decide +kernel
theorem dX8_ends_15 : decode cX8_ends 15 = .ok (.invokestatic 61, 3) := by decide +kernel
theorem dX8_ends_18 : decode cX8_ends 18 = .ok (.aload_n 0, 1) := by decide +kernel
theorem dX8_ends_19 : decode cX8_ends 19 = .ok (.getfield 44, 3) := by decide +kernel
theorem dX8_ends_22 : decode cX8_ends 22 = .ok (.ireturn, 1) := by decide +kernel
theorem dX8_ends_23 : decode cX8_ends 23 = .ok (.aload_n 0, 1) := by decide +kernel
theorem dX8_ends_24 : decode cX8_ends 24 = .ok (.getfield 65, 3) := by decide +kernel
theorem dX8_ends_27 : decode cX8_ends 27 = .ok (.bipush 8, 2) := by decide +kernel
theorem dX8_ends_29 : decode cX8_ends 29 = .ok (.if_icmp .ne 43, 3) := by decide +kernel
theorem dX8_ends_32 : decode cX8_ends 32 = .ok (.iconst 0, 1) := by decide +kernel
theorem dX8_ends_33 : decode cX8_ends 33 = .ok (.istore_n 2, 1) := by decide +kernel
theorem dX8_ends_34 : decode cX8_ends 34 = .ok (.iload_n 2, 1) := by decide +kernel
theorem dX8_ends_35 : decode cX8_ends 35 = .ok (.sipush 462, 3) := by decide +kernel
theorem dX8_ends_38 : decode cX8_ends 38 = .ok (.if_icmp .ge 24, 3) := by decide +kernel
theorem dX8_ends_41 : decode cX8_ends 41 = .ok (.aload_n 0, 1) := by decide +kernel
theorem dX8_ends_42 : decode cX8_ends 42 = .ok (.getfield 26, 3) := by decide +kernel
theorem dX8_ends_45 : decode cX8_ends 45 = .ok (.iload_n 2, 1) := by decide +kernel
theorem dX8_ends_46 : decode cX8_ends 46 = .ok (.aload_n 0, 1) := by decide +kernel
theorem dX8_ends_47 : decode cX8_ends 47 = .ok (.getfield 26, 3) := by decide +kernel
theorem dX8_ends_50 : decode cX8_ends 50 = .ok (.iload_n 2, 1) := by decide +kernel
theorem dX8_ends_51 : decode cX8_ends 51 = .ok (.bipush 66, 2) := by decide +kernel
theorem dX8_ends_53 : decode cX8_ends 53 = .ok (.iadd, 1) := by decide +kernel
theorem dX8_ends_54 : decode cX8_ends 54 = .ok (.iaload, 1) := by decide +kernel
theorem dX8_ends_55 : decode cX8_ends 55 = .ok (.iastore, 1) := by decide +kernel
theorem dX8_ends_56 : decode cX8_ends 56 = .ok (.iinc 2 1, 3) := by decide +kernel
theorem dX8_ends_59 : decode cX8_ends 59 = .ok (.goto (-25), 3) := by decide +kernel
theorem dX8_ends_62 : decode cX8_ends 62 = .ok (.aload_n 0, 1) := by decide +kernel
theorem dX8_ends_63 : decode cX8_ends 63 = .ok (.dup, 1) := by decide +kernel
theorem dX8_ends_64 : decode cX8_ends 64 = .ok (.getfield 65, 3) := by decide +kernel
theorem dX8_ends_67 : decode cX8_ends 67 = .ok (.iconst 1, 1) := by decide +kernel
theorem dX8_ends_68 : decode cX8_ends 68 = .ok (.isub, 1) := by decide +kernel
theorem dX8_ends_69 : decode cX8_ends 69 = .ok (.putfield 65, 3) := by decide +kernel
theorem dX8_ends_72 : decode cX8_ends 72 = .ok (.iconst 0, 1) := by decide +kernel
theorem dX8_ends_73 : decode cX8_ends 73 = .ok (.istore_n 2, 1) := by decide +kernel
theorem dX8_ends_74 : decode cX8_ends 74 = .ok (.iload_n 2, 1) := by decide +kernel
theorem dX8_ends_75 : decode cX8_ends 75 = .ok (.bipush 66, 2) := by decide +kernel
theorem dX8_ends_77 : decode cX8_ends 77 = .ok (.if_icmp .ge 29, 3) := by decide +kernel
theorem dX8_ends_80 : decode cX8_ends 80 = .ok (.aload_n 0, 1) := by decide +kernel
theorem dX8_ends_81 : decode cX8_ends 81 = .ok (.getfield 26, 3) := by decide +kernel
theorem dX8_ends_84 : decode cX8_ends 84 = .ok (.aload_n 0, 1) := by decide +kernel
theorem dX8_ends_85 : decode cX8_ends 85 = .ok (.getfield 65, 3) := by decide +kernel
theorem dX8_ends_88 : decode cX8_ends 88 = .ok (.bipush 66, 2) := by decide +kernel
theorem dX8_ends_90 : decode cX8_ends 90 = .ok (.imul, 1) := by decide +kernel
theorem dX8_ends_91 : decode cX8_ends 91 = .ok (.iload_n 2, 1) := by decide +kernel
theorem dX8_ends_92 : decode cX8_ends 92 = .ok (.iadd, 1) := by decide +kernel
theorem dX8_ends_93 : decode cX8_ends 93 = .ok (.aload_n 0, 1) := by decide +kernel
theorem dX8_ends_94 : decode cX8_ends 94 = .ok (.getfield 17, 3) := by decide +kernel
theorem dX8_ends_97 : decode cX8_ends 97 = .ok (.iload_n 2, 1) := by decide +kernel
theorem dX8_ends_98 : decode cX8_ends 98 = .ok (.iaload, 1) := by decide +kernel
theorem dX8_ends_99 : decode cX8_ends 99 = .ok (.iastore, 1) := by decide +kernel
theorem dX8_ends_100 : decode cX8_ends 100 = .ok (.iinc 2 1, 3) := by decide +kernel
theorem dX8_ends_103 : decode cX8_ends 103 = .ok (.goto (-29), 3) := by decide +kernel
theorem dX8_ends_106 : decode cX8_ends 106 = .ok (.aload_n 0, 1) := by decide +kernel
theorem dX8_ends_107 : decode cX8_ends 107 = .ok (.dup, 1) := by decide +kernel
theorem dX8_ends_108 : decode cX8_ends 108 = .ok (.getfield 65, 3) := by decide +kernel
theorem dX8_ends_111 : decode cX8_ends 111 = .ok (.iconst 1, 1) := by decide +kernel
theorem dX8_ends_112 : decode cX8_ends 112 = .ok (.iadd, 1) := by decide +kernel
theorem dX8_ends_113 : decode cX8_ends 113 = .ok (.putfield 65, 3) := by decide +kernel
theorem dX8_ends_116 : decode cX8_ends 116 = .ok (.iload_n 1, 1) := by decide +kernel
theorem dX8_ends_117 : decode cX8_ends 117 = .ok (.ireturn, 1) := by decide +kernel
theorem dX8_at_0 : decode cX8_at 0 = .ok (.bipush 12, 2) := by decide +kernel
theorem dX8_at_2 : decode cX8_at 2 = .ok (.iconst 3, 1) := by decide +kernel
theorem dX8_at_3 : decode cX8_at 3 = .ok (.iload_n 0, 1) := by decide +kernel
theorem dX8_at_4 : decode cX8_at 4 = .ok (.imul, 1) := by decide +kernel
theorem dX8_at_5 : decode cX8_at 5 = .ok (.iadd, 1) := by decide +kernel
theorem dX8_at_6 : decode cX8_at 6 = .ok (.iload_n 1, 1) := by decide +kernel
theorem dX8_at_7 : decode cX8_at 7 = .ok (.iadd, 1) := by decide +kernel
theorem dX8_at_8 : decode cX8_at 8 = .ok (.ireturn, 1) := by decide +kernel
theorem dX8_isSailor_0 : decode cX8_isSailor 0 = .ok (.iload_n 1, 1) := by decide +kernel
theorem dX8_isSailor_1 : decode cX8_isSailor 1 = .ok (.iconst 0, 1) := by decide +kernel
theorem dX8_isSailor_2 : decode cX8_isSailor 2 = .ok (.aload_n 0, 1) := by decide +kernel
theorem dX8_isSailor_3 : decode cX8_isSailor 3 = .ok (.getfield 13, 3) := by decide +kernel
theorem dX8_isSailor_6 : decode cX8_isSailor 6 = .ok (.iconst 0, 1) := by decide +kernel
theorem dX8_isSailor_7 : decode cX8_isSailor 7 = .ok (.iaload, 1) := by decide +kernel
theorem dX8_isSailor_8 : decode cX8_isSailor 8 = .ok (.iconst 1, 1) := by decide +kernel
theorem dX8_isSailor_9 : decode cX8_isSailor 9 = .ok (.isub, 1) := by decide +kernel
theorem dX8_isSailor_10 : decode cX8_isSailor 10 = .ok (.invokestatic 68, 3) := by decide +kernel
theorem dX8_isSailor_13 : decode cX8_isSailor 13 = .ok (.ireturn, 1) := by decide +kernel
theorem dX8_isWatch_0 : decode cX8_isWatch 0 = .ok (.iload_n 0, 1) := by decide +kernel
theorem dX8_isWatch_1 : decode cX8_isWatch 1 = .ok (.iconst 0, 1) := by decide +kernel
theorem dX8_isWatch_2 : decode cX8_isWatch 2 = .ok (.iconst 3, 1) := by decide +kernel
theorem dX8_isWatch_3 : decode cX8_isWatch 3 = .ok (.invokestatic 68, 3) := by decide +kernel
theorem dX8_isWatch_6 : decode cX8_isWatch 6 = .ok (.ireturn, 1) := by decide +kernel
theorem dX8_isMood_0 : decode cX8_isMood 0 = .ok (.iload_n 0, 1) := by decide +kernel
theorem dX8_isMood_1 : decode cX8_isMood 1 = .ok (.iconst 0, 1) := by decide +kernel
theorem dX8_isMood_2 : decode cX8_isMood 2 = .ok (.ldc 72, 2) := by decide +kernel
theorem dX8_isMood_4 : decode cX8_isMood 4 = .ok (.invokestatic 68, 3) := by decide +kernel
theorem dX8_isMood_7 : decode cX8_isMood 7 = .ok (.ireturn, 1) := by decide +kernel
theorem dX8_bits_0 : decode cX8_bits 0 = .ok (.iconst 0, 1) := by decide +kernel
theorem dX8_bits_1 : decode cX8_bits 1 = .ok (.istore_n 1, 1) := by decide +kernel
theorem dX8_bits_2 : decode cX8_bits 2 = .ok (.iload_n 0, 1) := by decide +kernel
theorem dX8_bits_3 : decode cX8_bits 3 = .ok (.istore_n 2, 1) := by decide +kernel
theorem dX8_bits_4 : decode cX8_bits 4 = .ok (.iload_n 2, 1) := by decide +kernel
theorem dX8_bits_5 : decode cX8_bits 5 = .ok (.ifCond .eq 15, 3) := by decide +kernel
theorem dX8_bits_8 : decode cX8_bits 8 = .ok (.iinc 1 1, 3) := by decide +kernel
theorem dX8_bits_11 : decode cX8_bits 11 = .ok (.iload_n 2, 1) := by decide +kernel
theorem dX8_bits_12 : decode cX8_bits 12 = .ok (.iload_n 2, 1) := by decide +kernel
theorem dX8_bits_13 : decode cX8_bits 13 = .ok (.iconst 1, 1) := by decide +kernel
theorem dX8_bits_14 : decode cX8_bits 14 = .ok (.isub, 1) := by decide +kernel
theorem dX8_bits_15 : decode cX8_bits 15 = .ok (.iand, 1) := by decide +kernel
theorem dX8_bits_16 : decode cX8_bits 16 = .ok (.istore_n 2, 1) := by decide +kernel
theorem dX8_bits_17 : decode cX8_bits 17 = .ok (.goto (-13), 3) := by decide +kernel
theorem dX8_bits_20 : decode cX8_bits 20 = .ok (.iload_n 1, 1) := by decide +kernel
theorem dX8_bits_21 : decode cX8_bits 21 = .ok (.ireturn, 1) := by decide +kernel
theorem dX8_cheer_0 : decode cX8_cheer 0 = .ok (.aload_n 0, 1) := by decide +kernel
theorem dX8_cheer_1 : decode cX8_cheer 1 = .ok (.getfield 13, 3) := by decide +kernel
theorem dX8_cheer_4 : decode cX8_cheer 4 = .ok (.iload_n 1, 1) := by decide +kernel
theorem dX8_cheer_5 : decode cX8_cheer 5 = .ok (.iconst 0, 1) := by decide +kernel
theorem dX8_cheer_6 : decode cX8_cheer 6 = .ok (.invokestatic 73, 3) := by decide +kernel
theorem dX8_cheer_9 : decode cX8_cheer 9 = .ok (.iaload, 1) := by decide +kernel
theorem dX8_cheer_10 : decode cX8_cheer 10 = .ok (.sipush 255, 3) := by decide +kernel
theorem dX8_cheer_13 : decode cX8_cheer 13 = .ok (.iand, 1) := by decide +kernel
theorem dX8_cheer_14 : decode cX8_cheer 14 = .ok (.invokestatic 77, 3) := by decide +kernel
theorem dX8_cheer_17 : decode cX8_cheer 17 = .ok (.ireturn, 1) := by decide +kernel
theorem dX8_dread_0 : decode cX8_dread 0 = .ok (.aload_n 0, 1) := by decide +kernel
theorem dX8_dread_1 : decode cX8_dread 1 = .ok (.getfield 13, 3) := by decide +kernel
theorem dX8_dread_4 : decode cX8_dread 4 = .ok (.iload_n 1, 1) := by decide +kernel
theorem dX8_dread_5 : decode cX8_dread 5 = .ok (.iconst 0, 1) := by decide +kernel
theorem dX8_dread_6 : decode cX8_dread 6 = .ok (.invokestatic 73, 3) := by decide +kernel
theorem dX8_dread_9 : decode cX8_dread 9 = .ok (.iaload, 1) := by decide +kernel
theorem dX8_dread_10 : decode cX8_dread 10 = .ok (.bipush 8, 2) := by decide +kernel
theorem dX8_dread_12 : decode cX8_dread 12 = .ok (.ishr, 1) := by decide +kernel
theorem dX8_dread_13 : decode cX8_dread 13 = .ok (.invokestatic 77, 3) := by decide +kernel
theorem dX8_dread_16 : decode cX8_dread 16 = .ok (.ireturn, 1) := by decide +kernel
theorem dX8_angled_0 : decode cX8_angled 0 = .ok (.aload_n 0, 1) := by decide +kernel
theorem dX8_angled_1 : decode cX8_angled 1 = .ok (.iload_n 1, 1) := by decide +kernel
theorem dX8_angled_2 : decode cX8_angled 2 = .ok (.invokevirtual 80, 3) := by decide +kernel
theorem dX8_angled_5 : decode cX8_angled 5 = .ok (.aload_n 0, 1) := by decide +kernel
theorem dX8_angled_6 : decode cX8_angled 6 = .ok (.getfield 13, 3) := by decide +kernel
theorem dX8_angled_9 : decode cX8_angled 9 = .ok (.iload_n 1, 1) := by decide +kernel
theorem dX8_angled_10 : decode cX8_angled 10 = .ok (.iconst 1, 1) := by decide +kernel
theorem dX8_angled_11 : decode cX8_angled 11 = .ok (.invokestatic 73, 3) := by decide +kernel
theorem dX8_angled_14 : decode cX8_angled 14 = .ok (.iaload, 1) := by decide +kernel
theorem dX8_angled_15 : decode cX8_angled 15 = .ok (.iadd, 1) := by decide +kernel
theorem dX8_angled_16 : decode cX8_angled 16 = .ok (.aload_n 0, 1) := by decide +kernel
theorem dX8_angled_17 : decode cX8_angled 17 = .ok (.iload_n 1, 1) := by decide +kernel
theorem dX8_angled_18 : decode cX8_angled 18 = .ok (.invokevirtual 83, 3) := by decide +kernel
theorem dX8_angled_21 : decode cX8_angled 21 = .ok (.isub, 1) := by decide +kernel
theorem dX8_angled_22 : decode cX8_angled 22 = .ok (.aload_n 0, 1) := by decide +kernel
theorem dX8_angled_23 : decode cX8_angled 23 = .ok (.getfield 13, 3) := by decide +kernel
theorem dX8_angled_26 : decode cX8_angled 26 = .ok (.bipush 8, 2) := by decide +kernel
theorem dX8_angled_28 : decode cX8_angled 28 = .ok (.aload_n 0, 1) := by decide +kernel
theorem dX8_angled_29 : decode cX8_angled 29 = .ok (.getfield 13, 3) := by decide +kernel
theorem dX8_angled_32 : decode cX8_angled 32 = .ok (.iload_n 1, 1) := by decide +kernel
theorem dX8_angled_33 : decode cX8_angled 33 = .ok (.iconst 2, 1) := by decide +kernel
theorem dX8_angled_34 : decode cX8_angled 34 = .ok (.invokestatic 73, 3) := by decide +kernel
theorem dX8_angled_37 : decode cX8_angled 37 = .ok (.iaload, 1) := by decide +kernel
theorem dX8_angled_38 : decode cX8_angled 38 = .ok (.iadd, 1) := by decide +kernel
theorem dX8_angled_39 : decode cX8_angled 39 = .ok (.iaload, 1) := by decide +kernel
theorem dX8_angled_40 : decode cX8_angled 40 = .ok (.isub, 1) := by decide +kernel
theorem dX8_angled_41 : decode cX8_angled 41 = .ok (.ireturn, 1) := by decide +kernel
theorem dX8_reads_0 : decode cX8_reads 0 = .ok (.aload_n 0, 1) := by decide +kernel
theorem dX8_reads_1 : decode cX8_reads 1 = .ok (.iload_n 1, 1) := by decide +kernel
theorem dX8_reads_2 : decode cX8_reads 2 = .ok (.invokevirtual 86, 3) := by decide +kernel
theorem dX8_reads_5 : decode cX8_reads 5 = .ok (.aload_n 0, 1) := by decide +kernel
theorem dX8_reads_6 : decode cX8_reads 6 = .ok (.getfield 13, 3) := by decide +kernel
theorem dX8_reads_9 : decode cX8_reads 9 = .ok (.iconst 2, 1) := by decide +kernel
theorem dX8_reads_10 : decode cX8_reads 10 = .ok (.iaload, 1) := by decide +kernel
theorem dX8_reads_11 : decode cX8_reads 11 = .ok (.iadd, 1) := by decide +kernel
theorem dX8_reads_12 : decode cX8_reads 12 = .ok (.i2f, 1) := by decide +kernel
theorem dX8_reads_13 : decode cX8_reads 13 = .ok (.ldc 89, 2) := by decide +kernel
theorem dX8_reads_15 : decode cX8_reads 15 = .ok (.fdiv, 1) := by decide +kernel
theorem dX8_reads_16 : decode cX8_reads 16 = .ok (.aload_n 0, 1) := by decide +kernel
theorem dX8_reads_17 : decode cX8_reads 17 = .ok (.getfield 13, 3) := by decide +kernel
theorem dX8_reads_20 : decode cX8_reads 20 = .ok (.iload_n 1, 1) := by decide +kernel
theorem dX8_reads_21 : decode cX8_reads 21 = .ok (.iconst 1, 1) := by decide +kernel
theorem dX8_reads_22 : decode cX8_reads 22 = .ok (.invokestatic 73, 3) := by decide +kernel
theorem dX8_reads_25 : decode cX8_reads 25 = .ok (.iaload, 1) := by decide +kernel
theorem dX8_reads_26 : decode cX8_reads 26 = .ok (.i2f, 1) := by decide +kernel
theorem dX8_reads_27 : decode cX8_reads 27 = .ok (.ldc 90, 2) := by decide +kernel
theorem dX8_reads_29 : decode cX8_reads 29 = .ok (.fdiv, 1) := by decide +kernel
theorem dX8_reads_30 : decode cX8_reads 30 = .ok (.fsub, 1) := by decide +kernel
theorem dX8_reads_31 : decode cX8_reads 31 = .ok (.freturn, 1) := by decide +kernel
theorem dX8_comes_0 : decode cX8_comes 0 = .ok (.iload_n 1, 1) := by decide +kernel
theorem dX8_comes_1 : decode cX8_comes 1 = .ok (.invokestatic 91, 3) := by decide +kernel
theorem dX8_comes_4 : decode cX8_comes 4 = .ok (.ifCond .ne 10, 3) := by decide +kernel
theorem dX8_comes_7 : decode cX8_comes 7 = .ok (.aload_n 0, 1) := by decide +kernel
theorem dX8_comes_8 : decode cX8_comes 8 = .ok (.ldc 95, 2) := by decide +kernel
theorem dX8_comes_10 : decode cX8_comes 10 = .ok (.invokevirtual 57, 3) := by decide +kernel
theorem dX8_comes_13 : decode cX8_comes 13 = .ok (.ireturn, 1) := by decide +kernel
theorem dX8_comes_14 : decode cX8_comes 14 = .ok (.aload_n 0, 1) := by decide +kernel
theorem dX8_comes_15 : decode cX8_comes 15 = .ok (.getfield 13, 3) := by decide +kernel
theorem dX8_comes_18 : decode cX8_comes 18 = .ok (.iconst 0, 1) := by decide +kernel
theorem dX8_comes_19 : decode cX8_comes 19 = .ok (.iaload, 1) := by decide +kernel
theorem dX8_comes_20 : decode cX8_comes 20 = .ok (.istore_n 2, 1) := by decide +kernel
theorem dX8_comes_21 : decode cX8_comes 21 = .ok (.iload_n 2, 1) := by decide +kernel
theorem dX8_comes_22 : decode cX8_comes 22 = .ok (.bipush 8, 2) := by decide +kernel
theorem dX8_comes_24 : decode cX8_comes 24 = .ok (.if_icmp .ne 11, 3) := by decide +kernel
theorem dX8_comes_27 : decode cX8_comes 27 = .ok (.aload_n 0, 1) := by decide +kernel
theorem dX8_comes_28 : decode cX8_comes 28 = .ok (.iconst 1, 1) := by decide +kernel
theorem dX8_comes_29 : decode cX8_comes 29 = .ok (.bipush 8, 2) := by decide +kernel
theorem dX8_comes_31 : decode cX8_comes 31 = .ok (.invokevirtual 96, 3) := by decide +kernel
theorem dX8_comes_34 : decode cX8_comes 34 = .ok (.ireturn, 1) := by decide +kernel
theorem dX8_comes_35 : decode cX8_comes 35 = .ok (.aload_n 0, 1) := by decide +kernel
theorem dX8_comes_36 : decode cX8_comes 36 = .ok (.getfield 13, 3) := by decide +kernel
theorem dX8_comes_39 : decode cX8_comes 39 = .ok (.iload_n 2, 1) := by decide +kernel
theorem dX8_comes_40 : decode cX8_comes 40 = .ok (.iconst 0, 1) := by decide +kernel
theorem dX8_comes_41 : decode cX8_comes 41 = .ok (.invokestatic 73, 3) := by decide +kernel
theorem dX8_comes_44 : decode cX8_comes 44 = .ok (.iload_n 1, 1) := by decide +kernel
theorem dX8_comes_45 : decode cX8_comes 45 = .ok (.iastore, 1) := by decide +kernel
theorem dX8_comes_46 : decode cX8_comes 46 = .ok (.aload_n 0, 1) := by decide +kernel
theorem dX8_comes_47 : decode cX8_comes 47 = .ok (.getfield 13, 3) := by decide +kernel
theorem dX8_comes_50 : decode cX8_comes 50 = .ok (.iload_n 2, 1) := by decide +kernel
theorem dX8_comes_51 : decode cX8_comes 51 = .ok (.iconst 1, 1) := by decide +kernel
theorem dX8_comes_52 : decode cX8_comes 52 = .ok (.invokestatic 73, 3) := by decide +kernel
theorem dX8_comes_55 : decode cX8_comes 55 = .ok (.iconst 0, 1) := by decide +kernel
theorem dX8_comes_56 : decode cX8_comes 56 = .ok (.iastore, 1) := by decide +kernel
theorem dX8_comes_57 : decode cX8_comes 57 = .ok (.aload_n 0, 1) := by decide +kernel
theorem dX8_comes_58 : decode cX8_comes 58 = .ok (.getfield 13, 3) := by decide +kernel
theorem dX8_comes_61 : decode cX8_comes 61 = .ok (.iload_n 2, 1) := by decide +kernel
theorem dX8_comes_62 : decode cX8_comes 62 = .ok (.iconst 2, 1) := by decide +kernel
theorem dX8_comes_63 : decode cX8_comes 63 = .ok (.invokestatic 73, 3) := by decide +kernel
theorem dX8_comes_66 : decode cX8_comes 66 = .ok (.iconst 0, 1) := by decide +kernel
theorem dX8_comes_67 : decode cX8_comes 67 = .ok (.iastore, 1) := by decide +kernel
theorem dX8_comes_68 : decode cX8_comes 68 = .ok (.aload_n 0, 1) := by decide +kernel
theorem dX8_comes_69 : decode cX8_comes 69 = .ok (.getfield 13, 3) := by decide +kernel
theorem dX8_comes_72 : decode cX8_comes 72 = .ok (.iconst 0, 1) := by decide +kernel
theorem dX8_comes_73 : decode cX8_comes 73 = .ok (.dup2, 1) := by decide +kernel
theorem dX8_comes_74 : decode cX8_comes 74 = .ok (.iaload, 1) := by decide +kernel
theorem dX8_comes_75 : decode cX8_comes 75 = .ok (.iconst 1, 1) := by decide +kernel
theorem dX8_comes_76 : decode cX8_comes 76 = .ok (.iadd, 1) := by decide +kernel
theorem dX8_comes_77 : decode cX8_comes 77 = .ok (.iastore, 1) := by decide +kernel
theorem dX8_comes_78 : decode cX8_comes 78 = .ok (.iload_n 2, 1) := by decide +kernel
theorem dX8_comes_79 : decode cX8_comes 79 = .ok (.ireturn, 1) := by decide +kernel
theorem dX8_sail_0 : decode cX8_sail 0 = .ok (.aload_n 0, 1) := by decide +kernel
theorem dX8_sail_1 : decode cX8_sail 1 = .ok (.invokevirtual 99, 3) := by decide +kernel
theorem dX8_sail_4 : decode cX8_sail 4 = .ok (.aload_n 0, 1) := by decide +kernel
theorem dX8_sail_5 : decode cX8_sail 5 = .ok (.aload_n 0, 1) := by decide +kernel
theorem dX8_sail_6 : decode cX8_sail 6 = .ok (.iload_n 1, 1) := by decide +kernel
theorem dX8_sail_7 : decode cX8_sail 7 = .ok (.invokevirtual 102, 3) := by decide +kernel
theorem dX8_sail_10 : decode cX8_sail 10 = .ok (.invokevirtual 105, 3) := by decide +kernel
theorem dX8_sail_13 : decode cX8_sail 13 = .ok (.ireturn, 1) := by decide +kernel
theorem dX8_forgets_0 : decode cX8_forgets 0 = .ok (.bipush 36, 2) := by decide +kernel
theorem dX8_forgets_2 : decode cX8_forgets 2 = .ok (.iconst 3, 1) := by decide +kernel
theorem dX8_forgets_3 : decode cX8_forgets 3 = .ok (.iload_n 1, 1) := by decide +kernel
theorem dX8_forgets_4 : decode cX8_forgets 4 = .ok (.imul, 1) := by decide +kernel
theorem dX8_forgets_5 : decode cX8_forgets 5 = .ok (.iadd, 1) := by decide +kernel
theorem dX8_forgets_6 : decode cX8_forgets 6 = .ok (.istore_n 2, 1) := by decide +kernel
theorem dX8_forgets_7 : decode cX8_forgets 7 = .ok (.iload_n 2, 1) := by decide +kernel
theorem dX8_forgets_8 : decode cX8_forgets 8 = .ok (.bipush 66, 2) := by decide +kernel
theorem dX8_forgets_10 : decode cX8_forgets 10 = .ok (.if_icmp .ge 35, 3) := by decide +kernel
theorem dX8_forgets_13 : decode cX8_forgets 13 = .ok (.aload_n 0, 1) := by decide +kernel
theorem dX8_forgets_14 : decode cX8_forgets 14 = .ok (.getfield 13, 3) := by decide +kernel
theorem dX8_forgets_17 : decode cX8_forgets 17 = .ok (.iload_n 2, 1) := by decide +kernel
theorem dX8_forgets_18 : decode cX8_forgets 18 = .ok (.iload_n 2, 1) := by decide +kernel
theorem dX8_forgets_19 : decode cX8_forgets 19 = .ok (.iconst 3, 1) := by decide +kernel
theorem dX8_forgets_20 : decode cX8_forgets 20 = .ok (.iadd, 1) := by decide +kernel
theorem dX8_forgets_21 : decode cX8_forgets 21 = .ok (.bipush 66, 2) := by decide +kernel
theorem dX8_forgets_23 : decode cX8_forgets 23 = .ok (.if_icmp .ge 14, 3) := by decide +kernel
theorem dX8_forgets_26 : decode cX8_forgets 26 = .ok (.aload_n 0, 1) := by decide +kernel
theorem dX8_forgets_27 : decode cX8_forgets 27 = .ok (.getfield 13, 3) := by decide +kernel
theorem dX8_forgets_30 : decode cX8_forgets 30 = .ok (.iload_n 2, 1) := by decide +kernel
theorem dX8_forgets_31 : decode cX8_forgets 31 = .ok (.iconst 3, 1) := by decide +kernel
theorem dX8_forgets_32 : decode cX8_forgets 32 = .ok (.iadd, 1) := by decide +kernel
theorem dX8_forgets_33 : decode cX8_forgets 33 = .ok (.iaload, 1) := by decide +kernel
theorem dX8_forgets_34 : decode cX8_forgets 34 = .ok (.goto 4, 3) := by decide +kernel
theorem dX8_forgets_37 : decode cX8_forgets 37 = .ok (.iconst 0, 1) := by decide +kernel
theorem dX8_forgets_38 : decode cX8_forgets 38 = .ok (.iastore, 1) := by decide +kernel
theorem dX8_forgets_39 : decode cX8_forgets 39 = .ok (.iinc 2 1, 3) := by decide +kernel
theorem dX8_forgets_42 : decode cX8_forgets 42 = .ok (.goto (-35), 3) := by decide +kernel
theorem dX8_forgets_45 : decode cX8_forgets 45 = .ok (.aload_n 0, 1) := by decide +kernel
theorem dX8_forgets_46 : decode cX8_forgets 46 = .ok (.getfield 13, 3) := by decide +kernel
theorem dX8_forgets_49 : decode cX8_forgets 49 = .ok (.iconst 3, 1) := by decide +kernel
theorem dX8_forgets_50 : decode cX8_forgets 50 = .ok (.dup2, 1) := by decide +kernel
theorem dX8_forgets_51 : decode cX8_forgets 51 = .ok (.iaload, 1) := by decide +kernel
theorem dX8_forgets_52 : decode cX8_forgets 52 = .ok (.iconst 1, 1) := by decide +kernel
theorem dX8_forgets_53 : decode cX8_forgets 53 = .ok (.isub, 1) := by decide +kernel
theorem dX8_forgets_54 : decode cX8_forgets 54 = .ok (.iastore, 1) := by decide +kernel
theorem dX8_forgets_55 : decode cX8_forgets 55 = .ok (.return_, 1) := by decide +kernel
theorem dX8_goes_0 : decode cX8_goes 0 = .ok (.aload_n 0, 1) := by decide +kernel
theorem dX8_goes_1 : decode cX8_goes 1 = .ok (.iload_n 1, 1) := by decide +kernel
theorem dX8_goes_2 : decode cX8_goes 2 = .ok (.invokevirtual 108, 3) := by decide +kernel
theorem dX8_goes_5 : decode cX8_goes 5 = .ok (.ifCond .ne 10, 3) := by decide +kernel
theorem dX8_goes_8 : decode cX8_goes 8 = .ok (.aload_n 0, 1) := by decide +kernel
theorem dX8_goes_9 : decode cX8_goes 9 = .ok (.ldc 111, 2) := by decide +kernel
theorem dX8_goes_11 : decode cX8_goes 11 = .ok (.invokevirtual 57, 3) := by decide +kernel
theorem dX8_goes_14 : decode cX8_goes 14 = .ok (.ireturn, 1) := by decide +kernel
theorem dX8_goes_15 : decode cX8_goes 15 = .ok (.aload_n 0, 1) := by decide +kernel
theorem dX8_goes_16 : decode cX8_goes 16 = .ok (.getfield 13, 3) := by decide +kernel
theorem dX8_goes_19 : decode cX8_goes 19 = .ok (.bipush 7, 2) := by decide +kernel
theorem dX8_goes_21 : decode cX8_goes 21 = .ok (.dup2, 1) := by decide +kernel
theorem dX8_goes_22 : decode cX8_goes 22 = .ok (.iaload, 1) := by decide +kernel
theorem dX8_goes_23 : decode cX8_goes 23 = .ok (.aload_n 0, 1) := by decide +kernel
theorem dX8_goes_24 : decode cX8_goes 24 = .ok (.getfield 13, 3) := by decide +kernel
theorem dX8_goes_27 : decode cX8_goes 27 = .ok (.iload_n 1, 1) := by decide +kernel
theorem dX8_goes_28 : decode cX8_goes 28 = .ok (.iconst 1, 1) := by decide +kernel
theorem dX8_goes_29 : decode cX8_goes 29 = .ok (.invokestatic 73, 3) := by decide +kernel
theorem dX8_goes_32 : decode cX8_goes 32 = .ok (.iaload, 1) := by decide +kernel
theorem dX8_goes_33 : decode cX8_goes 33 = .ok (.iadd, 1) := by decide +kernel
theorem dX8_goes_34 : decode cX8_goes 34 = .ok (.iastore, 1) := by decide +kernel
theorem dX8_goes_35 : decode cX8_goes 35 = .ok (.aload_n 0, 1) := by decide +kernel
theorem dX8_goes_36 : decode cX8_goes 36 = .ok (.getfield 13, 3) := by decide +kernel
theorem dX8_goes_39 : decode cX8_goes 39 = .ok (.iconst 3, 1) := by decide +kernel
theorem dX8_goes_40 : decode cX8_goes 40 = .ok (.iaload, 1) := by decide +kernel
theorem dX8_goes_41 : decode cX8_goes 41 = .ok (.iconst 1, 1) := by decide +kernel
theorem dX8_goes_42 : decode cX8_goes 42 = .ok (.isub, 1) := by decide +kernel
theorem dX8_goes_43 : decode cX8_goes 43 = .ok (.istore_n 2, 1) := by decide +kernel
theorem dX8_goes_44 : decode cX8_goes 44 = .ok (.iload_n 2, 1) := by decide +kernel
theorem dX8_goes_45 : decode cX8_goes 45 = .ok (.ifCond .lt 51, 3) := by decide +kernel
theorem dX8_goes_48 : decode cX8_goes 48 = .ok (.aload_n 0, 1) := by decide +kernel
theorem dX8_goes_49 : decode cX8_goes 49 = .ok (.getfield 13, 3) := by decide +kernel
theorem dX8_goes_52 : decode cX8_goes 52 = .ok (.bipush 36, 2) := by decide +kernel
theorem dX8_goes_54 : decode cX8_goes 54 = .ok (.iconst 3, 1) := by decide +kernel
theorem dX8_goes_55 : decode cX8_goes 55 = .ok (.iload_n 2, 1) := by decide +kernel
theorem dX8_goes_56 : decode cX8_goes 56 = .ok (.imul, 1) := by decide +kernel
theorem dX8_goes_57 : decode cX8_goes 57 = .ok (.iadd, 1) := by decide +kernel
theorem dX8_goes_58 : decode cX8_goes 58 = .ok (.iaload, 1) := by decide +kernel
theorem dX8_goes_59 : decode cX8_goes 59 = .ok (.istore_n 3, 1) := by decide +kernel
theorem dX8_goes_60 : decode cX8_goes 60 = .ok (.iload_n 3, 1) := by decide +kernel
theorem dX8_goes_61 : decode cX8_goes 61 = .ok (.iload_n 1, 1) := by decide +kernel
theorem dX8_goes_62 : decode cX8_goes 62 = .ok (.if_icmp .ne 8, 3) := by decide +kernel
theorem dX8_goes_65 : decode cX8_goes 65 = .ok (.aload_n 0, 1) := by decide +kernel
theorem dX8_goes_66 : decode cX8_goes 66 = .ok (.iload_n 2, 1) := by decide +kernel
theorem dX8_goes_67 : decode cX8_goes 67 = .ok (.invokevirtual 112, 3) := by decide +kernel
theorem dX8_goes_70 : decode cX8_goes 70 = .ok (.iload_n 3, 1) := by decide +kernel
theorem dX8_goes_71 : decode cX8_goes 71 = .ok (.iload_n 1, 1) := by decide +kernel
theorem dX8_goes_72 : decode cX8_goes 72 = .ok (.if_icmp .le 18, 3) := by decide +kernel
theorem dX8_goes_75 : decode cX8_goes 75 = .ok (.aload_n 0, 1) := by decide +kernel
theorem dX8_goes_76 : decode cX8_goes 76 = .ok (.getfield 13, 3) := by decide +kernel
theorem dX8_goes_79 : decode cX8_goes 79 = .ok (.bipush 36, 2) := by decide +kernel
theorem dX8_goes_81 : decode cX8_goes 81 = .ok (.iconst 3, 1) := by decide +kernel
theorem dX8_goes_82 : decode cX8_goes 82 = .ok (.iload_n 2, 1) := by decide +kernel
theorem dX8_goes_83 : decode cX8_goes 83 = .ok (.imul, 1) := by decide +kernel
theorem dX8_goes_84 : decode cX8_goes 84 = .ok (.iadd, 1) := by decide +kernel
theorem dX8_goes_85 : decode cX8_goes 85 = .ok (.dup2, 1) := by decide +kernel
theorem dX8_goes_86 : decode cX8_goes 86 = .ok (.iaload, 1) := by decide +kernel
theorem dX8_goes_87 : decode cX8_goes 87 = .ok (.iconst 1, 1) := by decide +kernel
theorem dX8_goes_88 : decode cX8_goes 88 = .ok (.isub, 1) := by decide +kernel
theorem dX8_goes_89 : decode cX8_goes 89 = .ok (.iastore, 1) := by decide +kernel
theorem dX8_goes_90 : decode cX8_goes 90 = .ok (.iinc 2 (-1), 3) := by decide +kernel
theorem dX8_goes_93 : decode cX8_goes 93 = .ok (.goto (-49), 3) := by decide +kernel
theorem dX8_goes_96 : decode cX8_goes 96 = .ok (.iload_n 1, 1) := by decide +kernel
theorem dX8_goes_97 : decode cX8_goes 97 = .ok (.iconst 0, 1) := by decide +kernel
theorem dX8_goes_98 : decode cX8_goes 98 = .ok (.invokestatic 73, 3) := by decide +kernel
theorem dX8_goes_101 : decode cX8_goes 101 = .ok (.istore_n 2, 1) := by decide +kernel
theorem dX8_goes_102 : decode cX8_goes 102 = .ok (.iload_n 2, 1) := by decide +kernel
theorem dX8_goes_103 : decode cX8_goes 103 = .ok (.bipush 36, 2) := by decide +kernel
theorem dX8_goes_105 : decode cX8_goes 105 = .ok (.if_icmp .ge 35, 3) := by decide +kernel
theorem dX8_goes_108 : decode cX8_goes 108 = .ok (.aload_n 0, 1) := by decide +kernel
theorem dX8_goes_109 : decode cX8_goes 109 = .ok (.getfield 13, 3) := by decide +kernel
theorem dX8_goes_112 : decode cX8_goes 112 = .ok (.iload_n 2, 1) := by decide +kernel
theorem dX8_goes_113 : decode cX8_goes 113 = .ok (.iload_n 2, 1) := by decide +kernel
theorem dX8_goes_114 : decode cX8_goes 114 = .ok (.iconst 3, 1) := by decide +kernel
theorem dX8_goes_115 : decode cX8_goes 115 = .ok (.iadd, 1) := by decide +kernel
theorem dX8_goes_116 : decode cX8_goes 116 = .ok (.bipush 36, 2) := by decide +kernel
theorem dX8_goes_118 : decode cX8_goes 118 = .ok (.if_icmp .ge 14, 3) := by decide +kernel
theorem dX8_goes_121 : decode cX8_goes 121 = .ok (.aload_n 0, 1) := by decide +kernel
theorem dX8_goes_122 : decode cX8_goes 122 = .ok (.getfield 13, 3) := by decide +kernel
theorem dX8_goes_125 : decode cX8_goes 125 = .ok (.iload_n 2, 1) := by decide +kernel
theorem dX8_goes_126 : decode cX8_goes 126 = .ok (.iconst 3, 1) := by decide +kernel
theorem dX8_goes_127 : decode cX8_goes 127 = .ok (.iadd, 1) := by decide +kernel
theorem dX8_goes_128 : decode cX8_goes 128 = .ok (.iaload, 1) := by decide +kernel
theorem dX8_goes_129 : decode cX8_goes 129 = .ok (.goto 4, 3) := by decide +kernel
theorem dX8_goes_132 : decode cX8_goes 132 = .ok (.iconst 0, 1) := by decide +kernel
theorem dX8_goes_133 : decode cX8_goes 133 = .ok (.iastore, 1) := by decide +kernel
theorem dX8_goes_134 : decode cX8_goes 134 = .ok (.iinc 2 1, 3) := by decide +kernel
theorem dX8_goes_137 : decode cX8_goes 137 = .ok (.goto (-35), 3) := by decide +kernel
theorem dX8_goes_140 : decode cX8_goes 140 = .ok (.aload_n 0, 1) := by decide +kernel
theorem dX8_goes_141 : decode cX8_goes 141 = .ok (.getfield 13, 3) := by decide +kernel
theorem dX8_goes_144 : decode cX8_goes 144 = .ok (.iconst 0, 1) := by decide +kernel
theorem dX8_goes_145 : decode cX8_goes 145 = .ok (.dup2, 1) := by decide +kernel
theorem dX8_goes_146 : decode cX8_goes 146 = .ok (.iaload, 1) := by decide +kernel
theorem dX8_goes_147 : decode cX8_goes 147 = .ok (.iconst 1, 1) := by decide +kernel
theorem dX8_goes_148 : decode cX8_goes 148 = .ok (.isub, 1) := by decide +kernel
theorem dX8_goes_149 : decode cX8_goes 149 = .ok (.iastore, 1) := by decide +kernel
theorem dX8_goes_150 : decode cX8_goes 150 = .ok (.aload_n 0, 1) := by decide +kernel
theorem dX8_goes_151 : decode cX8_goes 151 = .ok (.getfield 13, 3) := by decide +kernel
theorem dX8_goes_154 : decode cX8_goes 154 = .ok (.iconst 0, 1) := by decide +kernel
theorem dX8_goes_155 : decode cX8_goes 155 = .ok (.iaload, 1) := by decide +kernel
theorem dX8_goes_156 : decode cX8_goes 156 = .ok (.ireturn, 1) := by decide +kernel
theorem dX8_shore_0 : decode cX8_shore 0 = .ok (.aload_n 0, 1) := by decide +kernel
theorem dX8_shore_1 : decode cX8_shore 1 = .ok (.invokevirtual 99, 3) := by decide +kernel
theorem dX8_shore_4 : decode cX8_shore 4 = .ok (.aload_n 0, 1) := by decide +kernel
theorem dX8_shore_5 : decode cX8_shore 5 = .ok (.aload_n 0, 1) := by decide +kernel
theorem dX8_shore_6 : decode cX8_shore 6 = .ok (.iload_n 1, 1) := by decide +kernel
theorem dX8_shore_7 : decode cX8_shore 7 = .ok (.invokevirtual 116, 3) := by decide +kernel
theorem dX8_shore_10 : decode cX8_shore 10 = .ok (.invokevirtual 105, 3) := by decide +kernel
theorem dX8_shore_13 : decode cX8_shore 13 = .ok (.ireturn, 1) := by decide +kernel
theorem dX8_sets_0 : decode cX8_sets 0 = .ok (.aload_n 0, 1) := by decide +kernel
theorem dX8_sets_1 : decode cX8_sets 1 = .ok (.getfield 13, 3) := by decide +kernel
theorem dX8_sets_4 : decode cX8_sets 4 = .ok (.iload_n 1, 1) := by decide +kernel
theorem dX8_sets_5 : decode cX8_sets 5 = .ok (.iaload, 1) := by decide +kernel
theorem dX8_sets_6 : decode cX8_sets 6 = .ok (.istore_n 3, 1) := by decide +kernel
theorem dX8_sets_7 : decode cX8_sets 7 = .ok (.iload_n 3, 1) := by decide +kernel
theorem dX8_sets_8 : decode cX8_sets 8 = .ok (.iload_n 2, 1) := by decide +kernel
theorem dX8_sets_9 : decode cX8_sets 9 = .ok (.if_icmp .ne 10, 3) := by decide +kernel
theorem dX8_sets_12 : decode cX8_sets 12 = .ok (.aload_n 0, 1) := by decide +kernel
theorem dX8_sets_13 : decode cX8_sets 13 = .ok (.iconst 2, 1) := by decide +kernel
theorem dX8_sets_14 : decode cX8_sets 14 = .ok (.iload_n 2, 1) := by decide +kernel
theorem dX8_sets_15 : decode cX8_sets 15 = .ok (.invokevirtual 96, 3) := by decide +kernel
theorem dX8_sets_18 : decode cX8_sets 18 = .ok (.ireturn, 1) := by decide +kernel
theorem dX8_sets_19 : decode cX8_sets 19 = .ok (.aload_n 0, 1) := by decide +kernel
theorem dX8_sets_20 : decode cX8_sets 20 = .ok (.getfield 13, 3) := by decide +kernel
theorem dX8_sets_23 : decode cX8_sets 23 = .ok (.iload_n 1, 1) := by decide +kernel
theorem dX8_sets_24 : decode cX8_sets 24 = .ok (.iload_n 2, 1) := by decide +kernel
theorem dX8_sets_25 : decode cX8_sets 25 = .ok (.iastore, 1) := by decide +kernel
theorem dX8_sets_26 : decode cX8_sets 26 = .ok (.iload_n 3, 1) := by decide +kernel
theorem dX8_sets_27 : decode cX8_sets 27 = .ok (.ireturn, 1) := by decide +kernel
theorem dX8_moods_0 : decode cX8_moods 0 = .ok (.aload_n 0, 1) := by decide +kernel
theorem dX8_moods_1 : decode cX8_moods 1 = .ok (.iload_n 1, 1) := by decide +kernel
theorem dX8_moods_2 : decode cX8_moods 2 = .ok (.invokevirtual 108, 3) := by decide +kernel
theorem dX8_moods_5 : decode cX8_moods 5 = .ok (.ifCond .ne 12, 3) := by decide +kernel
theorem dX8_moods_8 : decode cX8_moods 8 = .ok (.aload_n 0, 1) := by decide +kernel
theorem dX8_moods_9 : decode cX8_moods 9 = .ok (.ldc 111, 2) := by decide +kernel
theorem dX8_moods_11 : decode cX8_moods 11 = .ok (.invokevirtual 57, 3) := by decide +kernel
theorem dX8_moods_14 : decode cX8_moods 14 = .ok (.goto 29, 3) := by decide +kernel
theorem dX8_moods_17 : decode cX8_moods 17 = .ok (.iload_n 2, 1) := by decide +kernel
theorem dX8_moods_18 : decode cX8_moods 18 = .ok (.invokestatic 91, 3) := by decide +kernel
theorem dX8_moods_21 : decode cX8_moods 21 = .ok (.ifCond .eq 16, 3) := by decide +kernel
theorem dX8_moods_24 : decode cX8_moods 24 = .ok (.aload_n 0, 1) := by decide +kernel
theorem dX8_moods_25 : decode cX8_moods 25 = .ok (.iload_n 1, 1) := by decide +kernel
theorem dX8_moods_26 : decode cX8_moods 26 = .ok (.iconst 0, 1) := by decide +kernel
theorem dX8_moods_27 : decode cX8_moods 27 = .ok (.invokestatic 73, 3) := by decide +kernel
theorem dX8_moods_30 : decode cX8_moods 30 = .ok (.iload_n 2, 1) := by decide +kernel
theorem dX8_moods_31 : decode cX8_moods 31 = .ok (.invokevirtual 119, 3) := by decide +kernel
theorem dX8_moods_34 : decode cX8_moods 34 = .ok (.goto 9, 3) := by decide +kernel
theorem dX8_moods_37 : decode cX8_moods 37 = .ok (.aload_n 0, 1) := by decide +kernel
theorem dX8_moods_38 : decode cX8_moods 38 = .ok (.ldc 95, 2) := by decide +kernel
theorem dX8_moods_40 : decode cX8_moods 40 = .ok (.invokevirtual 57, 3) := by decide +kernel
theorem dX8_moods_43 : decode cX8_moods 43 = .ok (.ireturn, 1) := by decide +kernel
theorem dX8_mood_0 : decode cX8_mood 0 = .ok (.aload_n 0, 1) := by decide +kernel
theorem dX8_mood_1 : decode cX8_mood 1 = .ok (.invokevirtual 99, 3) := by decide +kernel
theorem dX8_mood_4 : decode cX8_mood 4 = .ok (.aload_n 0, 1) := by decide +kernel
theorem dX8_mood_5 : decode cX8_mood 5 = .ok (.aload_n 0, 1) := by decide +kernel
theorem dX8_mood_6 : decode cX8_mood 6 = .ok (.iload_n 1, 1) := by decide +kernel
theorem dX8_mood_7 : decode cX8_mood 7 = .ok (.iload_n 2, 1) := by decide +kernel
theorem dX8_mood_8 : decode cX8_mood 8 = .ok (.invokevirtual 122, 3) := by decide +kernel
theorem dX8_mood_11 : decode cX8_mood 11 = .ok (.invokevirtual 105, 3) := by decide +kernel
theorem dX8_mood_14 : decode cX8_mood 14 = .ok (.ireturn, 1) := by decide +kernel
theorem dX8_drinks_0 : decode cX8_drinks 0 = .ok (.aload_n 0, 1) := by decide +kernel
theorem dX8_drinks_1 : decode cX8_drinks 1 = .ok (.iload_n 1, 1) := by decide +kernel
theorem dX8_drinks_2 : decode cX8_drinks 2 = .ok (.invokevirtual 108, 3) := by decide +kernel
theorem dX8_drinks_5 : decode cX8_drinks 5 = .ok (.ifCond .ne 10, 3) := by decide +kernel
theorem dX8_drinks_8 : decode cX8_drinks 8 = .ok (.aload_n 0, 1) := by decide +kernel
theorem dX8_drinks_9 : decode cX8_drinks 9 = .ok (.ldc 111, 2) := by decide +kernel
theorem dX8_drinks_11 : decode cX8_drinks 11 = .ok (.invokevirtual 57, 3) := by decide +kernel
theorem dX8_drinks_14 : decode cX8_drinks 14 = .ok (.ireturn, 1) := by decide +kernel
theorem dX8_drinks_15 : decode cX8_drinks 15 = .ok (.iload_n 2, 1) := by decide +kernel
theorem dX8_drinks_16 : decode cX8_drinks 16 = .ok (.iconst 1, 1) := by decide +kernel
theorem dX8_drinks_17 : decode cX8_drinks 17 = .ok (.bipush 9, 2) := by decide +kernel
theorem dX8_drinks_19 : decode cX8_drinks 19 = .ok (.invokestatic 68, 3) := by decide +kernel
theorem dX8_drinks_22 : decode cX8_drinks 22 = .ok (.ifCond .ne 10, 3) := by decide +kernel
theorem dX8_drinks_25 : decode cX8_drinks 25 = .ok (.aload_n 0, 1) := by decide +kernel
theorem dX8_drinks_26 : decode cX8_drinks 26 = .ok (.ldc 95, 2) := by decide +kernel
theorem dX8_drinks_28 : decode cX8_drinks 28 = .ok (.invokevirtual 57, 3) := by decide +kernel
theorem dX8_drinks_31 : decode cX8_drinks 31 = .ok (.ireturn, 1) := by decide +kernel
theorem dX8_drinks_32 : decode cX8_drinks 32 = .ok (.aload_n 0, 1) := by decide +kernel
theorem dX8_drinks_33 : decode cX8_drinks 33 = .ok (.getfield 13, 3) := by decide +kernel
theorem dX8_drinks_36 : decode cX8_drinks 36 = .ok (.iload_n 1, 1) := by decide +kernel
theorem dX8_drinks_37 : decode cX8_drinks 37 = .ok (.iconst 1, 1) := by decide +kernel
theorem dX8_drinks_38 : decode cX8_drinks 38 = .ok (.invokestatic 73, 3) := by decide +kernel
theorem dX8_drinks_41 : decode cX8_drinks 41 = .ok (.iaload, 1) := by decide +kernel
theorem dX8_drinks_42 : decode cX8_drinks 42 = .ok (.istore_n 3, 1) := by decide +kernel
theorem dX8_drinks_43 : decode cX8_drinks 43 = .ok (.iload_n 3, 1) := by decide +kernel
theorem dX8_drinks_44 : decode cX8_drinks 44 = .ok (.iload_n 2, 1) := by decide +kernel
theorem dX8_drinks_45 : decode cX8_drinks 45 = .ok (.iadd, 1) := by decide +kernel
theorem dX8_drinks_46 : decode cX8_drinks 46 = .ok (.bipush 9, 2) := by decide +kernel
theorem dX8_drinks_48 : decode cX8_drinks 48 = .ok (.if_icmp .le 10, 3) := by decide +kernel
theorem dX8_drinks_51 : decode cX8_drinks 51 = .ok (.aload_n 0, 1) := by decide +kernel
theorem dX8_drinks_52 : decode cX8_drinks 52 = .ok (.iconst 3, 1) := by decide +kernel
theorem dX8_drinks_53 : decode cX8_drinks 53 = .ok (.iload_n 3, 1) := by decide +kernel
theorem dX8_drinks_54 : decode cX8_drinks 54 = .ok (.invokevirtual 96, 3) := by decide +kernel
theorem dX8_drinks_57 : decode cX8_drinks 57 = .ok (.ireturn, 1) := by decide +kernel
theorem dX8_drinks_58 : decode cX8_drinks 58 = .ok (.aload_n 0, 1) := by decide +kernel
theorem dX8_drinks_59 : decode cX8_drinks 59 = .ok (.getfield 13, 3) := by decide +kernel
theorem dX8_drinks_62 : decode cX8_drinks 62 = .ok (.iload_n 1, 1) := by decide +kernel
theorem dX8_drinks_63 : decode cX8_drinks 63 = .ok (.iconst 1, 1) := by decide +kernel
theorem dX8_drinks_64 : decode cX8_drinks 64 = .ok (.invokestatic 73, 3) := by decide +kernel
theorem dX8_drinks_67 : decode cX8_drinks 67 = .ok (.dup2, 1) := by decide +kernel
theorem dX8_drinks_68 : decode cX8_drinks 68 = .ok (.iaload, 1) := by decide +kernel
theorem dX8_drinks_69 : decode cX8_drinks 69 = .ok (.iload_n 2, 1) := by decide +kernel
theorem dX8_drinks_70 : decode cX8_drinks 70 = .ok (.iadd, 1) := by decide +kernel
theorem dX8_drinks_71 : decode cX8_drinks 71 = .ok (.iastore, 1) := by decide +kernel
theorem dX8_drinks_72 : decode cX8_drinks 72 = .ok (.aload_n 0, 1) := by decide +kernel
theorem dX8_drinks_73 : decode cX8_drinks 73 = .ok (.getfield 13, 3) := by decide +kernel
theorem dX8_drinks_76 : decode cX8_drinks 76 = .ok (.iconst 5, 1) := by decide +kernel
theorem dX8_drinks_77 : decode cX8_drinks 77 = .ok (.dup2, 1) := by decide +kernel
theorem dX8_drinks_78 : decode cX8_drinks 78 = .ok (.iaload, 1) := by decide +kernel
theorem dX8_drinks_79 : decode cX8_drinks 79 = .ok (.iload_n 2, 1) := by decide +kernel
theorem dX8_drinks_80 : decode cX8_drinks 80 = .ok (.iadd, 1) := by decide +kernel
theorem dX8_drinks_81 : decode cX8_drinks 81 = .ok (.iastore, 1) := by decide +kernel
theorem dX8_drinks_82 : decode cX8_drinks 82 = .ok (.iload_n 3, 1) := by decide +kernel
theorem dX8_drinks_83 : decode cX8_drinks 83 = .ok (.iload_n 2, 1) := by decide +kernel
theorem dX8_drinks_84 : decode cX8_drinks 84 = .ok (.iadd, 1) := by decide +kernel
theorem dX8_drinks_85 : decode cX8_drinks 85 = .ok (.ireturn, 1) := by decide +kernel
theorem dX8_rum_0 : decode cX8_rum 0 = .ok (.aload_n 0, 1) := by decide +kernel
theorem dX8_rum_1 : decode cX8_rum 1 = .ok (.invokevirtual 99, 3) := by decide +kernel
theorem dX8_rum_4 : decode cX8_rum 4 = .ok (.aload_n 0, 1) := by decide +kernel
theorem dX8_rum_5 : decode cX8_rum 5 = .ok (.aload_n 0, 1) := by decide +kernel
theorem dX8_rum_6 : decode cX8_rum 6 = .ok (.iload_n 1, 1) := by decide +kernel
theorem dX8_rum_7 : decode cX8_rum 7 = .ok (.iload_n 2, 1) := by decide +kernel
theorem dX8_rum_8 : decode cX8_rum 8 = .ok (.invokevirtual 125, 3) := by decide +kernel
theorem dX8_rum_11 : decode cX8_rum 11 = .ok (.invokevirtual 105, 3) := by decide +kernel
theorem dX8_rum_14 : decode cX8_rum 14 = .ok (.ireturn, 1) := by decide +kernel
theorem dX8_stands_0 : decode cX8_stands 0 = .ok (.aload_n 0, 1) := by decide +kernel
theorem dX8_stands_1 : decode cX8_stands 1 = .ok (.iload_n 1, 1) := by decide +kernel
theorem dX8_stands_2 : decode cX8_stands 2 = .ok (.invokevirtual 108, 3) := by decide +kernel
theorem dX8_stands_5 : decode cX8_stands 5 = .ok (.ifCond .eq 23, 3) := by decide +kernel
theorem dX8_stands_8 : decode cX8_stands 8 = .ok (.iload_n 2, 1) := by decide +kernel
theorem dX8_stands_9 : decode cX8_stands 9 = .ok (.invokestatic 128, 3) := by decide +kernel
theorem dX8_stands_12 : decode cX8_stands 12 = .ok (.ifCond .eq 16, 3) := by decide +kernel
theorem dX8_stands_15 : decode cX8_stands 15 = .ok (.aload_n 0, 1) := by decide +kernel
theorem dX8_stands_16 : decode cX8_stands 16 = .ok (.iload_n 1, 1) := by decide +kernel
theorem dX8_stands_17 : decode cX8_stands 17 = .ok (.iconst 2, 1) := by decide +kernel
theorem dX8_stands_18 : decode cX8_stands 18 = .ok (.invokestatic 73, 3) := by decide +kernel
theorem dX8_stands_21 : decode cX8_stands 21 = .ok (.iload_n 2, 1) := by decide +kernel
theorem dX8_stands_22 : decode cX8_stands 22 = .ok (.invokevirtual 119, 3) := by decide +kernel
theorem dX8_stands_25 : decode cX8_stands 25 = .ok (.goto 9, 3) := by decide +kernel
theorem dX8_stands_28 : decode cX8_stands 28 = .ok (.aload_n 0, 1) := by decide +kernel
theorem dX8_stands_29 : decode cX8_stands 29 = .ok (.ldc 111, 2) := by decide +kernel
theorem dX8_stands_31 : decode cX8_stands 31 = .ok (.invokevirtual 57, 3) := by decide +kernel
theorem dX8_stands_34 : decode cX8_stands 34 = .ok (.ireturn, 1) := by decide +kernel
theorem dX8_watch_0 : decode cX8_watch 0 = .ok (.aload_n 0, 1) := by decide +kernel
theorem dX8_watch_1 : decode cX8_watch 1 = .ok (.invokevirtual 99, 3) := by decide +kernel
theorem dX8_watch_4 : decode cX8_watch 4 = .ok (.aload_n 0, 1) := by decide +kernel
theorem dX8_watch_5 : decode cX8_watch 5 = .ok (.aload_n 0, 1) := by decide +kernel
theorem dX8_watch_6 : decode cX8_watch 6 = .ok (.iload_n 1, 1) := by decide +kernel
theorem dX8_watch_7 : decode cX8_watch 7 = .ok (.iload_n 2, 1) := by decide +kernel
theorem dX8_watch_8 : decode cX8_watch 8 = .ok (.invokevirtual 131, 3) := by decide +kernel
theorem dX8_watch_11 : decode cX8_watch 11 = .ok (.invokevirtual 105, 3) := by decide +kernel
theorem dX8_watch_14 : decode cX8_watch 14 = .ok (.ireturn, 1) := by decide +kernel
theorem dX8_horizons_0 : decode cX8_horizons 0 = .ok (.iload_n 1, 1) := by decide +kernel
theorem dX8_horizons_1 : decode cX8_horizons 1 = .ok (.invokestatic 128, 3) := by decide +kernel
theorem dX8_horizons_4 : decode cX8_horizons 4 = .ok (.ifCond .ne 12, 3) := by decide +kernel
theorem dX8_horizons_7 : decode cX8_horizons 7 = .ok (.aload_n 0, 1) := by decide +kernel
theorem dX8_horizons_8 : decode cX8_horizons 8 = .ok (.ldc 111, 2) := by decide +kernel
theorem dX8_horizons_10 : decode cX8_horizons 10 = .ok (.invokevirtual 57, 3) := by decide +kernel
theorem dX8_horizons_13 : decode cX8_horizons 13 = .ok (.goto 31, 3) := by decide +kernel
theorem dX8_horizons_16 : decode cX8_horizons 16 = .ok (.iload_n 2, 1) := by decide +kernel
theorem dX8_horizons_17 : decode cX8_horizons 17 = .ok (.iconst 0, 1) := by decide +kernel
theorem dX8_horizons_18 : decode cX8_horizons 18 = .ok (.bipush 8, 2) := by decide +kernel
theorem dX8_horizons_20 : decode cX8_horizons 20 = .ok (.invokestatic 68, 3) := by decide +kernel
theorem dX8_horizons_23 : decode cX8_horizons 23 = .ok (.ifCond .eq 15, 3) := by decide +kernel
theorem dX8_horizons_26 : decode cX8_horizons 26 = .ok (.aload_n 0, 1) := by decide +kernel
theorem dX8_horizons_27 : decode cX8_horizons 27 = .ok (.bipush 8, 2) := by decide +kernel
theorem dX8_horizons_29 : decode cX8_horizons 29 = .ok (.iload_n 1, 1) := by decide +kernel
theorem dX8_horizons_30 : decode cX8_horizons 30 = .ok (.iadd, 1) := by decide +kernel
theorem dX8_horizons_31 : decode cX8_horizons 31 = .ok (.iload_n 2, 1) := by decide +kernel
theorem dX8_horizons_32 : decode cX8_horizons 32 = .ok (.invokevirtual 119, 3) := by decide +kernel
theorem dX8_horizons_35 : decode cX8_horizons 35 = .ok (.goto 9, 3) := by decide +kernel
theorem dX8_horizons_38 : decode cX8_horizons 38 = .ok (.aload_n 0, 1) := by decide +kernel
theorem dX8_horizons_39 : decode cX8_horizons 39 = .ok (.ldc 95, 2) := by decide +kernel
theorem dX8_horizons_41 : decode cX8_horizons 41 = .ok (.invokevirtual 57, 3) := by decide +kernel
theorem dX8_horizons_44 : decode cX8_horizons 44 = .ok (.ireturn, 1) := by decide +kernel
theorem dX8_horizon_0 : decode cX8_horizon 0 = .ok (.aload_n 0, 1) := by decide +kernel
theorem dX8_horizon_1 : decode cX8_horizon 1 = .ok (.invokevirtual 99, 3) := by decide +kernel
theorem dX8_horizon_4 : decode cX8_horizon 4 = .ok (.aload_n 0, 1) := by decide +kernel
theorem dX8_horizon_5 : decode cX8_horizon 5 = .ok (.aload_n 0, 1) := by decide +kernel
theorem dX8_horizon_6 : decode cX8_horizon 6 = .ok (.iload_n 1, 1) := by decide +kernel
theorem dX8_horizon_7 : decode cX8_horizon 7 = .ok (.iload_n 2, 1) := by decide +kernel
theorem dX8_horizon_8 : decode cX8_horizon 8 = .ok (.invokevirtual 134, 3) := by decide +kernel
theorem dX8_horizon_11 : decode cX8_horizon 11 = .ok (.invokevirtual 105, 3) := by decide +kernel
theorem dX8_horizon_14 : decode cX8_horizon 14 = .ok (.ireturn, 1) := by decide +kernel
theorem dX8_errs_0 : decode cX8_errs 0 = .ok (.iload_n 1, 1) := by decide +kernel
theorem dX8_errs_1 : decode cX8_errs 1 = .ok (.bipush (-3), 2) := by decide +kernel
theorem dX8_errs_3 : decode cX8_errs 3 = .ok (.iconst 3, 1) := by decide +kernel
theorem dX8_errs_4 : decode cX8_errs 4 = .ok (.invokestatic 68, 3) := by decide +kernel
theorem dX8_errs_7 : decode cX8_errs 7 = .ok (.ifCond .eq 12, 3) := by decide +kernel
theorem dX8_errs_10 : decode cX8_errs 10 = .ok (.aload_n 0, 1) := by decide +kernel
theorem dX8_errs_11 : decode cX8_errs 11 = .ok (.iconst 2, 1) := by decide +kernel
theorem dX8_errs_12 : decode cX8_errs 12 = .ok (.iload_n 1, 1) := by decide +kernel
theorem dX8_errs_13 : decode cX8_errs 13 = .ok (.invokevirtual 119, 3) := by decide +kernel
theorem dX8_errs_16 : decode cX8_errs 16 = .ok (.goto 9, 3) := by decide +kernel
theorem dX8_errs_19 : decode cX8_errs 19 = .ok (.aload_n 0, 1) := by decide +kernel
theorem dX8_errs_20 : decode cX8_errs 20 = .ok (.ldc 95, 2) := by decide +kernel
theorem dX8_errs_22 : decode cX8_errs 22 = .ok (.invokevirtual 57, 3) := by decide +kernel
theorem dX8_errs_25 : decode cX8_errs 25 = .ok (.ireturn, 1) := by decide +kernel
theorem dX8_error_0 : decode cX8_error 0 = .ok (.aload_n 0, 1) := by decide +kernel
theorem dX8_error_1 : decode cX8_error 1 = .ok (.invokevirtual 99, 3) := by decide +kernel
theorem dX8_error_4 : decode cX8_error 4 = .ok (.aload_n 0, 1) := by decide +kernel
theorem dX8_error_5 : decode cX8_error 5 = .ok (.aload_n 0, 1) := by decide +kernel
theorem dX8_error_6 : decode cX8_error 6 = .ok (.iload_n 1, 1) := by decide +kernel
theorem dX8_error_7 : decode cX8_error 7 = .ok (.invokevirtual 137, 3) := by decide +kernel
theorem dX8_error_10 : decode cX8_error 10 = .ok (.invokevirtual 105, 3) := by decide +kernel
theorem dX8_error_13 : decode cX8_error 13 = .ok (.ireturn, 1) := by decide +kernel
theorem dX8_takes_0 : decode cX8_takes 0 = .ok (.aload_n 0, 1) := by decide +kernel
theorem dX8_takes_1 : decode cX8_takes 1 = .ok (.iload_n 1, 1) := by decide +kernel
theorem dX8_takes_2 : decode cX8_takes 2 = .ok (.invokevirtual 108, 3) := by decide +kernel
theorem dX8_takes_5 : decode cX8_takes 5 = .ok (.ifCond .ne 10, 3) := by decide +kernel
theorem dX8_takes_8 : decode cX8_takes 8 = .ok (.aload_n 0, 1) := by decide +kernel
theorem dX8_takes_9 : decode cX8_takes 9 = .ok (.ldc 111, 2) := by decide +kernel
theorem dX8_takes_11 : decode cX8_takes 11 = .ok (.invokevirtual 57, 3) := by decide +kernel
theorem dX8_takes_14 : decode cX8_takes 14 = .ok (.ireturn, 1) := by decide +kernel
theorem dX8_takes_15 : decode cX8_takes 15 = .ok (.iconst 0, 1) := by decide +kernel
theorem dX8_takes_16 : decode cX8_takes 16 = .ok (.istore_n 2, 1) := by decide +kernel
theorem dX8_takes_17 : decode cX8_takes 17 = .ok (.iload_n 2, 1) := by decide +kernel
theorem dX8_takes_18 : decode cX8_takes 18 = .ok (.aload_n 0, 1) := by decide +kernel
theorem dX8_takes_19 : decode cX8_takes 19 = .ok (.getfield 13, 3) := by decide +kernel
theorem dX8_takes_22 : decode cX8_takes 22 = .ok (.iconst 3, 1) := by decide +kernel
theorem dX8_takes_23 : decode cX8_takes 23 = .ok (.iaload, 1) := by decide +kernel
theorem dX8_takes_24 : decode cX8_takes 24 = .ok (.if_icmp .ge 53, 3) := by decide +kernel
theorem dX8_takes_27 : decode cX8_takes 27 = .ok (.aload_n 0, 1) := by decide +kernel
theorem dX8_takes_28 : decode cX8_takes 28 = .ok (.getfield 13, 3) := by decide +kernel
theorem dX8_takes_31 : decode cX8_takes 31 = .ok (.bipush 36, 2) := by decide +kernel
theorem dX8_takes_33 : decode cX8_takes 33 = .ok (.iconst 3, 1) := by decide +kernel
theorem dX8_takes_34 : decode cX8_takes 34 = .ok (.iload_n 2, 1) := by decide +kernel
theorem dX8_takes_35 : decode cX8_takes 35 = .ok (.imul, 1) := by decide +kernel
theorem dX8_takes_36 : decode cX8_takes 36 = .ok (.iadd, 1) := by decide +kernel
theorem dX8_takes_37 : decode cX8_takes 37 = .ok (.iaload, 1) := by decide +kernel
theorem dX8_takes_38 : decode cX8_takes 38 = .ok (.iload_n 1, 1) := by decide +kernel
theorem dX8_takes_39 : decode cX8_takes 39 = .ok (.if_icmp .ne 32, 3) := by decide +kernel
theorem dX8_takes_42 : decode cX8_takes 42 = .ok (.aload_n 0, 1) := by decide +kernel
theorem dX8_takes_43 : decode cX8_takes 43 = .ok (.getfield 13, 3) := by decide +kernel
theorem dX8_takes_46 : decode cX8_takes 46 = .ok (.bipush 36, 2) := by decide +kernel
theorem dX8_takes_48 : decode cX8_takes 48 = .ok (.iconst 3, 1) := by decide +kernel
theorem dX8_takes_49 : decode cX8_takes 49 = .ok (.iload_n 2, 1) := by decide +kernel
theorem dX8_takes_50 : decode cX8_takes 50 = .ok (.imul, 1) := by decide +kernel
theorem dX8_takes_51 : decode cX8_takes 51 = .ok (.iadd, 1) := by decide +kernel
theorem dX8_takes_52 : decode cX8_takes 52 = .ok (.iconst 1, 1) := by decide +kernel
theorem dX8_takes_53 : decode cX8_takes 53 = .ok (.iadd, 1) := by decide +kernel
theorem dX8_takes_54 : decode cX8_takes 54 = .ok (.iaload, 1) := by decide +kernel
theorem dX8_takes_55 : decode cX8_takes 55 = .ok (.aload_n 0, 1) := by decide +kernel
theorem dX8_takes_56 : decode cX8_takes 56 = .ok (.getfield 13, 3) := by decide +kernel
theorem dX8_takes_59 : decode cX8_takes 59 = .ok (.iconst 1, 1) := by decide +kernel
theorem dX8_takes_60 : decode cX8_takes 60 = .ok (.iaload, 1) := by decide +kernel
theorem dX8_takes_61 : decode cX8_takes 61 = .ok (.if_icmp .ne 10, 3) := by decide +kernel
theorem dX8_takes_64 : decode cX8_takes 64 = .ok (.aload_n 0, 1) := by decide +kernel
theorem dX8_takes_65 : decode cX8_takes 65 = .ok (.iconst 4, 1) := by decide +kernel
theorem dX8_takes_66 : decode cX8_takes 66 = .ok (.iload_n 1, 1) := by decide +kernel
theorem dX8_takes_67 : decode cX8_takes 67 = .ok (.invokevirtual 96, 3) := by decide +kernel
theorem dX8_takes_70 : decode cX8_takes 70 = .ok (.ireturn, 1) := by decide +kernel
theorem dX8_takes_71 : decode cX8_takes 71 = .ok (.iinc 2 1, 3) := by decide +kernel
theorem dX8_takes_74 : decode cX8_takes 74 = .ok (.goto (-57), 3) := by decide +kernel
theorem dX8_takes_77 : decode cX8_takes 77 = .ok (.bipush 65, 2) := by decide +kernel
theorem dX8_takes_79 : decode cX8_takes 79 = .ok (.istore_n 2, 1) := by decide +kernel
theorem dX8_takes_80 : decode cX8_takes 80 = .ok (.iload_n 2, 1) := by decide +kernel
theorem dX8_takes_81 : decode cX8_takes 81 = .ok (.bipush 39, 2) := by decide +kernel
theorem dX8_takes_83 : decode cX8_takes 83 = .ok (.if_icmp .lt 23, 3) := by decide +kernel
theorem dX8_takes_86 : decode cX8_takes 86 = .ok (.aload_n 0, 1) := by decide +kernel
theorem dX8_takes_87 : decode cX8_takes 87 = .ok (.getfield 13, 3) := by decide +kernel
theorem dX8_takes_90 : decode cX8_takes 90 = .ok (.iload_n 2, 1) := by decide +kernel
theorem dX8_takes_91 : decode cX8_takes 91 = .ok (.aload_n 0, 1) := by decide +kernel
theorem dX8_takes_92 : decode cX8_takes 92 = .ok (.getfield 13, 3) := by decide +kernel
theorem dX8_takes_95 : decode cX8_takes 95 = .ok (.iload_n 2, 1) := by decide +kernel
theorem dX8_takes_96 : decode cX8_takes 96 = .ok (.iconst 3, 1) := by decide +kernel
theorem dX8_takes_97 : decode cX8_takes 97 = .ok (.isub, 1) := by decide +kernel
theorem dX8_takes_98 : decode cX8_takes 98 = .ok (.iaload, 1) := by decide +kernel
theorem dX8_takes_99 : decode cX8_takes 99 = .ok (.iastore, 1) := by decide +kernel
theorem dX8_takes_100 : decode cX8_takes 100 = .ok (.iinc 2 (-1), 3) := by decide +kernel
theorem dX8_takes_103 : decode cX8_takes 103 = .ok (.goto (-23), 3) := by decide +kernel
theorem dX8_takes_106 : decode cX8_takes 106 = .ok (.aload_n 0, 1) := by decide +kernel
theorem dX8_takes_107 : decode cX8_takes 107 = .ok (.getfield 13, 3) := by decide +kernel
theorem dX8_takes_110 : decode cX8_takes 110 = .ok (.bipush 36, 2) := by decide +kernel
theorem dX8_takes_112 : decode cX8_takes 112 = .ok (.iload_n 1, 1) := by decide +kernel
theorem dX8_takes_113 : decode cX8_takes 113 = .ok (.iastore, 1) := by decide +kernel
theorem dX8_takes_114 : decode cX8_takes 114 = .ok (.aload_n 0, 1) := by decide +kernel
theorem dX8_takes_115 : decode cX8_takes 115 = .ok (.getfield 13, 3) := by decide +kernel
theorem dX8_takes_118 : decode cX8_takes 118 = .ok (.bipush 37, 2) := by decide +kernel
theorem dX8_takes_120 : decode cX8_takes 120 = .ok (.aload_n 0, 1) := by decide +kernel
theorem dX8_takes_121 : decode cX8_takes 121 = .ok (.getfield 13, 3) := by decide +kernel
theorem dX8_takes_124 : decode cX8_takes 124 = .ok (.iconst 1, 1) := by decide +kernel
theorem dX8_takes_125 : decode cX8_takes 125 = .ok (.iaload, 1) := by decide +kernel
theorem dX8_takes_126 : decode cX8_takes 126 = .ok (.iastore, 1) := by decide +kernel
theorem dX8_takes_127 : decode cX8_takes 127 = .ok (.aload_n 0, 1) := by decide +kernel
theorem dX8_takes_128 : decode cX8_takes 128 = .ok (.getfield 13, 3) := by decide +kernel
theorem dX8_takes_131 : decode cX8_takes 131 = .ok (.bipush 38, 2) := by decide +kernel
theorem dX8_takes_133 : decode cX8_takes 133 = .ok (.aload_n 0, 1) := by decide +kernel
theorem dX8_takes_134 : decode cX8_takes 134 = .ok (.iload_n 1, 1) := by decide +kernel
theorem dX8_takes_135 : decode cX8_takes 135 = .ok (.invokevirtual 140, 3) := by decide +kernel
theorem dX8_takes_138 : decode cX8_takes 138 = .ok (.invokestatic 144, 3) := by decide +kernel
theorem dX8_takes_141 : decode cX8_takes 141 = .ok (.iastore, 1) := by decide +kernel
theorem dX8_takes_142 : decode cX8_takes 142 = .ok (.aload_n 0, 1) := by decide +kernel
theorem dX8_takes_143 : decode cX8_takes 143 = .ok (.getfield 13, 3) := by decide +kernel
theorem dX8_takes_146 : decode cX8_takes 146 = .ok (.iconst 3, 1) := by decide +kernel
theorem dX8_takes_147 : decode cX8_takes 147 = .ok (.aload_n 0, 1) := by decide +kernel
theorem dX8_takes_148 : decode cX8_takes 148 = .ok (.getfield 13, 3) := by decide +kernel
theorem dX8_takes_151 : decode cX8_takes 151 = .ok (.iconst 3, 1) := by decide +kernel
theorem dX8_takes_152 : decode cX8_takes 152 = .ok (.iaload, 1) := by decide +kernel
theorem dX8_takes_153 : decode cX8_takes 153 = .ok (.bipush 10, 2) := by decide +kernel
theorem dX8_takes_155 : decode cX8_takes 155 = .ok (.if_icmp .ge 14, 3) := by decide +kernel
theorem dX8_takes_158 : decode cX8_takes 158 = .ok (.aload_n 0, 1) := by decide +kernel
theorem dX8_takes_159 : decode cX8_takes 159 = .ok (.getfield 13, 3) := by decide +kernel
theorem dX8_takes_162 : decode cX8_takes 162 = .ok (.iconst 3, 1) := by decide +kernel
theorem dX8_takes_163 : decode cX8_takes 163 = .ok (.iaload, 1) := by decide +kernel
theorem dX8_takes_164 : decode cX8_takes 164 = .ok (.iconst 1, 1) := by decide +kernel
theorem dX8_takes_165 : decode cX8_takes 165 = .ok (.iadd, 1) := by decide +kernel
theorem dX8_takes_166 : decode cX8_takes 166 = .ok (.goto 5, 3) := by decide +kernel
theorem dX8_takes_169 : decode cX8_takes 169 = .ok (.bipush 10, 2) := by decide +kernel
theorem dX8_takes_171 : decode cX8_takes 171 = .ok (.iastore, 1) := by decide +kernel
theorem dX8_takes_172 : decode cX8_takes 172 = .ok (.aload_n 0, 1) := by decide +kernel
theorem dX8_takes_173 : decode cX8_takes 173 = .ok (.getfield 13, 3) := by decide +kernel
theorem dX8_takes_176 : decode cX8_takes 176 = .ok (.iconst 4, 1) := by decide +kernel
theorem dX8_takes_177 : decode cX8_takes 177 = .ok (.dup2, 1) := by decide +kernel
theorem dX8_takes_178 : decode cX8_takes 178 = .ok (.iaload, 1) := by decide +kernel
theorem dX8_takes_179 : decode cX8_takes 179 = .ok (.iconst 1, 1) := by decide +kernel
theorem dX8_takes_180 : decode cX8_takes 180 = .ok (.iadd, 1) := by decide +kernel
theorem dX8_takes_181 : decode cX8_takes 181 = .ok (.iastore, 1) := by decide +kernel
theorem dX8_takes_182 : decode cX8_takes 182 = .ok (.aload_n 0, 1) := by decide +kernel
theorem dX8_takes_183 : decode cX8_takes 183 = .ok (.getfield 13, 3) := by decide +kernel
theorem dX8_takes_186 : decode cX8_takes 186 = .ok (.iconst 3, 1) := by decide +kernel
theorem dX8_takes_187 : decode cX8_takes 187 = .ok (.iaload, 1) := by decide +kernel
theorem dX8_takes_188 : decode cX8_takes 188 = .ok (.ireturn, 1) := by decide +kernel
theorem dX8_sight_0 : decode cX8_sight 0 = .ok (.aload_n 0, 1) := by decide +kernel
theorem dX8_sight_1 : decode cX8_sight 1 = .ok (.invokevirtual 99, 3) := by decide +kernel
theorem dX8_sight_4 : decode cX8_sight 4 = .ok (.aload_n 0, 1) := by decide +kernel
theorem dX8_sight_5 : decode cX8_sight 5 = .ok (.aload_n 0, 1) := by decide +kernel
theorem dX8_sight_6 : decode cX8_sight 6 = .ok (.iload_n 1, 1) := by decide +kernel
theorem dX8_sight_7 : decode cX8_sight 7 = .ok (.invokevirtual 150, 3) := by decide +kernel
theorem dX8_sight_10 : decode cX8_sight 10 = .ok (.invokevirtual 105, 3) := by decide +kernel
theorem dX8_sight_13 : decode cX8_sight 13 = .ok (.ireturn, 1) := by decide +kernel
theorem dX8_turned_0 : decode cX8_turned 0 = .ok (.iload_n 0, 1) := by decide +kernel
theorem dX8_turned_1 : decode cX8_turned 1 = .ok (.iconst 1, 1) := by decide +kernel
theorem dX8_turned_2 : decode cX8_turned 2 = .ok (.ishl, 1) := by decide +kernel
theorem dX8_turned_3 : decode cX8_turned 3 = .ok (.ldc 72, 2) := by decide +kernel
theorem dX8_turned_5 : decode cX8_turned 5 = .ok (.iand, 1) := by decide +kernel
theorem dX8_turned_6 : decode cX8_turned 6 = .ok (.iload_n 0, 1) := by decide +kernel
theorem dX8_turned_7 : decode cX8_turned 7 = .ok (.bipush 15, 2) := by decide +kernel
theorem dX8_turned_9 : decode cX8_turned 9 = .ok (.ishr, 1) := by decide +kernel
theorem dX8_turned_10 : decode cX8_turned 10 = .ok (.ior, 1) := by decide +kernel
theorem dX8_turned_11 : decode cX8_turned 11 = .ok (.ireturn, 1) := by decide +kernel
theorem dX8_allRum_0 : decode cX8_allRum 0 = .ok (.iconst 0, 1) := by decide +kernel
theorem dX8_allRum_1 : decode cX8_allRum 1 = .ok (.istore_n 1, 1) := by decide +kernel
theorem dX8_allRum_2 : decode cX8_allRum 2 = .ok (.iconst 0, 1) := by decide +kernel
theorem dX8_allRum_3 : decode cX8_allRum 3 = .ok (.istore_n 2, 1) := by decide +kernel
theorem dX8_allRum_4 : decode cX8_allRum 4 = .ok (.iload_n 2, 1) := by decide +kernel
theorem dX8_allRum_5 : decode cX8_allRum 5 = .ok (.aload_n 0, 1) := by decide +kernel
theorem dX8_allRum_6 : decode cX8_allRum 6 = .ok (.getfield 13, 3) := by decide +kernel
theorem dX8_allRum_9 : decode cX8_allRum 9 = .ok (.iconst 0, 1) := by decide +kernel
theorem dX8_allRum_10 : decode cX8_allRum 10 = .ok (.iaload, 1) := by decide +kernel
theorem dX8_allRum_11 : decode cX8_allRum 11 = .ok (.if_icmp .ge 22, 3) := by decide +kernel
theorem dX8_allRum_14 : decode cX8_allRum 14 = .ok (.iload_n 1, 1) := by decide +kernel
theorem dX8_allRum_15 : decode cX8_allRum 15 = .ok (.aload_n 0, 1) := by decide +kernel
theorem dX8_allRum_16 : decode cX8_allRum 16 = .ok (.getfield 13, 3) := by decide +kernel
theorem dX8_allRum_19 : decode cX8_allRum 19 = .ok (.iload_n 2, 1) := by decide +kernel
theorem dX8_allRum_20 : decode cX8_allRum 20 = .ok (.iconst 1, 1) := by decide +kernel
theorem dX8_allRum_21 : decode cX8_allRum 21 = .ok (.invokestatic 73, 3) := by decide +kernel
theorem dX8_allRum_24 : decode cX8_allRum 24 = .ok (.iaload, 1) := by decide +kernel
theorem dX8_allRum_25 : decode cX8_allRum 25 = .ok (.iadd, 1) := by decide +kernel
theorem dX8_allRum_26 : decode cX8_allRum 26 = .ok (.istore_n 1, 1) := by decide +kernel
theorem dX8_allRum_27 : decode cX8_allRum 27 = .ok (.iinc 2 1, 3) := by decide +kernel
theorem dX8_allRum_30 : decode cX8_allRum 30 = .ok (.goto (-26), 3) := by decide +kernel
theorem dX8_allRum_33 : decode cX8_allRum 33 = .ok (.iload_n 1, 1) := by decide +kernel
theorem dX8_allRum_34 : decode cX8_allRum 34 = .ok (.ireturn, 1) := by decide +kernel
theorem dX8_passes_0 : decode cX8_passes 0 = .ok (.aload_n 0, 1) := by decide +kernel
theorem dX8_passes_1 : decode cX8_passes 1 = .ok (.getfield 13, 3) := by decide +kernel
theorem dX8_passes_4 : decode cX8_passes 4 = .ok (.iconst 1, 1) := by decide +kernel
theorem dX8_passes_5 : decode cX8_passes 5 = .ok (.dup2, 1) := by decide +kernel
theorem dX8_passes_6 : decode cX8_passes 6 = .ok (.iaload, 1) := by decide +kernel
theorem dX8_passes_7 : decode cX8_passes 7 = .ok (.iconst 1, 1) := by decide +kernel
theorem dX8_passes_8 : decode cX8_passes 8 = .ok (.iadd, 1) := by decide +kernel
theorem dX8_passes_9 : decode cX8_passes 9 = .ok (.iastore, 1) := by decide +kernel
theorem dX8_passes_10 : decode cX8_passes 10 = .ok (.iconst 0, 1) := by decide +kernel
theorem dX8_passes_11 : decode cX8_passes 11 = .ok (.istore_n 1, 1) := by decide +kernel
theorem dX8_passes_12 : decode cX8_passes 12 = .ok (.iload_n 1, 1) := by decide +kernel
theorem dX8_passes_13 : decode cX8_passes 13 = .ok (.aload_n 0, 1) := by decide +kernel
theorem dX8_passes_14 : decode cX8_passes 14 = .ok (.getfield 13, 3) := by decide +kernel
theorem dX8_passes_17 : decode cX8_passes 17 = .ok (.iconst 0, 1) := by decide +kernel
theorem dX8_passes_18 : decode cX8_passes 18 = .ok (.iaload, 1) := by decide +kernel
theorem dX8_passes_19 : decode cX8_passes 19 = .ok (.if_icmp .ge 111, 3) := by decide +kernel
theorem dX8_passes_22 : decode cX8_passes 22 = .ok (.aload_n 0, 1) := by decide +kernel
theorem dX8_passes_23 : decode cX8_passes 23 = .ok (.getfield 13, 3) := by decide +kernel
theorem dX8_passes_26 : decode cX8_passes 26 = .ok (.iload_n 1, 1) := by decide +kernel
theorem dX8_passes_27 : decode cX8_passes 27 = .ok (.iconst 1, 1) := by decide +kernel
theorem dX8_passes_28 : decode cX8_passes 28 = .ok (.invokestatic 73, 3) := by decide +kernel
theorem dX8_passes_31 : decode cX8_passes 31 = .ok (.iaload, 1) := by decide +kernel
theorem dX8_passes_32 : decode cX8_passes 32 = .ok (.ifCond .le 7, 3) := by decide +kernel
theorem dX8_passes_35 : decode cX8_passes 35 = .ok (.iconst 1, 1) := by decide +kernel
theorem dX8_passes_36 : decode cX8_passes 36 = .ok (.goto 4, 3) := by decide +kernel
theorem dX8_passes_39 : decode cX8_passes 39 = .ok (.iconst 0, 1) := by decide +kernel
theorem dX8_passes_40 : decode cX8_passes 40 = .ok (.istore_n 2, 1) := by decide +kernel
theorem dX8_passes_41 : decode cX8_passes 41 = .ok (.aload_n 0, 1) := by decide +kernel
theorem dX8_passes_42 : decode cX8_passes 42 = .ok (.getfield 13, 3) := by decide +kernel
theorem dX8_passes_45 : decode cX8_passes 45 = .ok (.iload_n 1, 1) := by decide +kernel
theorem dX8_passes_46 : decode cX8_passes 46 = .ok (.iconst 0, 1) := by decide +kernel
theorem dX8_passes_47 : decode cX8_passes 47 = .ok (.invokestatic 73, 3) := by decide +kernel
theorem dX8_passes_50 : decode cX8_passes 50 = .ok (.aload_n 0, 1) := by decide +kernel
theorem dX8_passes_51 : decode cX8_passes 51 = .ok (.getfield 13, 3) := by decide +kernel
theorem dX8_passes_54 : decode cX8_passes 54 = .ok (.iload_n 1, 1) := by decide +kernel
theorem dX8_passes_55 : decode cX8_passes 55 = .ok (.iconst 0, 1) := by decide +kernel
theorem dX8_passes_56 : decode cX8_passes 56 = .ok (.invokestatic 73, 3) := by decide +kernel
theorem dX8_passes_59 : decode cX8_passes 59 = .ok (.iaload, 1) := by decide +kernel
theorem dX8_passes_60 : decode cX8_passes 60 = .ok (.invokestatic 153, 3) := by decide +kernel
theorem dX8_passes_63 : decode cX8_passes 63 = .ok (.iastore, 1) := by decide +kernel
theorem dX8_passes_64 : decode cX8_passes 64 = .ok (.aload_n 0, 1) := by decide +kernel
theorem dX8_passes_65 : decode cX8_passes 65 = .ok (.getfield 13, 3) := by decide +kernel
theorem dX8_passes_68 : decode cX8_passes 68 = .ok (.iload_n 1, 1) := by decide +kernel
theorem dX8_passes_69 : decode cX8_passes 69 = .ok (.iconst 1, 1) := by decide +kernel
theorem dX8_passes_70 : decode cX8_passes 70 = .ok (.invokestatic 73, 3) := by decide +kernel
theorem dX8_passes_73 : decode cX8_passes 73 = .ok (.dup2, 1) := by decide +kernel
theorem dX8_passes_74 : decode cX8_passes 74 = .ok (.iaload, 1) := by decide +kernel
theorem dX8_passes_75 : decode cX8_passes 75 = .ok (.iload_n 2, 1) := by decide +kernel
theorem dX8_passes_76 : decode cX8_passes 76 = .ok (.isub, 1) := by decide +kernel
theorem dX8_passes_77 : decode cX8_passes 77 = .ok (.iastore, 1) := by decide +kernel
theorem dX8_passes_78 : decode cX8_passes 78 = .ok (.aload_n 0, 1) := by decide +kernel
theorem dX8_passes_79 : decode cX8_passes 79 = .ok (.getfield 13, 3) := by decide +kernel
theorem dX8_passes_82 : decode cX8_passes 82 = .ok (.bipush 6, 2) := by decide +kernel
theorem dX8_passes_84 : decode cX8_passes 84 = .ok (.dup2, 1) := by decide +kernel
theorem dX8_passes_85 : decode cX8_passes 85 = .ok (.iaload, 1) := by decide +kernel
theorem dX8_passes_86 : decode cX8_passes 86 = .ok (.iload_n 2, 1) := by decide +kernel
theorem dX8_passes_87 : decode cX8_passes 87 = .ok (.iadd, 1) := by decide +kernel
theorem dX8_passes_88 : decode cX8_passes 88 = .ok (.iastore, 1) := by decide +kernel
theorem dX8_passes_89 : decode cX8_passes 89 = .ok (.aload_n 0, 1) := by decide +kernel
theorem dX8_passes_90 : decode cX8_passes 90 = .ok (.getfield 13, 3) := by decide +kernel
theorem dX8_passes_93 : decode cX8_passes 93 = .ok (.iconst 1, 1) := by decide +kernel
theorem dX8_passes_94 : decode cX8_passes 94 = .ok (.iaload, 1) := by decide +kernel
theorem dX8_passes_95 : decode cX8_passes 95 = .ok (.iconst 4, 1) := by decide +kernel
theorem dX8_passes_96 : decode cX8_passes 96 = .ok (.irem, 1) := by decide +kernel
theorem dX8_passes_97 : decode cX8_passes 97 = .ok (.ifCond .ne 27, 3) := by decide +kernel
theorem dX8_passes_100 : decode cX8_passes 100 = .ok (.aload_n 0, 1) := by decide +kernel
theorem dX8_passes_101 : decode cX8_passes 101 = .ok (.getfield 13, 3) := by decide +kernel
theorem dX8_passes_104 : decode cX8_passes 104 = .ok (.iload_n 1, 1) := by decide +kernel
theorem dX8_passes_105 : decode cX8_passes 105 = .ok (.iconst 2, 1) := by decide +kernel
theorem dX8_passes_106 : decode cX8_passes 106 = .ok (.invokestatic 73, 3) := by decide +kernel
theorem dX8_passes_109 : decode cX8_passes 109 = .ok (.aload_n 0, 1) := by decide +kernel
theorem dX8_passes_110 : decode cX8_passes 110 = .ok (.getfield 13, 3) := by decide +kernel
theorem dX8_passes_113 : decode cX8_passes 113 = .ok (.iload_n 1, 1) := by decide +kernel
theorem dX8_passes_114 : decode cX8_passes 114 = .ok (.iconst 2, 1) := by decide +kernel
theorem dX8_passes_115 : decode cX8_passes 115 = .ok (.invokestatic 73, 3) := by decide +kernel
theorem dX8_passes_118 : decode cX8_passes 118 = .ok (.iaload, 1) := by decide +kernel
theorem dX8_passes_119 : decode cX8_passes 119 = .ok (.iconst 1, 1) := by decide +kernel
theorem dX8_passes_120 : decode cX8_passes 120 = .ok (.iadd, 1) := by decide +kernel
theorem dX8_passes_121 : decode cX8_passes 121 = .ok (.iconst 4, 1) := by decide +kernel
theorem dX8_passes_122 : decode cX8_passes 122 = .ok (.irem, 1) := by decide +kernel
theorem dX8_passes_123 : decode cX8_passes 123 = .ok (.iastore, 1) := by decide +kernel
theorem dX8_passes_124 : decode cX8_passes 124 = .ok (.iinc 1 1, 3) := by decide +kernel
theorem dX8_passes_127 : decode cX8_passes 127 = .ok (.goto (-115), 3) := by decide +kernel
theorem dX8_passes_130 : decode cX8_passes 130 = .ok (.aload_n 0, 1) := by decide +kernel
theorem dX8_passes_131 : decode cX8_passes 131 = .ok (.invokevirtual 156, 3) := by decide +kernel
theorem dX8_passes_134 : decode cX8_passes 134 = .ok (.ireturn, 1) := by decide +kernel
theorem dX8_hour_0 : decode cX8_hour 0 = .ok (.aload_n 0, 1) := by decide +kernel
theorem dX8_hour_1 : decode cX8_hour 1 = .ok (.invokevirtual 99, 3) := by decide +kernel
theorem dX8_hour_4 : decode cX8_hour 4 = .ok (.aload_n 0, 1) := by decide +kernel
theorem dX8_hour_5 : decode cX8_hour 5 = .ok (.aload_n 0, 1) := by decide +kernel
theorem dX8_hour_6 : decode cX8_hour 6 = .ok (.invokevirtual 160, 3) := by decide +kernel
theorem dX8_hour_9 : decode cX8_hour 9 = .ok (.invokevirtual 105, 3) := by decide +kernel
theorem dX8_hour_12 : decode cX8_hour 12 = .ok (.ireturn, 1) := by decide +kernel
theorem dX8_sights_0 : decode cX8_sights 0 = .ok (.iconst 0, 1) := by decide +kernel
theorem dX8_sights_1 : decode cX8_sights 1 = .ok (.istore_n 2, 1) := by decide +kernel
theorem dX8_sights_2 : decode cX8_sights 2 = .ok (.iconst 0, 1) := by decide +kernel
theorem dX8_sights_3 : decode cX8_sights 3 = .ok (.istore_n 3, 1) := by decide +kernel
theorem dX8_sights_4 : decode cX8_sights 4 = .ok (.iload_n 3, 1) := by decide +kernel
theorem dX8_sights_5 : decode cX8_sights 5 = .ok (.aload_n 0, 1) := by decide +kernel
theorem dX8_sights_6 : decode cX8_sights 6 = .ok (.getfield 13, 3) := by decide +kernel
theorem dX8_sights_9 : decode cX8_sights 9 = .ok (.iconst 3, 1) := by decide +kernel
theorem dX8_sights_10 : decode cX8_sights 10 = .ok (.iaload, 1) := by decide +kernel
theorem dX8_sights_11 : decode cX8_sights 11 = .ok (.if_icmp .ge 32, 3) := by decide +kernel
theorem dX8_sights_14 : decode cX8_sights 14 = .ok (.iload_n 2, 1) := by decide +kernel
theorem dX8_sights_15 : decode cX8_sights 15 = .ok (.aload_n 0, 1) := by decide +kernel
theorem dX8_sights_16 : decode cX8_sights 16 = .ok (.getfield 13, 3) := by decide +kernel
theorem dX8_sights_19 : decode cX8_sights 19 = .ok (.bipush 36, 2) := by decide +kernel
theorem dX8_sights_21 : decode cX8_sights 21 = .ok (.iconst 3, 1) := by decide +kernel
theorem dX8_sights_22 : decode cX8_sights 22 = .ok (.iload_n 3, 1) := by decide +kernel
theorem dX8_sights_23 : decode cX8_sights 23 = .ok (.imul, 1) := by decide +kernel
theorem dX8_sights_24 : decode cX8_sights 24 = .ok (.iadd, 1) := by decide +kernel
theorem dX8_sights_25 : decode cX8_sights 25 = .ok (.iaload, 1) := by decide +kernel
theorem dX8_sights_26 : decode cX8_sights 26 = .ok (.iload_n 1, 1) := by decide +kernel
theorem dX8_sights_27 : decode cX8_sights 27 = .ok (.if_icmp .ne 7, 3) := by decide +kernel
theorem dX8_sights_30 : decode cX8_sights 30 = .ok (.iconst 1, 1) := by decide +kernel
theorem dX8_sights_31 : decode cX8_sights 31 = .ok (.goto 4, 3) := by decide +kernel
theorem dX8_sights_34 : decode cX8_sights 34 = .ok (.iconst 0, 1) := by decide +kernel
theorem dX8_sights_35 : decode cX8_sights 35 = .ok (.iadd, 1) := by decide +kernel
theorem dX8_sights_36 : decode cX8_sights 36 = .ok (.istore_n 2, 1) := by decide +kernel
theorem dX8_sights_37 : decode cX8_sights 37 = .ok (.iinc 3 1, 3) := by decide +kernel
theorem dX8_sights_40 : decode cX8_sights 40 = .ok (.goto (-36), 3) := by decide +kernel
theorem dX8_sights_43 : decode cX8_sights 43 = .ok (.iload_n 2, 1) := by decide +kernel
theorem dX8_sights_44 : decode cX8_sights 44 = .ok (.ireturn, 1) := by decide +kernel
theorem dX8_differs_0 : decode cX8_differs 0 = .ok (.aload_n 0, 1) := by decide +kernel
theorem dX8_differs_1 : decode cX8_differs 1 = .ok (.getfield 13, 3) := by decide +kernel
theorem dX8_differs_4 : decode cX8_differs 4 = .ok (.iload_n 1, 1) := by decide +kernel
theorem dX8_differs_5 : decode cX8_differs 5 = .ok (.iconst 0, 1) := by decide +kernel
theorem dX8_differs_6 : decode cX8_differs 6 = .ok (.invokestatic 73, 3) := by decide +kernel
theorem dX8_differs_9 : decode cX8_differs 9 = .ok (.iaload, 1) := by decide +kernel
theorem dX8_differs_10 : decode cX8_differs 10 = .ok (.aload_n 0, 1) := by decide +kernel
theorem dX8_differs_11 : decode cX8_differs 11 = .ok (.getfield 13, 3) := by decide +kernel
theorem dX8_differs_14 : decode cX8_differs 14 = .ok (.iload_n 2, 1) := by decide +kernel
theorem dX8_differs_15 : decode cX8_differs 15 = .ok (.iconst 0, 1) := by decide +kernel
theorem dX8_differs_16 : decode cX8_differs 16 = .ok (.invokestatic 73, 3) := by decide +kernel
theorem dX8_differs_19 : decode cX8_differs 19 = .ok (.iaload, 1) := by decide +kernel
theorem dX8_differs_20 : decode cX8_differs 20 = .ok (.ixor, 1) := by decide +kernel
theorem dX8_differs_21 : decode cX8_differs 21 = .ok (.invokestatic 77, 3) := by decide +kernel
theorem dX8_differs_24 : decode cX8_differs 24 = .ok (.ireturn, 1) := by decide +kernel
theorem dX8_mates_0 : decode cX8_mates 0 = .ok (.iconst 0, 1) := by decide +kernel
theorem dX8_mates_1 : decode cX8_mates 1 = .ok (.istore_n 2, 1) := by decide +kernel
theorem dX8_mates_2 : decode cX8_mates 2 = .ok (.iconst 0, 1) := by decide +kernel
theorem dX8_mates_3 : decode cX8_mates 3 = .ok (.istore_n 3, 1) := by decide +kernel
theorem dX8_mates_4 : decode cX8_mates 4 = .ok (.iload_n 3, 1) := by decide +kernel
theorem dX8_mates_5 : decode cX8_mates 5 = .ok (.aload_n 0, 1) := by decide +kernel
theorem dX8_mates_6 : decode cX8_mates 6 = .ok (.getfield 13, 3) := by decide +kernel
theorem dX8_mates_9 : decode cX8_mates 9 = .ok (.iconst 0, 1) := by decide +kernel
theorem dX8_mates_10 : decode cX8_mates 10 = .ok (.iaload, 1) := by decide +kernel
theorem dX8_mates_11 : decode cX8_mates 11 = .ok (.if_icmp .ge 34, 3) := by decide +kernel
theorem dX8_mates_14 : decode cX8_mates 14 = .ok (.iload_n 2, 1) := by decide +kernel
theorem dX8_mates_15 : decode cX8_mates 15 = .ok (.iload_n 3, 1) := by decide +kernel
theorem dX8_mates_16 : decode cX8_mates 16 = .ok (.iload_n 1, 1) := by decide +kernel
theorem dX8_mates_17 : decode cX8_mates 17 = .ok (.if_icmp .eq 19, 3) := by decide +kernel
theorem dX8_mates_20 : decode cX8_mates 20 = .ok (.aload_n 0, 1) := by decide +kernel
theorem dX8_mates_21 : decode cX8_mates 21 = .ok (.iload_n 1, 1) := by decide +kernel
theorem dX8_mates_22 : decode cX8_mates 22 = .ok (.iload_n 3, 1) := by decide +kernel
theorem dX8_mates_23 : decode cX8_mates 23 = .ok (.invokevirtual 163, 3) := by decide +kernel
theorem dX8_mates_26 : decode cX8_mates 26 = .ok (.iconst 4, 1) := by decide +kernel
theorem dX8_mates_27 : decode cX8_mates 27 = .ok (.if_icmp .gt 9, 3) := by decide +kernel
theorem dX8_mates_30 : decode cX8_mates 30 = .ok (.iconst 1, 1) := by decide +kernel
theorem dX8_mates_31 : decode cX8_mates 31 = .ok (.iload_n 3, 1) := by decide +kernel
theorem dX8_mates_32 : decode cX8_mates 32 = .ok (.ishl, 1) := by decide +kernel
theorem dX8_mates_33 : decode cX8_mates 33 = .ok (.goto 4, 3) := by decide +kernel
theorem dX8_mates_36 : decode cX8_mates 36 = .ok (.iconst 0, 1) := by decide +kernel
theorem dX8_mates_37 : decode cX8_mates 37 = .ok (.ior, 1) := by decide +kernel
theorem dX8_mates_38 : decode cX8_mates 38 = .ok (.istore_n 2, 1) := by decide +kernel
theorem dX8_mates_39 : decode cX8_mates 39 = .ok (.iinc 3 1, 3) := by decide +kernel
theorem dX8_mates_42 : decode cX8_mates 42 = .ok (.goto (-38), 3) := by decide +kernel
theorem dX8_mates_45 : decode cX8_mates 45 = .ok (.iload_n 2, 1) := by decide +kernel
theorem dX8_mates_46 : decode cX8_mates 46 = .ok (.ireturn, 1) := by decide +kernel
theorem dX8_mess_0 : decode cX8_mess 0 = .ok (.iconst 1, 1) := by decide +kernel
theorem dX8_mess_1 : decode cX8_mess 1 = .ok (.iload_n 1, 1) := by decide +kernel
theorem dX8_mess_2 : decode cX8_mess 2 = .ok (.ishl, 1) := by decide +kernel
theorem dX8_mess_3 : decode cX8_mess 3 = .ok (.istore_n 2, 1) := by decide +kernel
theorem dX8_mess_4 : decode cX8_mess 4 = .ok (.iconst 0, 1) := by decide +kernel
theorem dX8_mess_5 : decode cX8_mess 5 = .ok (.istore_n 3, 1) := by decide +kernel
theorem dX8_mess_6 : decode cX8_mess 6 = .ok (.iload_n 2, 1) := by decide +kernel
theorem dX8_mess_7 : decode cX8_mess 7 = .ok (.iload_n 3, 1) := by decide +kernel
theorem dX8_mess_8 : decode cX8_mess 8 = .ok (.if_icmp .eq 47, 3) := by decide +kernel
theorem dX8_mess_11 : decode cX8_mess 11 = .ok (.iload_n 2, 1) := by decide +kernel
theorem dX8_mess_12 : decode cX8_mess 12 = .ok (.istore_n 3, 1) := by decide +kernel
theorem dX8_mess_13 : decode cX8_mess 13 = .ok (.iconst 0, 1) := by decide +kernel
theorem dX8_mess_14 : decode cX8_mess 14 = .ok (.istore 4, 2) := by decide +kernel
theorem dX8_mess_16 : decode cX8_mess 16 = .ok (.iload 4, 2) := by decide +kernel
theorem dX8_mess_18 : decode cX8_mess 18 = .ok (.aload_n 0, 1) := by decide +kernel
theorem dX8_mess_19 : decode cX8_mess 19 = .ok (.getfield 13, 3) := by decide +kernel
theorem dX8_mess_22 : decode cX8_mess 22 = .ok (.iconst 0, 1) := by decide +kernel
theorem dX8_mess_23 : decode cX8_mess 23 = .ok (.iaload, 1) := by decide +kernel
theorem dX8_mess_24 : decode cX8_mess 24 = .ok (.if_icmp .ge 28, 3) := by decide +kernel
theorem dX8_mess_27 : decode cX8_mess 27 = .ok (.iload_n 3, 1) := by decide +kernel
theorem dX8_mess_28 : decode cX8_mess 28 = .ok (.iload 4, 2) := by decide +kernel
theorem dX8_mess_30 : decode cX8_mess 30 = .ok (.ishr, 1) := by decide +kernel
theorem dX8_mess_31 : decode cX8_mess 31 = .ok (.iconst 1, 1) := by decide +kernel
theorem dX8_mess_32 : decode cX8_mess 32 = .ok (.iand, 1) := by decide +kernel
theorem dX8_mess_33 : decode cX8_mess 33 = .ok (.iconst 1, 1) := by decide +kernel
theorem dX8_mess_34 : decode cX8_mess 34 = .ok (.if_icmp .ne 12, 3) := by decide +kernel
theorem dX8_mess_37 : decode cX8_mess 37 = .ok (.iload_n 2, 1) := by decide +kernel
theorem dX8_mess_38 : decode cX8_mess 38 = .ok (.aload_n 0, 1) := by decide +kernel
theorem dX8_mess_39 : decode cX8_mess 39 = .ok (.iload 4, 2) := by decide +kernel
theorem dX8_mess_41 : decode cX8_mess 41 = .ok (.invokevirtual 166, 3) := by decide +kernel
theorem dX8_mess_44 : decode cX8_mess 44 = .ok (.ior, 1) := by decide +kernel
theorem dX8_mess_45 : decode cX8_mess 45 = .ok (.istore_n 2, 1) := by decide +kernel
theorem dX8_mess_46 : decode cX8_mess 46 = .ok (.iinc 4 1, 3) := by decide +kernel
theorem dX8_mess_49 : decode cX8_mess 49 = .ok (.goto (-33), 3) := by decide +kernel
theorem dX8_mess_52 : decode cX8_mess 52 = .ok (.goto (-46), 3) := by decide +kernel
theorem dX8_mess_55 : decode cX8_mess 55 = .ok (.iload_n 2, 1) := by decide +kernel
theorem dX8_mess_56 : decode cX8_mess 56 = .ok (.ireturn, 1) := by decide +kernel
theorem dX8_sailorOf_0 : decode cX8_sailorOf 0 = .ok (.aload_n 0, 1) := by decide +kernel
theorem dX8_sailorOf_1 : decode cX8_sailorOf 1 = .ok (.iload_n 1, 1) := by decide +kernel
theorem dX8_sailorOf_2 : decode cX8_sailorOf 2 = .ok (.invokevirtual 108, 3) := by decide +kernel
theorem dX8_sailorOf_5 : decode cX8_sailorOf 5 = .ok (.ifCond .ne 6, 3) := by decide +kernel
theorem dX8_sailorOf_8 : decode cX8_sailorOf 8 = .ok (.ldc 111, 2) := by decide +kernel
theorem dX8_sailorOf_10 : decode cX8_sailorOf 10 = .ok (.ireturn, 1) := by decide +kernel
theorem dX8_sailorOf_11 : decode cX8_sailorOf 11 = .ok (.iload_n 2, 1) := by decide +kernel
theorem dX8_sailorOf_12 : decode cX8_sailorOf 12 = .ok (.tableswitch 102 0 8 #[52, 52, 52, 63, 69, 75, 81, 87, 96], 52) := by decide +kernel
theorem dX8_sailorOf_64 : decode cX8_sailorOf 64 = .ok (.aload_n 0, 1) := by decide +kernel
theorem dX8_sailorOf_65 : decode cX8_sailorOf 65 = .ok (.getfield 13, 3) := by decide +kernel
theorem dX8_sailorOf_68 : decode cX8_sailorOf 68 = .ok (.iload_n 1, 1) := by decide +kernel
theorem dX8_sailorOf_69 : decode cX8_sailorOf 69 = .ok (.iload_n 2, 1) := by decide +kernel
theorem dX8_sailorOf_70 : decode cX8_sailorOf 70 = .ok (.invokestatic 73, 3) := by decide +kernel
theorem dX8_sailorOf_73 : decode cX8_sailorOf 73 = .ok (.iaload, 1) := by decide +kernel
theorem dX8_sailorOf_74 : decode cX8_sailorOf 74 = .ok (.ireturn, 1) := by decide +kernel
theorem dX8_sailorOf_75 : decode cX8_sailorOf 75 = .ok (.aload_n 0, 1) := by decide +kernel
theorem dX8_sailorOf_76 : decode cX8_sailorOf 76 = .ok (.iload_n 1, 1) := by decide +kernel
theorem dX8_sailorOf_77 : decode cX8_sailorOf 77 = .ok (.invokevirtual 80, 3) := by decide +kernel
theorem dX8_sailorOf_80 : decode cX8_sailorOf 80 = .ok (.ireturn, 1) := by decide +kernel
theorem dX8_sailorOf_81 : decode cX8_sailorOf 81 = .ok (.aload_n 0, 1) := by decide +kernel
theorem dX8_sailorOf_82 : decode cX8_sailorOf 82 = .ok (.iload_n 1, 1) := by decide +kernel
theorem dX8_sailorOf_83 : decode cX8_sailorOf 83 = .ok (.invokevirtual 83, 3) := by decide +kernel
theorem dX8_sailorOf_86 : decode cX8_sailorOf 86 = .ok (.ireturn, 1) := by decide +kernel
theorem dX8_sailorOf_87 : decode cX8_sailorOf 87 = .ok (.aload_n 0, 1) := by decide +kernel
theorem dX8_sailorOf_88 : decode cX8_sailorOf 88 = .ok (.iload_n 1, 1) := by decide +kernel
theorem dX8_sailorOf_89 : decode cX8_sailorOf 89 = .ok (.invokevirtual 86, 3) := by decide +kernel
theorem dX8_sailorOf_92 : decode cX8_sailorOf 92 = .ok (.ireturn, 1) := by decide +kernel
theorem dX8_sailorOf_93 : decode cX8_sailorOf 93 = .ok (.aload_n 0, 1) := by decide +kernel
theorem dX8_sailorOf_94 : decode cX8_sailorOf 94 = .ok (.iload_n 1, 1) := by decide +kernel
theorem dX8_sailorOf_95 : decode cX8_sailorOf 95 = .ok (.invokevirtual 169, 3) := by decide +kernel
theorem dX8_sailorOf_98 : decode cX8_sailorOf 98 = .ok (.ireturn, 1) := by decide +kernel
theorem dX8_sailorOf_99 : decode cX8_sailorOf 99 = .ok (.aload_n 0, 1) := by decide +kernel
theorem dX8_sailorOf_100 : decode cX8_sailorOf 100 = .ok (.iload_n 1, 1) := by decide +kernel
theorem dX8_sailorOf_101 : decode cX8_sailorOf 101 = .ok (.invokevirtual 166, 3) := by decide +kernel
theorem dX8_sailorOf_104 : decode cX8_sailorOf 104 = .ok (.invokestatic 77, 3) := by decide +kernel
theorem dX8_sailorOf_107 : decode cX8_sailorOf 107 = .ok (.ireturn, 1) := by decide +kernel
theorem dX8_sailorOf_108 : decode cX8_sailorOf 108 = .ok (.aload_n 0, 1) := by decide +kernel
theorem dX8_sailorOf_109 : decode cX8_sailorOf 109 = .ok (.iload_n 1, 1) := by decide +kernel
theorem dX8_sailorOf_110 : decode cX8_sailorOf 110 = .ok (.invokevirtual 172, 3) := by decide +kernel
theorem dX8_sailorOf_113 : decode cX8_sailorOf 113 = .ok (.ireturn, 1) := by decide +kernel
theorem dX8_sailorOf_114 : decode cX8_sailorOf 114 = .ok (.ldc 95, 2) := by decide +kernel
theorem dX8_sailorOf_116 : decode cX8_sailorOf 116 = .ok (.ireturn, 1) := by decide +kernel
theorem dX8_watchOf_0 : decode cX8_watchOf 0 = .ok (.iload_n 1, 1) := by decide +kernel
theorem dX8_watchOf_1 : decode cX8_watchOf 1 = .ok (.invokestatic 128, 3) := by decide +kernel
theorem dX8_watchOf_4 : decode cX8_watchOf 4 = .ok (.ifCond .ne 6, 3) := by decide +kernel
theorem dX8_watchOf_7 : decode cX8_watchOf 7 = .ok (.ldc 111, 2) := by decide +kernel
theorem dX8_watchOf_9 : decode cX8_watchOf 9 = .ok (.ireturn, 1) := by decide +kernel
theorem dX8_watchOf_10 : decode cX8_watchOf 10 = .ok (.iload_n 2, 1) := by decide +kernel
theorem dX8_watchOf_11 : decode cX8_watchOf 11 = .ok (.iconst 0, 1) := by decide +kernel
theorem dX8_watchOf_12 : decode cX8_watchOf 12 = .ok (.iconst 3, 1) := by decide +kernel
theorem dX8_watchOf_13 : decode cX8_watchOf 13 = .ok (.invokestatic 68, 3) := by decide +kernel
theorem dX8_watchOf_16 : decode cX8_watchOf 16 = .ok (.ifCond .ne 6, 3) := by decide +kernel
theorem dX8_watchOf_19 : decode cX8_watchOf 19 = .ok (.ldc 95, 2) := by decide +kernel
theorem dX8_watchOf_21 : decode cX8_watchOf 21 = .ok (.ireturn, 1) := by decide +kernel
theorem dX8_watchOf_22 : decode cX8_watchOf 22 = .ok (.iconst 0, 1) := by decide +kernel
theorem dX8_watchOf_23 : decode cX8_watchOf 23 = .ok (.istore_n 3, 1) := by decide +kernel
theorem dX8_watchOf_24 : decode cX8_watchOf 24 = .ok (.iconst 0, 1) := by decide +kernel
theorem dX8_watchOf_25 : decode cX8_watchOf 25 = .ok (.istore 4, 2) := by decide +kernel
theorem dX8_watchOf_27 : decode cX8_watchOf 27 = .ok (.iload 4, 2) := by decide +kernel
theorem dX8_watchOf_29 : decode cX8_watchOf 29 = .ok (.aload_n 0, 1) := by decide +kernel
theorem dX8_watchOf_30 : decode cX8_watchOf 30 = .ok (.getfield 13, 3) := by decide +kernel
theorem dX8_watchOf_33 : decode cX8_watchOf 33 = .ok (.iconst 0, 1) := by decide +kernel
theorem dX8_watchOf_34 : decode cX8_watchOf 34 = .ok (.iaload, 1) := by decide +kernel
theorem dX8_watchOf_35 : decode cX8_watchOf 35 = .ok (.if_icmp .ge 56, 3) := by decide +kernel
theorem dX8_watchOf_38 : decode cX8_watchOf 38 = .ok (.aload_n 0, 1) := by decide +kernel
theorem dX8_watchOf_39 : decode cX8_watchOf 39 = .ok (.getfield 13, 3) := by decide +kernel
theorem dX8_watchOf_42 : decode cX8_watchOf 42 = .ok (.iload 4, 2) := by decide +kernel
theorem dX8_watchOf_44 : decode cX8_watchOf 44 = .ok (.iconst 2, 1) := by decide +kernel
theorem dX8_watchOf_45 : decode cX8_watchOf 45 = .ok (.invokestatic 73, 3) := by decide +kernel
theorem dX8_watchOf_48 : decode cX8_watchOf 48 = .ok (.iaload, 1) := by decide +kernel
theorem dX8_watchOf_49 : decode cX8_watchOf 49 = .ok (.iload_n 1, 1) := by decide +kernel
theorem dX8_watchOf_50 : decode cX8_watchOf 50 = .ok (.if_icmp .ne 35, 3) := by decide +kernel
theorem dX8_watchOf_53 : decode cX8_watchOf 53 = .ok (.iload_n 3, 1) := by decide +kernel
theorem dX8_watchOf_54 : decode cX8_watchOf 54 = .ok (.iload_n 2, 1) := by decide +kernel
theorem dX8_watchOf_55 : decode cX8_watchOf 55 = .ok (.iconst 1, 1) := by decide +kernel
theorem dX8_watchOf_56 : decode cX8_watchOf 56 = .ok (.if_icmp .ne 7, 3) := by decide +kernel
theorem dX8_watchOf_59 : decode cX8_watchOf 59 = .ok (.iconst 1, 1) := by decide +kernel
theorem dX8_watchOf_60 : decode cX8_watchOf 60 = .ok (.goto 23, 3) := by decide +kernel
theorem dX8_watchOf_63 : decode cX8_watchOf 63 = .ok (.iload_n 2, 1) := by decide +kernel
theorem dX8_watchOf_64 : decode cX8_watchOf 64 = .ok (.iconst 2, 1) := by decide +kernel
theorem dX8_watchOf_65 : decode cX8_watchOf 65 = .ok (.if_icmp .ne 12, 3) := by decide +kernel
theorem dX8_watchOf_68 : decode cX8_watchOf 68 = .ok (.aload_n 0, 1) := by decide +kernel
theorem dX8_watchOf_69 : decode cX8_watchOf 69 = .ok (.iload 4, 2) := by decide +kernel
theorem dX8_watchOf_71 : decode cX8_watchOf 71 = .ok (.invokevirtual 80, 3) := by decide +kernel
theorem dX8_watchOf_74 : decode cX8_watchOf 74 = .ok (.goto 9, 3) := by decide +kernel
theorem dX8_watchOf_77 : decode cX8_watchOf 77 = .ok (.aload_n 0, 1) := by decide +kernel
theorem dX8_watchOf_78 : decode cX8_watchOf 78 = .ok (.iload 4, 2) := by decide +kernel
theorem dX8_watchOf_80 : decode cX8_watchOf 80 = .ok (.invokevirtual 83, 3) := by decide +kernel
theorem dX8_watchOf_83 : decode cX8_watchOf 83 = .ok (.iadd, 1) := by decide +kernel
theorem dX8_watchOf_84 : decode cX8_watchOf 84 = .ok (.istore_n 3, 1) := by decide +kernel
theorem dX8_watchOf_85 : decode cX8_watchOf 85 = .ok (.iinc 4 1, 3) := by decide +kernel
theorem dX8_watchOf_88 : decode cX8_watchOf 88 = .ok (.goto (-61), 3) := by decide +kernel
theorem dX8_watchOf_91 : decode cX8_watchOf 91 = .ok (.iload_n 2, 1) := by decide +kernel
theorem dX8_watchOf_92 : decode cX8_watchOf 92 = .ok (.ifCond .ne 15, 3) := by decide +kernel
theorem dX8_watchOf_95 : decode cX8_watchOf 95 = .ok (.aload_n 0, 1) := by decide +kernel
theorem dX8_watchOf_96 : decode cX8_watchOf 96 = .ok (.getfield 13, 3) := by decide +kernel
theorem dX8_watchOf_99 : decode cX8_watchOf 99 = .ok (.bipush 8, 2) := by decide +kernel
theorem dX8_watchOf_101 : decode cX8_watchOf 101 = .ok (.iload_n 1, 1) := by decide +kernel
theorem dX8_watchOf_102 : decode cX8_watchOf 102 = .ok (.iadd, 1) := by decide +kernel
theorem dX8_watchOf_103 : decode cX8_watchOf 103 = .ok (.iaload, 1) := by decide +kernel
theorem dX8_watchOf_104 : decode cX8_watchOf 104 = .ok (.goto 4, 3) := by decide +kernel
theorem dX8_watchOf_107 : decode cX8_watchOf 107 = .ok (.iload_n 3, 1) := by decide +kernel
theorem dX8_watchOf_108 : decode cX8_watchOf 108 = .ok (.ireturn, 1) := by decide +kernel
theorem dX8_sightOf_0 : decode cX8_sightOf 0 = .ok (.iload_n 1, 1) := by decide +kernel
theorem dX8_sightOf_1 : decode cX8_sightOf 1 = .ok (.iconst 0, 1) := by decide +kernel
theorem dX8_sightOf_2 : decode cX8_sightOf 2 = .ok (.aload_n 0, 1) := by decide +kernel
theorem dX8_sightOf_3 : decode cX8_sightOf 3 = .ok (.getfield 13, 3) := by decide +kernel
theorem dX8_sightOf_6 : decode cX8_sightOf 6 = .ok (.iconst 3, 1) := by decide +kernel
theorem dX8_sightOf_7 : decode cX8_sightOf 7 = .ok (.iaload, 1) := by decide +kernel
theorem dX8_sightOf_8 : decode cX8_sightOf 8 = .ok (.iconst 1, 1) := by decide +kernel
theorem dX8_sightOf_9 : decode cX8_sightOf 9 = .ok (.isub, 1) := by decide +kernel
theorem dX8_sightOf_10 : decode cX8_sightOf 10 = .ok (.invokestatic 68, 3) := by decide +kernel
theorem dX8_sightOf_13 : decode cX8_sightOf 13 = .ok (.ifCond .ne 6, 3) := by decide +kernel
theorem dX8_sightOf_16 : decode cX8_sightOf 16 = .ok (.ldc 111, 2) := by decide +kernel
theorem dX8_sightOf_18 : decode cX8_sightOf 18 = .ok (.ireturn, 1) := by decide +kernel
theorem dX8_sightOf_19 : decode cX8_sightOf 19 = .ok (.iload_n 2, 1) := by decide +kernel
theorem dX8_sightOf_20 : decode cX8_sightOf 20 = .ok (.iconst 0, 1) := by decide +kernel
theorem dX8_sightOf_21 : decode cX8_sightOf 21 = .ok (.iconst 2, 1) := by decide +kernel
theorem dX8_sightOf_22 : decode cX8_sightOf 22 = .ok (.invokestatic 68, 3) := by decide +kernel
theorem dX8_sightOf_25 : decode cX8_sightOf 25 = .ok (.ifCond .eq 19, 3) := by decide +kernel
theorem dX8_sightOf_28 : decode cX8_sightOf 28 = .ok (.aload_n 0, 1) := by decide +kernel
theorem dX8_sightOf_29 : decode cX8_sightOf 29 = .ok (.getfield 13, 3) := by decide +kernel
theorem dX8_sightOf_32 : decode cX8_sightOf 32 = .ok (.bipush 36, 2) := by decide +kernel
theorem dX8_sightOf_34 : decode cX8_sightOf 34 = .ok (.iconst 3, 1) := by decide +kernel
theorem dX8_sightOf_35 : decode cX8_sightOf 35 = .ok (.iload_n 1, 1) := by decide +kernel
theorem dX8_sightOf_36 : decode cX8_sightOf 36 = .ok (.imul, 1) := by decide +kernel
theorem dX8_sightOf_37 : decode cX8_sightOf 37 = .ok (.iadd, 1) := by decide +kernel
theorem dX8_sightOf_38 : decode cX8_sightOf 38 = .ok (.iload_n 2, 1) := by decide +kernel
theorem dX8_sightOf_39 : decode cX8_sightOf 39 = .ok (.iadd, 1) := by decide +kernel
theorem dX8_sightOf_40 : decode cX8_sightOf 40 = .ok (.iaload, 1) := by decide +kernel
theorem dX8_sightOf_41 : decode cX8_sightOf 41 = .ok (.goto 5, 3) := by decide +kernel
theorem dX8_sightOf_44 : decode cX8_sightOf 44 = .ok (.ldc 95, 2) := by decide +kernel
theorem dX8_sightOf_46 : decode cX8_sightOf 46 = .ok (.ireturn, 1) := by decide +kernel
theorem dX8_angle_0 : decode cX8_angle 0 = .ok (.aload_n 0, 1) := by decide +kernel
theorem dX8_angle_1 : decode cX8_angle 1 = .ok (.iload_n 1, 1) := by decide +kernel
theorem dX8_angle_2 : decode cX8_angle 2 = .ok (.invokevirtual 108, 3) := by decide +kernel
theorem dX8_angle_5 : decode cX8_angle 5 = .ok (.ifCond .eq 15, 3) := by decide +kernel
theorem dX8_angle_8 : decode cX8_angle 8 = .ok (.aload_n 0, 1) := by decide +kernel
theorem dX8_angle_9 : decode cX8_angle 9 = .ok (.iload_n 1, 1) := by decide +kernel
theorem dX8_angle_10 : decode cX8_angle 10 = .ok (.invokevirtual 86, 3) := by decide +kernel
theorem dX8_angle_13 : decode cX8_angle 13 = .ok (.i2f, 1) := by decide +kernel
theorem dX8_angle_14 : decode cX8_angle 14 = .ok (.ldc 89, 2) := by decide +kernel
theorem dX8_angle_16 : decode cX8_angle 16 = .ok (.fdiv, 1) := by decide +kernel
theorem dX8_angle_17 : decode cX8_angle 17 = .ok (.goto 4, 3) := by decide +kernel
theorem dX8_angle_20 : decode cX8_angle 20 = .ok (.fconst 0, 1) := by decide +kernel
theorem dX8_angle_21 : decode cX8_angle 21 = .ok (.freturn, 1) := by decide +kernel
theorem dX8_readBits_0 : decode cX8_readBits 0 = .ok (.aload_n 0, 1) := by decide +kernel
theorem dX8_readBits_1 : decode cX8_readBits 1 = .ok (.iload_n 1, 1) := by decide +kernel
theorem dX8_readBits_2 : decode cX8_readBits 2 = .ok (.invokevirtual 108, 3) := by decide +kernel
theorem dX8_readBits_5 : decode cX8_readBits 5 = .ok (.ifCond .eq 14, 3) := by decide +kernel
theorem dX8_readBits_8 : decode cX8_readBits 8 = .ok (.aload_n 0, 1) := by decide +kernel
theorem dX8_readBits_9 : decode cX8_readBits 9 = .ok (.iload_n 1, 1) := by decide +kernel
theorem dX8_readBits_10 : decode cX8_readBits 10 = .ok (.invokevirtual 140, 3) := by decide +kernel
theorem dX8_readBits_13 : decode cX8_readBits 13 = .ok (.invokestatic 144, 3) := by decide +kernel
theorem dX8_readBits_16 : decode cX8_readBits 16 = .ok (.goto 5, 3) := by decide +kernel
theorem dX8_readBits_19 : decode cX8_readBits 19 = .ok (.ldc 111, 2) := by decide +kernel
theorem dX8_readBits_21 : decode cX8_readBits 21 = .ok (.ireturn, 1) := by decide +kernel
theorem dX8_value_0 : decode cX8_value 0 = .ok (.aload_n 0, 1) := by decide +kernel
theorem dX8_value_1 : decode cX8_value 1 = .ok (.getfield 13, 3) := by decide +kernel
theorem dX8_value_4 : decode cX8_value 4 = .ok (.bipush 36, 2) := by decide +kernel
theorem dX8_value_6 : decode cX8_value 6 = .ok (.iconst 3, 1) := by decide +kernel
theorem dX8_value_7 : decode cX8_value 7 = .ok (.iload_n 1, 1) := by decide +kernel
theorem dX8_value_8 : decode cX8_value 8 = .ok (.imul, 1) := by decide +kernel
theorem dX8_value_9 : decode cX8_value 9 = .ok (.iadd, 1) := by decide +kernel
theorem dX8_value_10 : decode cX8_value 10 = .ok (.iconst 2, 1) := by decide +kernel
theorem dX8_value_11 : decode cX8_value 11 = .ok (.iadd, 1) := by decide +kernel
theorem dX8_value_12 : decode cX8_value 12 = .ok (.iaload, 1) := by decide +kernel
theorem dX8_value_13 : decode cX8_value 13 = .ok (.invokestatic 175, 3) := by decide +kernel
theorem dX8_value_16 : decode cX8_value 16 = .ok (.freturn, 1) := by decide +kernel
theorem dX8_fixed_0 : decode cX8_fixed 0 = .ok (.fconst 0, 1) := by decide +kernel
theorem dX8_fixed_1 : decode cX8_fixed 1 = .ok (.fstore_n 2, 1) := by decide +kernel
theorem dX8_fixed_2 : decode cX8_fixed 2 = .ok (.iconst 0, 1) := by decide +kernel
theorem dX8_fixed_3 : decode cX8_fixed 3 = .ok (.istore_n 3, 1) := by decide +kernel
theorem dX8_fixed_4 : decode cX8_fixed 4 = .ok (.iconst 0, 1) := by decide +kernel
theorem dX8_fixed_5 : decode cX8_fixed 5 = .ok (.istore 4, 2) := by decide +kernel
theorem dX8_fixed_7 : decode cX8_fixed 7 = .ok (.iload 4, 2) := by decide +kernel
theorem dX8_fixed_9 : decode cX8_fixed 9 = .ok (.aload_n 0, 1) := by decide +kernel
theorem dX8_fixed_10 : decode cX8_fixed 10 = .ok (.getfield 13, 3) := by decide +kernel
theorem dX8_fixed_13 : decode cX8_fixed 13 = .ok (.iconst 3, 1) := by decide +kernel
theorem dX8_fixed_14 : decode cX8_fixed 14 = .ok (.iaload, 1) := by decide +kernel
theorem dX8_fixed_15 : decode cX8_fixed 15 = .ok (.if_icmp .ge 58, 3) := by decide +kernel
theorem dX8_fixed_18 : decode cX8_fixed 18 = .ok (.iload_n 3, 1) := by decide +kernel
theorem dX8_fixed_19 : decode cX8_fixed 19 = .ok (.iconst 2, 1) := by decide +kernel
theorem dX8_fixed_20 : decode cX8_fixed 20 = .ok (.if_icmp .ge 53, 3) := by decide +kernel
theorem dX8_fixed_23 : decode cX8_fixed 23 = .ok (.aload_n 0, 1) := by decide +kernel
theorem dX8_fixed_24 : decode cX8_fixed 24 = .ok (.getfield 13, 3) := by decide +kernel
theorem dX8_fixed_27 : decode cX8_fixed 27 = .ok (.bipush 36, 2) := by decide +kernel
theorem dX8_fixed_29 : decode cX8_fixed 29 = .ok (.iconst 3, 1) := by decide +kernel
theorem dX8_fixed_30 : decode cX8_fixed 30 = .ok (.iload 4, 2) := by decide +kernel
theorem dX8_fixed_32 : decode cX8_fixed 32 = .ok (.imul, 1) := by decide +kernel
theorem dX8_fixed_33 : decode cX8_fixed 33 = .ok (.iadd, 1) := by decide +kernel
theorem dX8_fixed_34 : decode cX8_fixed 34 = .ok (.iaload, 1) := by decide +kernel
theorem dX8_fixed_35 : decode cX8_fixed 35 = .ok (.iload_n 1, 1) := by decide +kernel
theorem dX8_fixed_36 : decode cX8_fixed 36 = .ok (.if_icmp .eq 6, 3) := by decide +kernel
theorem dX8_fixed_39 : decode cX8_fixed 39 = .ok (.goto 28, 3) := by decide +kernel
theorem dX8_fixed_42 : decode cX8_fixed 42 = .ok (.iload_n 3, 1) := by decide +kernel
theorem dX8_fixed_43 : decode cX8_fixed 43 = .ok (.ifCond .ne 12, 3) := by decide +kernel
theorem dX8_fixed_46 : decode cX8_fixed 46 = .ok (.aload_n 0, 1) := by decide +kernel
theorem dX8_fixed_47 : decode cX8_fixed 47 = .ok (.iload 4, 2) := by decide +kernel
theorem dX8_fixed_49 : decode cX8_fixed 49 = .ok (.invokevirtual 178, 3) := by decide +kernel
theorem dX8_fixed_52 : decode cX8_fixed 52 = .ok (.goto 11, 3) := by decide +kernel
theorem dX8_fixed_55 : decode cX8_fixed 55 = .ok (.fload_n 2, 1) := by decide +kernel
theorem dX8_fixed_56 : decode cX8_fixed 56 = .ok (.aload_n 0, 1) := by decide +kernel
theorem dX8_fixed_57 : decode cX8_fixed 57 = .ok (.iload 4, 2) := by decide +kernel
theorem dX8_fixed_59 : decode cX8_fixed 59 = .ok (.invokevirtual 178, 3) := by decide +kernel
theorem dX8_fixed_62 : decode cX8_fixed 62 = .ok (.fadd, 1) := by decide +kernel
theorem dX8_fixed_63 : decode cX8_fixed 63 = .ok (.fstore_n 2, 1) := by decide +kernel
theorem dX8_fixed_64 : decode cX8_fixed 64 = .ok (.iinc 3 1, 3) := by decide +kernel
theorem dX8_fixed_67 : decode cX8_fixed 67 = .ok (.iinc 4 1, 3) := by decide +kernel
theorem dX8_fixed_70 : decode cX8_fixed 70 = .ok (.goto (-63), 3) := by decide +kernel
theorem dX8_fixed_73 : decode cX8_fixed 73 = .ok (.fload_n 2, 1) := by decide +kernel
theorem dX8_fixed_74 : decode cX8_fixed 74 = .ok (.fconst 2, 1) := by decide +kernel
theorem dX8_fixed_75 : decode cX8_fixed 75 = .ok (.fdiv, 1) := by decide +kernel
theorem dX8_fixed_76 : decode cX8_fixed 76 = .ok (.freturn, 1) := by decide +kernel
theorem dX8_fixBits_0 : decode cX8_fixBits 0 = .ok (.aload_n 0, 1) := by decide +kernel
theorem dX8_fixBits_1 : decode cX8_fixBits 1 = .ok (.iload_n 1, 1) := by decide +kernel
theorem dX8_fixBits_2 : decode cX8_fixBits 2 = .ok (.invokevirtual 108, 3) := by decide +kernel
theorem dX8_fixBits_5 : decode cX8_fixBits 5 = .ok (.ifCond .ne 8, 3) := by decide +kernel
theorem dX8_fixBits_8 : decode cX8_fixBits 8 = .ok (.ldc 111, 2) := by decide +kernel
theorem dX8_fixBits_10 : decode cX8_fixBits 10 = .ok (.goto 25, 3) := by decide +kernel
theorem dX8_fixBits_13 : decode cX8_fixBits 13 = .ok (.aload_n 0, 1) := by decide +kernel
theorem dX8_fixBits_14 : decode cX8_fixBits 14 = .ok (.iload_n 1, 1) := by decide +kernel
theorem dX8_fixBits_15 : decode cX8_fixBits 15 = .ok (.invokevirtual 169, 3) := by decide +kernel
theorem dX8_fixBits_18 : decode cX8_fixBits 18 = .ok (.iconst 2, 1) := by decide +kernel
theorem dX8_fixBits_19 : decode cX8_fixBits 19 = .ok (.if_icmp .ge 8, 3) := by decide +kernel
theorem dX8_fixBits_22 : decode cX8_fixBits 22 = .ok (.ldc 181, 2) := by decide +kernel
theorem dX8_fixBits_24 : decode cX8_fixBits 24 = .ok (.goto 11, 3) := by decide +kernel
theorem dX8_fixBits_27 : decode cX8_fixBits 27 = .ok (.aload_n 0, 1) := by decide +kernel
theorem dX8_fixBits_28 : decode cX8_fixBits 28 = .ok (.iload_n 1, 1) := by decide +kernel
theorem dX8_fixBits_29 : decode cX8_fixBits 29 = .ok (.invokevirtual 182, 3) := by decide +kernel
theorem dX8_fixBits_32 : decode cX8_fixBits 32 = .ok (.invokestatic 144, 3) := by decide +kernel
theorem dX8_fixBits_35 : decode cX8_fixBits 35 = .ok (.ireturn, 1) := by decide +kernel
theorem dX8_fixAgain_0 : decode cX8_fixAgain 0 = .ok (.aload_n 0, 1) := by decide +kernel
theorem dX8_fixAgain_1 : decode cX8_fixAgain 1 = .ok (.iload_n 1, 1) := by decide +kernel
theorem dX8_fixAgain_2 : decode cX8_fixAgain 2 = .ok (.invokevirtual 185, 3) := by decide +kernel
theorem dX8_fixAgain_5 : decode cX8_fixAgain 5 = .ok (.ireturn, 1) := by decide +kernel
theorem dX8_meet_0 : decode cX8_meet 0 = .ok (.aload_n 0, 1) := by decide +kernel
theorem dX8_meet_1 : decode cX8_meet 1 = .ok (.iload_n 1, 1) := by decide +kernel
theorem dX8_meet_2 : decode cX8_meet 2 = .ok (.invokevirtual 108, 3) := by decide +kernel
theorem dX8_meet_5 : decode cX8_meet 5 = .ok (.ifCond .eq 11, 3) := by decide +kernel
theorem dX8_meet_8 : decode cX8_meet 8 = .ok (.aload_n 0, 1) := by decide +kernel
theorem dX8_meet_9 : decode cX8_meet 9 = .ok (.iload_n 2, 1) := by decide +kernel
theorem dX8_meet_10 : decode cX8_meet 10 = .ok (.invokevirtual 108, 3) := by decide +kernel
theorem dX8_meet_13 : decode cX8_meet 13 = .ok (.ifCond .ne 6, 3) := by decide +kernel
theorem dX8_meet_16 : decode cX8_meet 16 = .ok (.ldc 111, 2) := by decide +kernel
theorem dX8_meet_18 : decode cX8_meet 18 = .ok (.ireturn, 1) := by decide +kernel
theorem dX8_meet_19 : decode cX8_meet 19 = .ok (.aload_n 0, 1) := by decide +kernel
theorem dX8_meet_20 : decode cX8_meet 20 = .ok (.iload_n 1, 1) := by decide +kernel
theorem dX8_meet_21 : decode cX8_meet 21 = .ok (.invokevirtual 169, 3) := by decide +kernel
theorem dX8_meet_24 : decode cX8_meet 24 = .ok (.iconst 2, 1) := by decide +kernel
theorem dX8_meet_25 : decode cX8_meet 25 = .ok (.if_icmp .lt 12, 3) := by decide +kernel
theorem dX8_meet_28 : decode cX8_meet 28 = .ok (.aload_n 0, 1) := by decide +kernel
theorem dX8_meet_29 : decode cX8_meet 29 = .ok (.iload_n 2, 1) := by decide +kernel
theorem dX8_meet_30 : decode cX8_meet 30 = .ok (.invokevirtual 169, 3) := by decide +kernel
theorem dX8_meet_33 : decode cX8_meet 33 = .ok (.iconst 2, 1) := by decide +kernel
theorem dX8_meet_34 : decode cX8_meet 34 = .ok (.if_icmp .ge 6, 3) := by decide +kernel
theorem dX8_meet_37 : decode cX8_meet 37 = .ok (.ldc 181, 2) := by decide +kernel
theorem dX8_meet_39 : decode cX8_meet 39 = .ok (.ireturn, 1) := by decide +kernel
theorem dX8_meet_40 : decode cX8_meet 40 = .ok (.aload_n 0, 1) := by decide +kernel
theorem dX8_meet_41 : decode cX8_meet 41 = .ok (.iload_n 1, 1) := by decide +kernel
theorem dX8_meet_42 : decode cX8_meet 42 = .ok (.invokevirtual 182, 3) := by decide +kernel
theorem dX8_meet_45 : decode cX8_meet 45 = .ok (.aload_n 0, 1) := by decide +kernel
theorem dX8_meet_46 : decode cX8_meet 46 = .ok (.iload_n 2, 1) := by decide +kernel
theorem dX8_meet_47 : decode cX8_meet 47 = .ok (.invokevirtual 182, 3) := by decide +kernel
theorem dX8_meet_50 : decode cX8_meet 50 = .ok (.fsub, 1) := by decide +kernel
theorem dX8_meet_51 : decode cX8_meet 51 = .ok (.fstore_n 3, 1) := by decide +kernel
theorem dX8_meet_52 : decode cX8_meet 52 = .ok (.fload_n 3, 1) := by decide +kernel
theorem dX8_meet_53 : decode cX8_meet 53 = .ok (.ldc 188, 2) := by decide +kernel
theorem dX8_meet_55 : decode cX8_meet 55 = .ok (.fcmp .g, 1) := by decide +kernel
theorem dX8_meet_56 : decode cX8_meet 56 = .ok (.ifCond .ge 14, 3) := by decide +kernel
theorem dX8_meet_59 : decode cX8_meet 59 = .ok (.fload_n 3, 1) := by decide +kernel
theorem dX8_meet_60 : decode cX8_meet 60 = .ok (.ldc 189, 2) := by decide +kernel
theorem dX8_meet_62 : decode cX8_meet 62 = .ok (.fcmp .l, 1) := by decide +kernel
theorem dX8_meet_63 : decode cX8_meet 63 = .ok (.ifCond .le 7, 3) := by decide +kernel
theorem dX8_meet_66 : decode cX8_meet 66 = .ok (.iconst 1, 1) := by decide +kernel
theorem dX8_meet_67 : decode cX8_meet 67 = .ok (.goto 4, 3) := by decide +kernel
theorem dX8_meet_70 : decode cX8_meet 70 = .ok (.iconst 0, 1) := by decide +kernel
theorem dX8_meet_71 : decode cX8_meet 71 = .ok (.ireturn, 1) := by decide +kernel
theorem dX8_unlike_0 : decode cX8_unlike 0 = .ok (.aload_n 0, 1) := by decide +kernel
theorem dX8_unlike_1 : decode cX8_unlike 1 = .ok (.iload_n 1, 1) := by decide +kernel
theorem dX8_unlike_2 : decode cX8_unlike 2 = .ok (.invokevirtual 108, 3) := by decide +kernel
theorem dX8_unlike_5 : decode cX8_unlike 5 = .ok (.ifCond .eq 20, 3) := by decide +kernel
theorem dX8_unlike_8 : decode cX8_unlike 8 = .ok (.aload_n 0, 1) := by decide +kernel
theorem dX8_unlike_9 : decode cX8_unlike 9 = .ok (.iload_n 2, 1) := by decide +kernel
theorem dX8_unlike_10 : decode cX8_unlike 10 = .ok (.invokevirtual 108, 3) := by decide +kernel
theorem dX8_unlike_13 : decode cX8_unlike 13 = .ok (.ifCond .eq 12, 3) := by decide +kernel
theorem dX8_unlike_16 : decode cX8_unlike 16 = .ok (.aload_n 0, 1) := by decide +kernel
theorem dX8_unlike_17 : decode cX8_unlike 17 = .ok (.iload_n 1, 1) := by decide +kernel
theorem dX8_unlike_18 : decode cX8_unlike 18 = .ok (.iload_n 2, 1) := by decide +kernel
theorem dX8_unlike_19 : decode cX8_unlike 19 = .ok (.invokevirtual 163, 3) := by decide +kernel
theorem dX8_unlike_22 : decode cX8_unlike 22 = .ok (.goto 5, 3) := by decide +kernel
theorem dX8_unlike_25 : decode cX8_unlike 25 = .ok (.ldc 111, 2) := by decide +kernel
theorem dX8_unlike_27 : decode cX8_unlike 27 = .ok (.ireturn, 1) := by decide +kernel
theorem dX8_unlikeAgain_0 : decode cX8_unlikeAgain 0 = .ok (.aload_n 0, 1) := by decide +kernel
theorem dX8_unlikeAgain_1 : decode cX8_unlikeAgain 1 = .ok (.iload_n 1, 1) := by decide +kernel
theorem dX8_unlikeAgain_2 : decode cX8_unlikeAgain 2 = .ok (.iload_n 2, 1) := by decide +kernel
theorem dX8_unlikeAgain_3 : decode cX8_unlikeAgain 3 = .ok (.invokevirtual 190, 3) := by decide +kernel
theorem dX8_unlikeAgain_6 : decode cX8_unlikeAgain 6 = .ok (.ireturn, 1) := by decide +kernel
theorem dX8_closest_0 : decode cX8_closest 0 = .ok (.aload_n 0, 1) := by decide +kernel
theorem dX8_closest_1 : decode cX8_closest 1 = .ok (.iload_n 1, 1) := by decide +kernel
theorem dX8_closest_2 : decode cX8_closest 2 = .ok (.invokevirtual 108, 3) := by decide +kernel
theorem dX8_closest_5 : decode cX8_closest 5 = .ok (.ifCond .eq 11, 3) := by decide +kernel
theorem dX8_closest_8 : decode cX8_closest 8 = .ok (.aload_n 0, 1) := by decide +kernel
theorem dX8_closest_9 : decode cX8_closest 9 = .ok (.iload_n 2, 1) := by decide +kernel
theorem dX8_closest_10 : decode cX8_closest 10 = .ok (.invokevirtual 108, 3) := by decide +kernel
theorem dX8_closest_13 : decode cX8_closest 13 = .ok (.ifCond .ne 6, 3) := by decide +kernel
theorem dX8_closest_16 : decode cX8_closest 16 = .ok (.ldc 111, 2) := by decide +kernel
theorem dX8_closest_18 : decode cX8_closest 18 = .ok (.ireturn, 1) := by decide +kernel
theorem dX8_closest_19 : decode cX8_closest 19 = .ok (.iconst 0, 1) := by decide +kernel
theorem dX8_closest_20 : decode cX8_closest 20 = .ok (.istore_n 3, 1) := by decide +kernel
theorem dX8_closest_21 : decode cX8_closest 21 = .ok (.bipush 17, 2) := by decide +kernel
theorem dX8_closest_23 : decode cX8_closest 23 = .ok (.istore 4, 2) := by decide +kernel
theorem dX8_closest_25 : decode cX8_closest 25 = .ok (.aload_n 0, 1) := by decide +kernel
theorem dX8_closest_26 : decode cX8_closest 26 = .ok (.getfield 13, 3) := by decide +kernel
theorem dX8_closest_29 : decode cX8_closest 29 = .ok (.iload_n 1, 1) := by decide +kernel
theorem dX8_closest_30 : decode cX8_closest 30 = .ok (.iconst 0, 1) := by decide +kernel
theorem dX8_closest_31 : decode cX8_closest 31 = .ok (.invokestatic 73, 3) := by decide +kernel
theorem dX8_closest_34 : decode cX8_closest 34 = .ok (.iaload, 1) := by decide +kernel
theorem dX8_closest_35 : decode cX8_closest 35 = .ok (.istore 5, 2) := by decide +kernel
theorem dX8_closest_37 : decode cX8_closest 37 = .ok (.iconst 0, 1) := by decide +kernel
theorem dX8_closest_38 : decode cX8_closest 38 = .ok (.istore 6, 2) := by decide +kernel
theorem dX8_closest_40 : decode cX8_closest 40 = .ok (.iload 6, 2) := by decide +kernel
theorem dX8_closest_42 : decode cX8_closest 42 = .ok (.bipush 16, 2) := by decide +kernel
theorem dX8_closest_44 : decode cX8_closest 44 = .ok (.if_icmp .ge 64, 3) := by decide +kernel
theorem dX8_closest_47 : decode cX8_closest 47 = .ok (.iload 5, 2) := by decide +kernel
theorem dX8_closest_49 : decode cX8_closest 49 = .ok (.aload_n 0, 1) := by decide +kernel
theorem dX8_closest_50 : decode cX8_closest 50 = .ok (.getfield 13, 3) := by decide +kernel
theorem dX8_closest_53 : decode cX8_closest 53 = .ok (.iload_n 2, 1) := by decide +kernel
theorem dX8_closest_54 : decode cX8_closest 54 = .ok (.iconst 0, 1) := by decide +kernel
theorem dX8_closest_55 : decode cX8_closest 55 = .ok (.invokestatic 73, 3) := by decide +kernel
theorem dX8_closest_58 : decode cX8_closest 58 = .ok (.iaload, 1) := by decide +kernel
theorem dX8_closest_59 : decode cX8_closest 59 = .ok (.ixor, 1) := by decide +kernel
theorem dX8_closest_60 : decode cX8_closest 60 = .ok (.invokestatic 77, 3) := by decide +kernel
theorem dX8_closest_63 : decode cX8_closest 63 = .ok (.istore 7, 2) := by decide +kernel
theorem dX8_closest_65 : decode cX8_closest 65 = .ok (.iload 7, 2) := by decide +kernel
theorem dX8_closest_67 : decode cX8_closest 67 = .ok (.iload 4, 2) := by decide +kernel
theorem dX8_closest_69 : decode cX8_closest 69 = .ok (.if_icmp .ge 8, 3) := by decide +kernel
theorem dX8_closest_72 : decode cX8_closest 72 = .ok (.iload 6, 2) := by decide +kernel
theorem dX8_closest_74 : decode cX8_closest 74 = .ok (.goto 4, 3) := by decide +kernel
theorem dX8_closest_77 : decode cX8_closest 77 = .ok (.iload_n 3, 1) := by decide +kernel
theorem dX8_closest_78 : decode cX8_closest 78 = .ok (.istore_n 3, 1) := by decide +kernel
theorem dX8_closest_79 : decode cX8_closest 79 = .ok (.iload 7, 2) := by decide +kernel
theorem dX8_closest_81 : decode cX8_closest 81 = .ok (.iload 4, 2) := by decide +kernel
theorem dX8_closest_83 : decode cX8_closest 83 = .ok (.if_icmp .ge 8, 3) := by decide +kernel
theorem dX8_closest_86 : decode cX8_closest 86 = .ok (.iload 7, 2) := by decide +kernel
theorem dX8_closest_88 : decode cX8_closest 88 = .ok (.goto 5, 3) := by decide +kernel
theorem dX8_closest_91 : decode cX8_closest 91 = .ok (.iload 4, 2) := by decide +kernel
theorem dX8_closest_93 : decode cX8_closest 93 = .ok (.istore 4, 2) := by decide +kernel
theorem dX8_closest_95 : decode cX8_closest 95 = .ok (.iload 5, 2) := by decide +kernel
theorem dX8_closest_97 : decode cX8_closest 97 = .ok (.invokestatic 153, 3) := by decide +kernel
theorem dX8_closest_100 : decode cX8_closest 100 = .ok (.istore 5, 2) := by decide +kernel
theorem dX8_closest_102 : decode cX8_closest 102 = .ok (.iinc 6 1, 3) := by decide +kernel
theorem dX8_closest_105 : decode cX8_closest 105 = .ok (.goto (-65), 3) := by decide +kernel
theorem dX8_closest_108 : decode cX8_closest 108 = .ok (.iload_n 3, 1) := by decide +kernel
theorem dX8_closest_109 : decode cX8_closest 109 = .ok (.ireturn, 1) := by decide +kernel
theorem dX8_would_0 : decode cX8_would 0 = .ok (.aload_n 0, 1) := by decide +kernel
theorem dX8_would_1 : decode cX8_would 1 = .ok (.iload_n 1, 1) := by decide +kernel
theorem dX8_would_2 : decode cX8_would 2 = .ok (.invokevirtual 108, 3) := by decide +kernel
theorem dX8_would_5 : decode cX8_would 5 = .ok (.ifCond .ne 6, 3) := by decide +kernel
theorem dX8_would_8 : decode cX8_would 8 = .ok (.ldc 111, 2) := by decide +kernel
theorem dX8_would_10 : decode cX8_would 10 = .ok (.ireturn, 1) := by decide +kernel
theorem dX8_would_11 : decode cX8_would 11 = .ok (.iload_n 2, 1) := by decide +kernel
theorem dX8_would_12 : decode cX8_would 12 = .ok (.iconst 0, 1) := by decide +kernel
theorem dX8_would_13 : decode cX8_would 13 = .ok (.bipush 40, 2) := by decide +kernel
theorem dX8_would_15 : decode cX8_would 15 = .ok (.invokestatic 68, 3) := by decide +kernel
theorem dX8_would_18 : decode cX8_would 18 = .ok (.ifCond .ne 6, 3) := by decide +kernel
theorem dX8_would_21 : decode cX8_would 21 = .ok (.ldc 95, 2) := by decide +kernel
theorem dX8_would_23 : decode cX8_would 23 = .ok (.ireturn, 1) := by decide +kernel
theorem dX8_would_24 : decode cX8_would 24 = .ok (.aload_n 0, 1) := by decide +kernel
theorem dX8_would_25 : decode cX8_would 25 = .ok (.getfield 23, 3) := by decide +kernel
theorem dX8_would_28 : decode cX8_would 28 = .ok (.aload_n 0, 1) := by decide +kernel
theorem dX8_would_29 : decode cX8_would 29 = .ok (.getfield 13, 3) := by decide +kernel
theorem dX8_would_32 : decode cX8_would 32 = .ok (.invokestatic 61, 3) := by decide +kernel
theorem dX8_would_35 : decode cX8_would 35 = .ok (.iconst 0, 1) := by decide +kernel
theorem dX8_would_36 : decode cX8_would 36 = .ok (.istore_n 3, 1) := by decide +kernel
theorem dX8_would_37 : decode cX8_would 37 = .ok (.iconst 0, 1) := by decide +kernel
theorem dX8_would_38 : decode cX8_would 38 = .ok (.istore 4, 2) := by decide +kernel
theorem dX8_would_40 : decode cX8_would 40 = .ok (.iload 4, 2) := by decide +kernel
theorem dX8_would_42 : decode cX8_would 42 = .ok (.iload_n 2, 1) := by decide +kernel
theorem dX8_would_43 : decode cX8_would 43 = .ok (.if_icmp .ge 14, 3) := by decide +kernel
theorem dX8_would_46 : decode cX8_would 46 = .ok (.aload_n 0, 1) := by decide +kernel
theorem dX8_would_47 : decode cX8_would 47 = .ok (.invokevirtual 160, 3) := by decide +kernel
theorem dX8_would_50 : decode cX8_would 50 = .ok (.istore_n 3, 1) := by decide +kernel
theorem dX8_would_51 : decode cX8_would 51 = .ok (.iinc 4 1, 3) := by decide +kernel
theorem dX8_would_54 : decode cX8_would 54 = .ok (.goto (-14), 3) := by decide +kernel
theorem dX8_would_57 : decode cX8_would 57 = .ok (.aload_n 0, 1) := by decide +kernel
theorem dX8_would_58 : decode cX8_would 58 = .ok (.iload_n 1, 1) := by decide +kernel
theorem dX8_would_59 : decode cX8_would 59 = .ok (.invokevirtual 86, 3) := by decide +kernel
theorem dX8_would_62 : decode cX8_would 62 = .ok (.istore 4, 2) := by decide +kernel
theorem dX8_would_64 : decode cX8_would 64 = .ok (.aload_n 0, 1) := by decide +kernel
theorem dX8_would_65 : decode cX8_would 65 = .ok (.getfield 13, 3) := by decide +kernel
theorem dX8_would_68 : decode cX8_would 68 = .ok (.aload_n 0, 1) := by decide +kernel
theorem dX8_would_69 : decode cX8_would 69 = .ok (.getfield 23, 3) := by decide +kernel
theorem dX8_would_72 : decode cX8_would 72 = .ok (.invokestatic 61, 3) := by decide +kernel
theorem dX8_would_75 : decode cX8_would 75 = .ok (.iload 4, 2) := by decide +kernel
theorem dX8_would_77 : decode cX8_would 77 = .ok (.ireturn, 1) := by decide +kernel
theorem dX8_sinks_0 : decode cX8_sinks 0 = .ok (.aload_n 0, 1) := by decide +kernel
theorem dX8_sinks_1 : decode cX8_sinks 1 = .ok (.iload_n 1, 1) := by decide +kernel
theorem dX8_sinks_2 : decode cX8_sinks 2 = .ok (.invokevirtual 108, 3) := by decide +kernel
theorem dX8_sinks_5 : decode cX8_sinks 5 = .ok (.ifCond .ne 6, 3) := by decide +kernel
theorem dX8_sinks_8 : decode cX8_sinks 8 = .ok (.ldc 111, 2) := by decide +kernel
theorem dX8_sinks_10 : decode cX8_sinks 10 = .ok (.ireturn, 1) := by decide +kernel
theorem dX8_sinks_11 : decode cX8_sinks 11 = .ok (.iconst 0, 1) := by decide +kernel
theorem dX8_sinks_12 : decode cX8_sinks 12 = .ok (.istore_n 2, 1) := by decide +kernel
theorem dX8_sinks_13 : decode cX8_sinks 13 = .ok (.iload_n 2, 1) := by decide +kernel
theorem dX8_sinks_14 : decode cX8_sinks 14 = .ok (.bipush 40, 2) := by decide +kernel
theorem dX8_sinks_16 : decode cX8_sinks 16 = .ok (.if_icmp .gt 20, 3) := by decide +kernel
theorem dX8_sinks_19 : decode cX8_sinks 19 = .ok (.aload_n 0, 1) := by decide +kernel
theorem dX8_sinks_20 : decode cX8_sinks 20 = .ok (.iload_n 1, 1) := by decide +kernel
theorem dX8_sinks_21 : decode cX8_sinks 21 = .ok (.iload_n 2, 1) := by decide +kernel
theorem dX8_sinks_22 : decode cX8_sinks 22 = .ok (.invokevirtual 193, 3) := by decide +kernel
theorem dX8_sinks_25 : decode cX8_sinks 25 = .ok (.ifCond .gt 5, 3) := by decide +kernel
theorem dX8_sinks_28 : decode cX8_sinks 28 = .ok (.iload_n 2, 1) := by decide +kernel
theorem dX8_sinks_29 : decode cX8_sinks 29 = .ok (.ireturn, 1) := by decide +kernel
theorem dX8_sinks_30 : decode cX8_sinks 30 = .ok (.iinc 2 1, 3) := by decide +kernel
theorem dX8_sinks_33 : decode cX8_sinks 33 = .ok (.goto (-20), 3) := by decide +kernel
theorem dX8_sinks_36 : decode cX8_sinks 36 = .ok (.ldc 181, 2) := by decide +kernel
theorem dX8_sinks_38 : decode cX8_sinks 38 = .ok (.ireturn, 1) := by decide +kernel
theorem dX8_messes_0 : decode cX8_messes 0 = .ok (.iconst 0, 1) := by decide +kernel
theorem dX8_messes_1 : decode cX8_messes 1 = .ok (.istore_n 1, 1) := by decide +kernel
theorem dX8_messes_2 : decode cX8_messes 2 = .ok (.iconst 0, 1) := by decide +kernel
theorem dX8_messes_3 : decode cX8_messes 3 = .ok (.istore_n 2, 1) := by decide +kernel
theorem dX8_messes_4 : decode cX8_messes 4 = .ok (.iload_n 2, 1) := by decide +kernel
theorem dX8_messes_5 : decode cX8_messes 5 = .ok (.aload_n 0, 1) := by decide +kernel
theorem dX8_messes_6 : decode cX8_messes 6 = .ok (.getfield 13, 3) := by decide +kernel
theorem dX8_messes_9 : decode cX8_messes 9 = .ok (.iconst 0, 1) := by decide +kernel
theorem dX8_messes_10 : decode cX8_messes 10 = .ok (.iaload, 1) := by decide +kernel
theorem dX8_messes_11 : decode cX8_messes 11 = .ok (.if_icmp .ge 31, 3) := by decide +kernel
theorem dX8_messes_14 : decode cX8_messes 14 = .ok (.iload_n 1, 1) := by decide +kernel
theorem dX8_messes_15 : decode cX8_messes 15 = .ok (.aload_n 0, 1) := by decide +kernel
theorem dX8_messes_16 : decode cX8_messes 16 = .ok (.iload_n 2, 1) := by decide +kernel
theorem dX8_messes_17 : decode cX8_messes 17 = .ok (.invokevirtual 172, 3) := by decide +kernel
theorem dX8_messes_20 : decode cX8_messes 20 = .ok (.iconst 1, 1) := by decide +kernel
theorem dX8_messes_21 : decode cX8_messes 21 = .ok (.iload_n 2, 1) := by decide +kernel
theorem dX8_messes_22 : decode cX8_messes 22 = .ok (.ishl, 1) := by decide +kernel
theorem dX8_messes_23 : decode cX8_messes 23 = .ok (.iconst 1, 1) := by decide +kernel
theorem dX8_messes_24 : decode cX8_messes 24 = .ok (.isub, 1) := by decide +kernel
theorem dX8_messes_25 : decode cX8_messes 25 = .ok (.iand, 1) := by decide +kernel
theorem dX8_messes_26 : decode cX8_messes 26 = .ok (.ifCond .ne 7, 3) := by decide +kernel
theorem dX8_messes_29 : decode cX8_messes 29 = .ok (.iconst 1, 1) := by decide +kernel
theorem dX8_messes_30 : decode cX8_messes 30 = .ok (.goto 4, 3) := by decide +kernel
theorem dX8_messes_33 : decode cX8_messes 33 = .ok (.iconst 0, 1) := by decide +kernel
theorem dX8_messes_34 : decode cX8_messes 34 = .ok (.iadd, 1) := by decide +kernel
theorem dX8_messes_35 : decode cX8_messes 35 = .ok (.istore_n 1, 1) := by decide +kernel
theorem dX8_messes_36 : decode cX8_messes 36 = .ok (.iinc 2 1, 3) := by decide +kernel
theorem dX8_messes_39 : decode cX8_messes 39 = .ok (.goto (-35), 3) := by decide +kernel
theorem dX8_messes_42 : decode cX8_messes 42 = .ok (.iload_n 1, 1) := by decide +kernel
theorem dX8_messes_43 : decode cX8_messes 43 = .ok (.ireturn, 1) := by decide +kernel
theorem dX8_highest_0 : decode cX8_highest 0 = .ok (.iconst 0, 1) := by decide +kernel
theorem dX8_highest_1 : decode cX8_highest 1 = .ok (.istore_n 2, 1) := by decide +kernel
theorem dX8_highest_2 : decode cX8_highest 2 = .ok (.iload_n 2, 1) := by decide +kernel
theorem dX8_highest_3 : decode cX8_highest 3 = .ok (.aload_n 0, 1) := by decide +kernel
theorem dX8_highest_4 : decode cX8_highest 4 = .ok (.getfield 13, 3) := by decide +kernel
theorem dX8_highest_7 : decode cX8_highest 7 = .ok (.iconst 0, 1) := by decide +kernel
theorem dX8_highest_8 : decode cX8_highest 8 = .ok (.iaload, 1) := by decide +kernel
theorem dX8_highest_9 : decode cX8_highest 9 = .ok (.if_icmp .ge 106, 3) := by decide +kernel
theorem dX8_highest_12 : decode cX8_highest 12 = .ok (.iconst 0, 1) := by decide +kernel
theorem dX8_highest_13 : decode cX8_highest 13 = .ok (.istore_n 3, 1) := by decide +kernel
theorem dX8_highest_14 : decode cX8_highest 14 = .ok (.iconst 0, 1) := by decide +kernel
theorem dX8_highest_15 : decode cX8_highest 15 = .ok (.istore 4, 2) := by decide +kernel
theorem dX8_highest_17 : decode cX8_highest 17 = .ok (.iload 4, 2) := by decide +kernel
theorem dX8_highest_19 : decode cX8_highest 19 = .ok (.aload_n 0, 1) := by decide +kernel
theorem dX8_highest_20 : decode cX8_highest 20 = .ok (.getfield 13, 3) := by decide +kernel
theorem dX8_highest_23 : decode cX8_highest 23 = .ok (.iconst 0, 1) := by decide +kernel
theorem dX8_highest_24 : decode cX8_highest 24 = .ok (.iaload, 1) := by decide +kernel
theorem dX8_highest_25 : decode cX8_highest 25 = .ok (.if_icmp .ge 77, 3) := by decide +kernel
theorem dX8_highest_28 : decode cX8_highest 28 = .ok (.aload_n 0, 1) := by decide +kernel
theorem dX8_highest_29 : decode cX8_highest 29 = .ok (.iload 4, 2) := by decide +kernel
theorem dX8_highest_31 : decode cX8_highest 31 = .ok (.invokevirtual 86, 3) := by decide +kernel
theorem dX8_highest_34 : decode cX8_highest 34 = .ok (.aload_n 0, 1) := by decide +kernel
theorem dX8_highest_35 : decode cX8_highest 35 = .ok (.iload_n 2, 1) := by decide +kernel
theorem dX8_highest_36 : decode cX8_highest 36 = .ok (.invokevirtual 86, 3) := by decide +kernel
theorem dX8_highest_39 : decode cX8_highest 39 = .ok (.isub, 1) := by decide +kernel
theorem dX8_highest_40 : decode cX8_highest 40 = .ok (.istore 5, 2) := by decide +kernel
theorem dX8_highest_42 : decode cX8_highest 42 = .ok (.iload 5, 2) := by decide +kernel
theorem dX8_highest_44 : decode cX8_highest 44 = .ok (.ifCond .eq 8, 3) := by decide +kernel
theorem dX8_highest_47 : decode cX8_highest 47 = .ok (.iload 5, 2) := by decide +kernel
theorem dX8_highest_49 : decode cX8_highest 49 = .ok (.goto 15, 3) := by decide +kernel
theorem dX8_highest_52 : decode cX8_highest 52 = .ok (.aload_n 0, 1) := by decide +kernel
theorem dX8_highest_53 : decode cX8_highest 53 = .ok (.iload 4, 2) := by decide +kernel
theorem dX8_highest_55 : decode cX8_highest 55 = .ok (.invokevirtual 80, 3) := by decide +kernel
theorem dX8_highest_58 : decode cX8_highest 58 = .ok (.aload_n 0, 1) := by decide +kernel
theorem dX8_highest_59 : decode cX8_highest 59 = .ok (.iload_n 2, 1) := by decide +kernel
theorem dX8_highest_60 : decode cX8_highest 60 = .ok (.invokevirtual 80, 3) := by decide +kernel
theorem dX8_highest_63 : decode cX8_highest 63 = .ok (.isub, 1) := by decide +kernel
theorem dX8_highest_64 : decode cX8_highest 64 = .ok (.istore 5, 2) := by decide +kernel
theorem dX8_highest_66 : decode cX8_highest 66 = .ok (.iload_n 3, 1) := by decide +kernel
theorem dX8_highest_67 : decode cX8_highest 67 = .ok (.iload 4, 2) := by decide +kernel
theorem dX8_highest_69 : decode cX8_highest 69 = .ok (.iload_n 2, 1) := by decide +kernel
theorem dX8_highest_70 : decode cX8_highest 70 = .ok (.if_icmp .eq 23, 3) := by decide +kernel
theorem dX8_highest_73 : decode cX8_highest 73 = .ok (.iload 5, 2) := by decide +kernel
theorem dX8_highest_75 : decode cX8_highest 75 = .ok (.ifCond .gt 14, 3) := by decide +kernel
theorem dX8_highest_78 : decode cX8_highest 78 = .ok (.iload 5, 2) := by decide +kernel
theorem dX8_highest_80 : decode cX8_highest 80 = .ok (.ifCond .ne 13, 3) := by decide +kernel
theorem dX8_highest_83 : decode cX8_highest 83 = .ok (.iload 4, 2) := by decide +kernel
theorem dX8_highest_85 : decode cX8_highest 85 = .ok (.iload_n 2, 1) := by decide +kernel
theorem dX8_highest_86 : decode cX8_highest 86 = .ok (.if_icmp .ge 7, 3) := by decide +kernel
theorem dX8_highest_89 : decode cX8_highest 89 = .ok (.iconst 1, 1) := by decide +kernel
theorem dX8_highest_90 : decode cX8_highest 90 = .ok (.goto 4, 3) := by decide +kernel
theorem dX8_highest_93 : decode cX8_highest 93 = .ok (.iconst 0, 1) := by decide +kernel
theorem dX8_highest_94 : decode cX8_highest 94 = .ok (.iadd, 1) := by decide +kernel
theorem dX8_highest_95 : decode cX8_highest 95 = .ok (.istore_n 3, 1) := by decide +kernel
theorem dX8_highest_96 : decode cX8_highest 96 = .ok (.iinc 4 1, 3) := by decide +kernel
theorem dX8_highest_99 : decode cX8_highest 99 = .ok (.goto (-82), 3) := by decide +kernel
theorem dX8_highest_102 : decode cX8_highest 102 = .ok (.iload_n 3, 1) := by decide +kernel
theorem dX8_highest_103 : decode cX8_highest 103 = .ok (.iload_n 1, 1) := by decide +kernel
theorem dX8_highest_104 : decode cX8_highest 104 = .ok (.if_icmp .ne 5, 3) := by decide +kernel
theorem dX8_highest_107 : decode cX8_highest 107 = .ok (.iload_n 2, 1) := by decide +kernel
theorem dX8_highest_108 : decode cX8_highest 108 = .ok (.ireturn, 1) := by decide +kernel
theorem dX8_highest_109 : decode cX8_highest 109 = .ok (.iinc 2 1, 3) := by decide +kernel
theorem dX8_highest_112 : decode cX8_highest 112 = .ok (.goto (-110), 3) := by decide +kernel
theorem dX8_highest_115 : decode cX8_highest 115 = .ok (.ldc 111, 2) := by decide +kernel
theorem dX8_highest_117 : decode cX8_highest 117 = .ok (.ireturn, 1) := by decide +kernel
theorem dX8_ranked_0 : decode cX8_ranked 0 = .ok (.iconst 0, 1) := by decide +kernel
theorem dX8_ranked_1 : decode cX8_ranked 1 = .ok (.istore_n 2, 1) := by decide +kernel
theorem dX8_ranked_2 : decode cX8_ranked 2 = .ok (.iload_n 2, 1) := by decide +kernel
theorem dX8_ranked_3 : decode cX8_ranked 3 = .ok (.aload_n 0, 1) := by decide +kernel
theorem dX8_ranked_4 : decode cX8_ranked 4 = .ok (.getfield 13, 3) := by decide +kernel
theorem dX8_ranked_7 : decode cX8_ranked 7 = .ok (.iconst 3, 1) := by decide +kernel
theorem dX8_ranked_8 : decode cX8_ranked 8 = .ok (.iaload, 1) := by decide +kernel
theorem dX8_ranked_9 : decode cX8_ranked 9 = .ok (.if_icmp .ge 82, 3) := by decide +kernel
theorem dX8_ranked_12 : decode cX8_ranked 12 = .ok (.iconst 0, 1) := by decide +kernel
theorem dX8_ranked_13 : decode cX8_ranked 13 = .ok (.istore_n 3, 1) := by decide +kernel
theorem dX8_ranked_14 : decode cX8_ranked 14 = .ok (.iconst 0, 1) := by decide +kernel
theorem dX8_ranked_15 : decode cX8_ranked 15 = .ok (.istore 4, 2) := by decide +kernel
theorem dX8_ranked_17 : decode cX8_ranked 17 = .ok (.iload 4, 2) := by decide +kernel
theorem dX8_ranked_19 : decode cX8_ranked 19 = .ok (.aload_n 0, 1) := by decide +kernel
theorem dX8_ranked_20 : decode cX8_ranked 20 = .ok (.getfield 13, 3) := by decide +kernel
theorem dX8_ranked_23 : decode cX8_ranked 23 = .ok (.iconst 3, 1) := by decide +kernel
theorem dX8_ranked_24 : decode cX8_ranked 24 = .ok (.iaload, 1) := by decide +kernel
theorem dX8_ranked_25 : decode cX8_ranked 25 = .ok (.if_icmp .ge 53, 3) := by decide +kernel
theorem dX8_ranked_28 : decode cX8_ranked 28 = .ok (.iload_n 3, 1) := by decide +kernel
theorem dX8_ranked_29 : decode cX8_ranked 29 = .ok (.aload_n 0, 1) := by decide +kernel
theorem dX8_ranked_30 : decode cX8_ranked 30 = .ok (.iload 4, 2) := by decide +kernel
theorem dX8_ranked_32 : decode cX8_ranked 32 = .ok (.invokevirtual 178, 3) := by decide +kernel
theorem dX8_ranked_35 : decode cX8_ranked 35 = .ok (.aload_n 0, 1) := by decide +kernel
theorem dX8_ranked_36 : decode cX8_ranked 36 = .ok (.iload_n 2, 1) := by decide +kernel
theorem dX8_ranked_37 : decode cX8_ranked 37 = .ok (.invokevirtual 178, 3) := by decide +kernel
theorem dX8_ranked_40 : decode cX8_ranked 40 = .ok (.fcmp .l, 1) := by decide +kernel
theorem dX8_ranked_41 : decode cX8_ranked 41 = .ok (.ifCond .gt 24, 3) := by decide +kernel
theorem dX8_ranked_44 : decode cX8_ranked 44 = .ok (.aload_n 0, 1) := by decide +kernel
theorem dX8_ranked_45 : decode cX8_ranked 45 = .ok (.iload 4, 2) := by decide +kernel
theorem dX8_ranked_47 : decode cX8_ranked 47 = .ok (.invokevirtual 178, 3) := by decide +kernel
theorem dX8_ranked_50 : decode cX8_ranked 50 = .ok (.aload_n 0, 1) := by decide +kernel
theorem dX8_ranked_51 : decode cX8_ranked 51 = .ok (.iload_n 2, 1) := by decide +kernel
theorem dX8_ranked_52 : decode cX8_ranked 52 = .ok (.invokevirtual 178, 3) := by decide +kernel
theorem dX8_ranked_55 : decode cX8_ranked 55 = .ok (.fcmp .l, 1) := by decide +kernel
theorem dX8_ranked_56 : decode cX8_ranked 56 = .ok (.ifCond .ne 13, 3) := by decide +kernel
theorem dX8_ranked_59 : decode cX8_ranked 59 = .ok (.iload 4, 2) := by decide +kernel
theorem dX8_ranked_61 : decode cX8_ranked 61 = .ok (.iload_n 2, 1) := by decide +kernel
theorem dX8_ranked_62 : decode cX8_ranked 62 = .ok (.if_icmp .ge 7, 3) := by decide +kernel
theorem dX8_ranked_65 : decode cX8_ranked 65 = .ok (.iconst 1, 1) := by decide +kernel
theorem dX8_ranked_66 : decode cX8_ranked 66 = .ok (.goto 4, 3) := by decide +kernel
theorem dX8_ranked_69 : decode cX8_ranked 69 = .ok (.iconst 0, 1) := by decide +kernel
theorem dX8_ranked_70 : decode cX8_ranked 70 = .ok (.iadd, 1) := by decide +kernel
theorem dX8_ranked_71 : decode cX8_ranked 71 = .ok (.istore_n 3, 1) := by decide +kernel
theorem dX8_ranked_72 : decode cX8_ranked 72 = .ok (.iinc 4 1, 3) := by decide +kernel
theorem dX8_ranked_75 : decode cX8_ranked 75 = .ok (.goto (-58), 3) := by decide +kernel
theorem dX8_ranked_78 : decode cX8_ranked 78 = .ok (.iload_n 3, 1) := by decide +kernel
theorem dX8_ranked_79 : decode cX8_ranked 79 = .ok (.iload_n 1, 1) := by decide +kernel
theorem dX8_ranked_80 : decode cX8_ranked 80 = .ok (.if_icmp .ne 5, 3) := by decide +kernel
theorem dX8_ranked_83 : decode cX8_ranked 83 = .ok (.iload_n 2, 1) := by decide +kernel
theorem dX8_ranked_84 : decode cX8_ranked 84 = .ok (.ireturn, 1) := by decide +kernel
theorem dX8_ranked_85 : decode cX8_ranked 85 = .ok (.iinc 2 1, 3) := by decide +kernel
theorem dX8_ranked_88 : decode cX8_ranked 88 = .ok (.goto (-86), 3) := by decide +kernel
theorem dX8_ranked_91 : decode cX8_ranked 91 = .ok (.ldc 111, 2) := by decide +kernel
theorem dX8_ranked_93 : decode cX8_ranked 93 = .ok (.ireturn, 1) := by decide +kernel
theorem dX8_packed_0 : decode cX8_packed 0 = .ok (.lconst 0, 1) := by decide +kernel
theorem dX8_packed_1 : decode cX8_packed 1 = .ok (.lstore_n 1, 1) := by decide +kernel
theorem dX8_packed_2 : decode cX8_packed 2 = .ok (.iconst 3, 1) := by decide +kernel
theorem dX8_packed_3 : decode cX8_packed 3 = .ok (.istore_n 3, 1) := by decide +kernel
theorem dX8_packed_4 : decode cX8_packed 4 = .ok (.iload_n 3, 1) := by decide +kernel
theorem dX8_packed_5 : decode cX8_packed 5 = .ok (.ifCond .lt 40, 3) := by decide +kernel
theorem dX8_packed_8 : decode cX8_packed 8 = .ok (.lload_n 1, 1) := by decide +kernel
theorem dX8_packed_9 : decode cX8_packed 9 = .ok (.bipush 16, 2) := by decide +kernel
theorem dX8_packed_11 : decode cX8_packed 11 = .ok (.lshl, 1) := by decide +kernel
theorem dX8_packed_12 : decode cX8_packed 12 = .ok (.iload_n 3, 1) := by decide +kernel
theorem dX8_packed_13 : decode cX8_packed 13 = .ok (.aload_n 0, 1) := by decide +kernel
theorem dX8_packed_14 : decode cX8_packed 14 = .ok (.getfield 13, 3) := by decide +kernel
theorem dX8_packed_17 : decode cX8_packed 17 = .ok (.iconst 0, 1) := by decide +kernel
theorem dX8_packed_18 : decode cX8_packed 18 = .ok (.iaload, 1) := by decide +kernel
theorem dX8_packed_19 : decode cX8_packed 19 = .ok (.if_icmp .ge 16, 3) := by decide +kernel
theorem dX8_packed_22 : decode cX8_packed 22 = .ok (.aload_n 0, 1) := by decide +kernel
theorem dX8_packed_23 : decode cX8_packed 23 = .ok (.getfield 13, 3) := by decide +kernel
theorem dX8_packed_26 : decode cX8_packed 26 = .ok (.iload_n 3, 1) := by decide +kernel
theorem dX8_packed_27 : decode cX8_packed 27 = .ok (.iconst 0, 1) := by decide +kernel
theorem dX8_packed_28 : decode cX8_packed 28 = .ok (.invokestatic 73, 3) := by decide +kernel
theorem dX8_packed_31 : decode cX8_packed 31 = .ok (.iaload, 1) := by decide +kernel
theorem dX8_packed_32 : decode cX8_packed 32 = .ok (.goto 4, 3) := by decide +kernel
theorem dX8_packed_35 : decode cX8_packed 35 = .ok (.iconst 0, 1) := by decide +kernel
theorem dX8_packed_36 : decode cX8_packed 36 = .ok (.i2l, 1) := by decide +kernel
theorem dX8_packed_37 : decode cX8_packed 37 = .ok (.lor, 1) := by decide +kernel
theorem dX8_packed_38 : decode cX8_packed 38 = .ok (.lstore_n 1, 1) := by decide +kernel
theorem dX8_packed_39 : decode cX8_packed 39 = .ok (.iinc 3 (-1), 3) := by decide +kernel
theorem dX8_packed_42 : decode cX8_packed 42 = .ok (.goto (-38), 3) := by decide +kernel
theorem dX8_packed_45 : decode cX8_packed 45 = .ok (.lload_n 1, 1) := by decide +kernel
theorem dX8_packed_46 : decode cX8_packed 46 = .ok (.lreturn, 1) := by decide +kernel
theorem dX8_isCounted_0 : decode cX8_isCounted 0 = .ok (.aload_n 0, 1) := by decide +kernel
theorem dX8_isCounted_1 : decode cX8_isCounted 1 = .ok (.getfield 13, 3) := by decide +kernel
theorem dX8_isCounted_4 : decode cX8_isCounted 4 = .ok (.iconst 5, 1) := by decide +kernel
theorem dX8_isCounted_5 : decode cX8_isCounted 5 = .ok (.iaload, 1) := by decide +kernel
theorem dX8_isCounted_6 : decode cX8_isCounted 6 = .ok (.aload_n 0, 1) := by decide +kernel
theorem dX8_isCounted_7 : decode cX8_isCounted 7 = .ok (.invokevirtual 156, 3) := by decide +kernel
theorem dX8_isCounted_10 : decode cX8_isCounted 10 = .ok (.aload_n 0, 1) := by decide +kernel
theorem dX8_isCounted_11 : decode cX8_isCounted 11 = .ok (.getfield 13, 3) := by decide +kernel
theorem dX8_isCounted_14 : decode cX8_isCounted 14 = .ok (.bipush 6, 2) := by decide +kernel
theorem dX8_isCounted_16 : decode cX8_isCounted 16 = .ok (.iaload, 1) := by decide +kernel
theorem dX8_isCounted_17 : decode cX8_isCounted 17 = .ok (.iadd, 1) := by decide +kernel
theorem dX8_isCounted_18 : decode cX8_isCounted 18 = .ok (.aload_n 0, 1) := by decide +kernel
theorem dX8_isCounted_19 : decode cX8_isCounted 19 = .ok (.getfield 13, 3) := by decide +kernel
theorem dX8_isCounted_22 : decode cX8_isCounted 22 = .ok (.bipush 7, 2) := by decide +kernel
theorem dX8_isCounted_24 : decode cX8_isCounted 24 = .ok (.iaload, 1) := by decide +kernel
theorem dX8_isCounted_25 : decode cX8_isCounted 25 = .ok (.iadd, 1) := by decide +kernel
theorem dX8_isCounted_26 : decode cX8_isCounted 26 = .ok (.if_icmp .ne 7, 3) := by decide +kernel
theorem dX8_isCounted_29 : decode cX8_isCounted 29 = .ok (.iconst 1, 1) := by decide +kernel
theorem dX8_isCounted_30 : decode cX8_isCounted 30 = .ok (.goto 4, 3) := by decide +kernel
theorem dX8_isCounted_33 : decode cX8_isCounted 33 = .ok (.iconst 0, 1) := by decide +kernel
theorem dX8_isCounted_34 : decode cX8_isCounted 34 = .ok (.ireturn, 1) := by decide +kernel
theorem dX8_meanAngle_0 : decode cX8_meanAngle 0 = .ok (.iconst 0, 1) := by decide +kernel
theorem dX8_meanAngle_1 : decode cX8_meanAngle 1 = .ok (.istore_n 1, 1) := by decide +kernel
theorem dX8_meanAngle_2 : decode cX8_meanAngle 2 = .ok (.iconst 0, 1) := by decide +kernel
theorem dX8_meanAngle_3 : decode cX8_meanAngle 3 = .ok (.istore_n 2, 1) := by decide +kernel
theorem dX8_meanAngle_4 : decode cX8_meanAngle 4 = .ok (.iload_n 2, 1) := by decide +kernel
theorem dX8_meanAngle_5 : decode cX8_meanAngle 5 = .ok (.aload_n 0, 1) := by decide +kernel
theorem dX8_meanAngle_6 : decode cX8_meanAngle 6 = .ok (.getfield 13, 3) := by decide +kernel
theorem dX8_meanAngle_9 : decode cX8_meanAngle 9 = .ok (.iconst 0, 1) := by decide +kernel
theorem dX8_meanAngle_10 : decode cX8_meanAngle 10 = .ok (.iaload, 1) := by decide +kernel
theorem dX8_meanAngle_11 : decode cX8_meanAngle 11 = .ok (.if_icmp .ge 17, 3) := by decide +kernel
theorem dX8_meanAngle_14 : decode cX8_meanAngle 14 = .ok (.iload_n 1, 1) := by decide +kernel
theorem dX8_meanAngle_15 : decode cX8_meanAngle 15 = .ok (.aload_n 0, 1) := by decide +kernel
theorem dX8_meanAngle_16 : decode cX8_meanAngle 16 = .ok (.iload_n 2, 1) := by decide +kernel
theorem dX8_meanAngle_17 : decode cX8_meanAngle 17 = .ok (.invokevirtual 86, 3) := by decide +kernel
theorem dX8_meanAngle_20 : decode cX8_meanAngle 20 = .ok (.iadd, 1) := by decide +kernel
theorem dX8_meanAngle_21 : decode cX8_meanAngle 21 = .ok (.istore_n 1, 1) := by decide +kernel
theorem dX8_meanAngle_22 : decode cX8_meanAngle 22 = .ok (.iinc 2 1, 3) := by decide +kernel
theorem dX8_meanAngle_25 : decode cX8_meanAngle 25 = .ok (.goto (-21), 3) := by decide +kernel
theorem dX8_meanAngle_28 : decode cX8_meanAngle 28 = .ok (.aload_n 0, 1) := by decide +kernel
theorem dX8_meanAngle_29 : decode cX8_meanAngle 29 = .ok (.getfield 13, 3) := by decide +kernel
theorem dX8_meanAngle_32 : decode cX8_meanAngle 32 = .ok (.iconst 0, 1) := by decide +kernel
theorem dX8_meanAngle_33 : decode cX8_meanAngle 33 = .ok (.iaload, 1) := by decide +kernel
theorem dX8_meanAngle_34 : decode cX8_meanAngle 34 = .ok (.ifCond .ne 7, 3) := by decide +kernel
theorem dX8_meanAngle_37 : decode cX8_meanAngle 37 = .ok (.dconst 0, 1) := by decide +kernel
theorem dX8_meanAngle_38 : decode cX8_meanAngle 38 = .ok (.goto 13, 3) := by decide +kernel
theorem dX8_meanAngle_41 : decode cX8_meanAngle 41 = .ok (.iload_n 1, 1) := by decide +kernel
theorem dX8_meanAngle_42 : decode cX8_meanAngle 42 = .ok (.i2d, 1) := by decide +kernel
theorem dX8_meanAngle_43 : decode cX8_meanAngle 43 = .ok (.aload_n 0, 1) := by decide +kernel
theorem dX8_meanAngle_44 : decode cX8_meanAngle 44 = .ok (.getfield 13, 3) := by decide +kernel
theorem dX8_meanAngle_47 : decode cX8_meanAngle 47 = .ok (.iconst 0, 1) := by decide +kernel
theorem dX8_meanAngle_48 : decode cX8_meanAngle 48 = .ok (.iaload, 1) := by decide +kernel
theorem dX8_meanAngle_49 : decode cX8_meanAngle 49 = .ok (.i2d, 1) := by decide +kernel
theorem dX8_meanAngle_50 : decode cX8_meanAngle 50 = .ok (.ddiv, 1) := by decide +kernel
theorem dX8_meanAngle_51 : decode cX8_meanAngle 51 = .ok (.dreturn, 1) := by decide +kernel
theorem dX8_account_0 : decode cX8_account 0 = .ok (.iload_n 1, 1) := by decide +kernel
theorem dX8_account_1 : decode cX8_account 1 = .ok (.tableswitch 90 0 10 #[59, 59, 59, 59, 59, 66, 71, 71, 71, 80, 85], 59) := by decide +kernel
theorem dX8_account_60 : decode cX8_account 60 = .ok (.aload_n 0, 1) := by decide +kernel
theorem dX8_account_61 : decode cX8_account 61 = .ok (.getfield 13, 3) := by decide +kernel
theorem dX8_account_64 : decode cX8_account 64 = .ok (.iload_n 1, 1) := by decide +kernel
theorem dX8_account_65 : decode cX8_account 65 = .ok (.iaload, 1) := by decide +kernel
theorem dX8_account_66 : decode cX8_account 66 = .ok (.ireturn, 1) := by decide +kernel
theorem dX8_account_67 : decode cX8_account 67 = .ok (.aload_n 0, 1) := by decide +kernel
theorem dX8_account_68 : decode cX8_account 68 = .ok (.invokevirtual 156, 3) := by decide +kernel
theorem dX8_account_71 : decode cX8_account 71 = .ok (.ireturn, 1) := by decide +kernel
theorem dX8_account_72 : decode cX8_account 72 = .ok (.aload_n 0, 1) := by decide +kernel
theorem dX8_account_73 : decode cX8_account 73 = .ok (.getfield 13, 3) := by decide +kernel
theorem dX8_account_76 : decode cX8_account 76 = .ok (.iload_n 1, 1) := by decide +kernel
theorem dX8_account_77 : decode cX8_account 77 = .ok (.iconst 1, 1) := by decide +kernel
theorem dX8_account_78 : decode cX8_account 78 = .ok (.isub, 1) := by decide +kernel
theorem dX8_account_79 : decode cX8_account 79 = .ok (.iaload, 1) := by decide +kernel
theorem dX8_account_80 : decode cX8_account 80 = .ok (.ireturn, 1) := by decide +kernel
theorem dX8_account_81 : decode cX8_account 81 = .ok (.aload_n 0, 1) := by decide +kernel
theorem dX8_account_82 : decode cX8_account 82 = .ok (.getfield 196, 3) := by decide +kernel
theorem dX8_account_85 : decode cX8_account 85 = .ok (.ireturn, 1) := by decide +kernel
theorem dX8_account_86 : decode cX8_account 86 = .ok (.aload_n 0, 1) := by decide +kernel
theorem dX8_account_87 : decode cX8_account 87 = .ok (.getfield 65, 3) := by decide +kernel
theorem dX8_account_90 : decode cX8_account 90 = .ok (.ireturn, 1) := by decide +kernel
theorem dX8_account_91 : decode cX8_account 91 = .ok (.ldc 95, 2) := by decide +kernel
theorem dX8_account_93 : decode cX8_account 93 = .ok (.ireturn, 1) := by decide +kernel
theorem dX8_writes_0 : decode cX8_writes 0 = .ok (.aload_n 0, 1) := by decide +kernel
theorem dX8_writes_1 : decode cX8_writes 1 = .ok (.getfield 32, 3) := by decide +kernel
theorem dX8_writes_4 : decode cX8_writes 4 = .ok (.aload_n 0, 1) := by decide +kernel
theorem dX8_writes_5 : decode cX8_writes 5 = .ok (.getfield 199, 3) := by decide +kernel
theorem dX8_writes_8 : decode cX8_writes 8 = .ok (.iload_n 1, 1) := by decide +kernel
theorem dX8_writes_9 : decode cX8_writes 9 = .ok (.iastore, 1) := by decide +kernel
theorem dX8_writes_10 : decode cX8_writes 10 = .ok (.aload_n 0, 1) := by decide +kernel
theorem dX8_writes_11 : decode cX8_writes 11 = .ok (.dup, 1) := by decide +kernel
theorem dX8_writes_12 : decode cX8_writes 12 = .ok (.getfield 199, 3) := by decide +kernel
theorem dX8_writes_15 : decode cX8_writes 15 = .ok (.iconst 1, 1) := by decide +kernel
theorem dX8_writes_16 : decode cX8_writes 16 = .ok (.iadd, 1) := by decide +kernel
theorem dX8_writes_17 : decode cX8_writes 17 = .ok (.putfield 199, 3) := by decide +kernel
theorem dX8_writes_20 : decode cX8_writes 20 = .ok (.return_, 1) := by decide +kernel
theorem dX8_writesNumber_0 : decode cX8_writesNumber 0 = .ok (.iload_n 1, 1) := by decide +kernel
theorem dX8_writesNumber_1 : decode cX8_writesNumber 1 = .ok (.ifCond .ge 8, 3) := by decide +kernel
theorem dX8_writesNumber_4 : decode cX8_writesNumber 4 = .ok (.iload_n 1, 1) := by decide +kernel
theorem dX8_writesNumber_5 : decode cX8_writesNumber 5 = .ok (.ineg, 1) := by decide +kernel
theorem dX8_writesNumber_6 : decode cX8_writesNumber 6 = .ok (.goto 4, 3) := by decide +kernel
theorem dX8_writesNumber_9 : decode cX8_writesNumber 9 = .ok (.iload_n 1, 1) := by decide +kernel
theorem dX8_writesNumber_10 : decode cX8_writesNumber 10 = .ok (.istore_n 2, 1) := by decide +kernel
theorem dX8_writesNumber_11 : decode cX8_writesNumber 11 = .ok (.iconst 1, 1) := by decide +kernel
theorem dX8_writesNumber_12 : decode cX8_writesNumber 12 = .ok (.istore_n 3, 1) := by decide +kernel
theorem dX8_writesNumber_13 : decode cX8_writesNumber 13 = .ok (.iload_n 1, 1) := by decide +kernel
theorem dX8_writesNumber_14 : decode cX8_writesNumber 14 = .ok (.ifCond .ge 9, 3) := by decide +kernel
theorem dX8_writesNumber_17 : decode cX8_writesNumber 17 = .ok (.aload_n 0, 1) := by decide +kernel
theorem dX8_writesNumber_18 : decode cX8_writesNumber 18 = .ok (.bipush 45, 2) := by decide +kernel
theorem dX8_writesNumber_20 : decode cX8_writesNumber 20 = .ok (.invokevirtual 202, 3) := by decide +kernel
theorem dX8_writesNumber_23 : decode cX8_writesNumber 23 = .ok (.iload_n 2, 1) := by decide +kernel
theorem dX8_writesNumber_24 : decode cX8_writesNumber 24 = .ok (.iload_n 3, 1) := by decide +kernel
theorem dX8_writesNumber_25 : decode cX8_writesNumber 25 = .ok (.idiv, 1) := by decide +kernel
theorem dX8_writesNumber_26 : decode cX8_writesNumber 26 = .ok (.bipush 10, 2) := by decide +kernel
theorem dX8_writesNumber_28 : decode cX8_writesNumber 28 = .ok (.if_icmp .lt 11, 3) := by decide +kernel
theorem dX8_writesNumber_31 : decode cX8_writesNumber 31 = .ok (.iload_n 3, 1) := by decide +kernel
theorem dX8_writesNumber_32 : decode cX8_writesNumber 32 = .ok (.bipush 10, 2) := by decide +kernel
theorem dX8_writesNumber_34 : decode cX8_writesNumber 34 = .ok (.imul, 1) := by decide +kernel
theorem dX8_writesNumber_35 : decode cX8_writesNumber 35 = .ok (.istore_n 3, 1) := by decide +kernel
theorem dX8_writesNumber_36 : decode cX8_writesNumber 36 = .ok (.goto (-13), 3) := by decide +kernel
theorem dX8_writesNumber_39 : decode cX8_writesNumber 39 = .ok (.iload_n 3, 1) := by decide +kernel
theorem dX8_writesNumber_40 : decode cX8_writesNumber 40 = .ok (.ifCond .le 24, 3) := by decide +kernel
theorem dX8_writesNumber_43 : decode cX8_writesNumber 43 = .ok (.aload_n 0, 1) := by decide +kernel
theorem dX8_writesNumber_44 : decode cX8_writesNumber 44 = .ok (.bipush 48, 2) := by decide +kernel
theorem dX8_writesNumber_46 : decode cX8_writesNumber 46 = .ok (.iload_n 2, 1) := by decide +kernel
theorem dX8_writesNumber_47 : decode cX8_writesNumber 47 = .ok (.iload_n 3, 1) := by decide +kernel
theorem dX8_writesNumber_48 : decode cX8_writesNumber 48 = .ok (.idiv, 1) := by decide +kernel
theorem dX8_writesNumber_49 : decode cX8_writesNumber 49 = .ok (.bipush 10, 2) := by decide +kernel
theorem dX8_writesNumber_51 : decode cX8_writesNumber 51 = .ok (.irem, 1) := by decide +kernel
theorem dX8_writesNumber_52 : decode cX8_writesNumber 52 = .ok (.iadd, 1) := by decide +kernel
theorem dX8_writesNumber_53 : decode cX8_writesNumber 53 = .ok (.invokevirtual 202, 3) := by decide +kernel
theorem dX8_writesNumber_56 : decode cX8_writesNumber 56 = .ok (.iload_n 3, 1) := by decide +kernel
theorem dX8_writesNumber_57 : decode cX8_writesNumber 57 = .ok (.bipush 10, 2) := by decide +kernel
theorem dX8_writesNumber_59 : decode cX8_writesNumber 59 = .ok (.idiv, 1) := by decide +kernel
theorem dX8_writesNumber_60 : decode cX8_writesNumber 60 = .ok (.istore_n 3, 1) := by decide +kernel
theorem dX8_writesNumber_61 : decode cX8_writesNumber 61 = .ok (.goto (-22), 3) := by decide +kernel
theorem dX8_writesNumber_64 : decode cX8_writesNumber 64 = .ok (.return_, 1) := by decide +kernel
theorem dX8_write_0 : decode cX8_write 0 = .ok (.aload_n 0, 1) := by decide +kernel
theorem dX8_write_1 : decode cX8_write 1 = .ok (.iload_n 1, 1) := by decide +kernel
theorem dX8_write_2 : decode cX8_write 2 = .ok (.invokevirtual 108, 3) := by decide +kernel
theorem dX8_write_5 : decode cX8_write 5 = .ok (.ifCond .ne 6, 3) := by decide +kernel
theorem dX8_write_8 : decode cX8_write 8 = .ok (.ldc 111, 2) := by decide +kernel
theorem dX8_write_10 : decode cX8_write 10 = .ok (.ireturn, 1) := by decide +kernel
theorem dX8_write_11 : decode cX8_write 11 = .ok (.aload_n 0, 1) := by decide +kernel
theorem dX8_write_12 : decode cX8_write 12 = .ok (.iconst 0, 1) := by decide +kernel
theorem dX8_write_13 : decode cX8_write 13 = .ok (.putfield 199, 3) := by decide +kernel
theorem dX8_write_16 : decode cX8_write 16 = .ok (.bipush 12, 2) := by decide +kernel
theorem dX8_write_18 : decode cX8_write 18 = .ok (.istore_n 2, 1) := by decide +kernel
theorem dX8_write_19 : decode cX8_write 19 = .ok (.iload_n 2, 1) := by decide +kernel
theorem dX8_write_20 : decode cX8_write 20 = .ok (.ifCond .lt 49, 3) := by decide +kernel
theorem dX8_write_23 : decode cX8_write 23 = .ok (.aload_n 0, 1) := by decide +kernel
theorem dX8_write_24 : decode cX8_write 24 = .ok (.getfield 13, 3) := by decide +kernel
theorem dX8_write_27 : decode cX8_write 27 = .ok (.iload_n 1, 1) := by decide +kernel
theorem dX8_write_28 : decode cX8_write 28 = .ok (.iconst 0, 1) := by decide +kernel
theorem dX8_write_29 : decode cX8_write 29 = .ok (.invokestatic 73, 3) := by decide +kernel
theorem dX8_write_32 : decode cX8_write 32 = .ok (.iaload, 1) := by decide +kernel
theorem dX8_write_33 : decode cX8_write 33 = .ok (.iload_n 2, 1) := by decide +kernel
theorem dX8_write_34 : decode cX8_write 34 = .ok (.ishr, 1) := by decide +kernel
theorem dX8_write_35 : decode cX8_write 35 = .ok (.bipush 15, 2) := by decide +kernel
theorem dX8_write_37 : decode cX8_write 37 = .ok (.iand, 1) := by decide +kernel
theorem dX8_write_38 : decode cX8_write 38 = .ok (.istore_n 3, 1) := by decide +kernel
theorem dX8_write_39 : decode cX8_write 39 = .ok (.aload_n 0, 1) := by decide +kernel
theorem dX8_write_40 : decode cX8_write 40 = .ok (.iload_n 3, 1) := by decide +kernel
theorem dX8_write_41 : decode cX8_write 41 = .ok (.bipush 10, 2) := by decide +kernel
theorem dX8_write_43 : decode cX8_write 43 = .ok (.if_icmp .ge 10, 3) := by decide +kernel
theorem dX8_write_46 : decode cX8_write 46 = .ok (.bipush 48, 2) := by decide +kernel
theorem dX8_write_48 : decode cX8_write 48 = .ok (.iload_n 3, 1) := by decide +kernel
theorem dX8_write_49 : decode cX8_write 49 = .ok (.iadd, 1) := by decide +kernel
theorem dX8_write_50 : decode cX8_write 50 = .ok (.goto 10, 3) := by decide +kernel
theorem dX8_write_53 : decode cX8_write 53 = .ok (.bipush 97, 2) := by decide +kernel
theorem dX8_write_55 : decode cX8_write 55 = .ok (.iload_n 3, 1) := by decide +kernel
theorem dX8_write_56 : decode cX8_write 56 = .ok (.iadd, 1) := by decide +kernel
theorem dX8_write_57 : decode cX8_write 57 = .ok (.bipush 10, 2) := by decide +kernel
theorem dX8_write_59 : decode cX8_write 59 = .ok (.isub, 1) := by decide +kernel
theorem dX8_write_60 : decode cX8_write 60 = .ok (.invokevirtual 202, 3) := by decide +kernel
theorem dX8_write_63 : decode cX8_write 63 = .ok (.iinc 2 (-4), 3) := by decide +kernel
theorem dX8_write_66 : decode cX8_write 66 = .ok (.goto (-47), 3) := by decide +kernel
theorem dX8_write_69 : decode cX8_write 69 = .ok (.aload_n 0, 1) := by decide +kernel
theorem dX8_write_70 : decode cX8_write 70 = .ok (.getfield 13, 3) := by decide +kernel
theorem dX8_write_73 : decode cX8_write 73 = .ok (.iload_n 1, 1) := by decide +kernel
theorem dX8_write_74 : decode cX8_write 74 = .ok (.iconst 1, 1) := by decide +kernel
theorem dX8_write_75 : decode cX8_write 75 = .ok (.invokestatic 73, 3) := by decide +kernel
theorem dX8_write_78 : decode cX8_write 78 = .ok (.iaload, 1) := by decide +kernel
theorem dX8_write_79 : decode cX8_write 79 = .ok (.ifCond .le 23, 3) := by decide +kernel
theorem dX8_write_82 : decode cX8_write 82 = .ok (.aload_n 0, 1) := by decide +kernel
theorem dX8_write_83 : decode cX8_write 83 = .ok (.bipush 42, 2) := by decide +kernel
theorem dX8_write_85 : decode cX8_write 85 = .ok (.invokevirtual 202, 3) := by decide +kernel
theorem dX8_write_88 : decode cX8_write 88 = .ok (.aload_n 0, 1) := by decide +kernel
theorem dX8_write_89 : decode cX8_write 89 = .ok (.aload_n 0, 1) := by decide +kernel
theorem dX8_write_90 : decode cX8_write 90 = .ok (.getfield 13, 3) := by decide +kernel
theorem dX8_write_93 : decode cX8_write 93 = .ok (.iload_n 1, 1) := by decide +kernel
theorem dX8_write_94 : decode cX8_write 94 = .ok (.iconst 1, 1) := by decide +kernel
theorem dX8_write_95 : decode cX8_write 95 = .ok (.invokestatic 73, 3) := by decide +kernel
theorem dX8_write_98 : decode cX8_write 98 = .ok (.iaload, 1) := by decide +kernel
theorem dX8_write_99 : decode cX8_write 99 = .ok (.invokevirtual 205, 3) := by decide +kernel
theorem dX8_write_102 : decode cX8_write 102 = .ok (.aload_n 0, 1) := by decide +kernel
theorem dX8_write_103 : decode cX8_write 103 = .ok (.bipush 64, 2) := by decide +kernel
theorem dX8_write_105 : decode cX8_write 105 = .ok (.invokevirtual 202, 3) := by decide +kernel
theorem dX8_write_108 : decode cX8_write 108 = .ok (.aload_n 0, 1) := by decide +kernel
theorem dX8_write_109 : decode cX8_write 109 = .ok (.aload_n 0, 1) := by decide +kernel
theorem dX8_write_110 : decode cX8_write 110 = .ok (.getfield 13, 3) := by decide +kernel
theorem dX8_write_113 : decode cX8_write 113 = .ok (.iload_n 1, 1) := by decide +kernel
theorem dX8_write_114 : decode cX8_write 114 = .ok (.iconst 2, 1) := by decide +kernel
theorem dX8_write_115 : decode cX8_write 115 = .ok (.invokestatic 73, 3) := by decide +kernel
theorem dX8_write_118 : decode cX8_write 118 = .ok (.iaload, 1) := by decide +kernel
theorem dX8_write_119 : decode cX8_write 119 = .ok (.invokevirtual 205, 3) := by decide +kernel
theorem dX8_write_122 : decode cX8_write 122 = .ok (.aload_n 0, 1) := by decide +kernel
theorem dX8_write_123 : decode cX8_write 123 = .ok (.bipush 62, 2) := by decide +kernel
theorem dX8_write_125 : decode cX8_write 125 = .ok (.invokevirtual 202, 3) := by decide +kernel
theorem dX8_write_128 : decode cX8_write 128 = .ok (.aload_n 0, 1) := by decide +kernel
theorem dX8_write_129 : decode cX8_write 129 = .ok (.aload_n 0, 1) := by decide +kernel
theorem dX8_write_130 : decode cX8_write 130 = .ok (.iload_n 1, 1) := by decide +kernel
theorem dX8_write_131 : decode cX8_write 131 = .ok (.invokevirtual 86, 3) := by decide +kernel
theorem dX8_write_134 : decode cX8_write 134 = .ok (.invokevirtual 205, 3) := by decide +kernel
theorem dX8_write_137 : decode cX8_write 137 = .ok (.aload_n 0, 1) := by decide +kernel
theorem dX8_write_138 : decode cX8_write 138 = .ok (.getfield 199, 3) := by decide +kernel
theorem dX8_write_141 : decode cX8_write 141 = .ok (.ireturn, 1) := by decide +kernel
theorem dX8_writeLog_0 : decode cX8_writeLog 0 = .ok (.aload_n 0, 1) := by decide +kernel
theorem dX8_writeLog_1 : decode cX8_writeLog 1 = .ok (.iconst 0, 1) := by decide +kernel
theorem dX8_writeLog_2 : decode cX8_writeLog 2 = .ok (.putfield 199, 3) := by decide +kernel
theorem dX8_writeLog_5 : decode cX8_writeLog 5 = .ok (.iconst 0, 1) := by decide +kernel
theorem dX8_writeLog_6 : decode cX8_writeLog 6 = .ok (.istore_n 1, 1) := by decide +kernel
theorem dX8_writeLog_7 : decode cX8_writeLog 7 = .ok (.iload_n 1, 1) := by decide +kernel
theorem dX8_writeLog_8 : decode cX8_writeLog 8 = .ok (.aload_n 0, 1) := by decide +kernel
theorem dX8_writeLog_9 : decode cX8_writeLog 9 = .ok (.getfield 13, 3) := by decide +kernel
theorem dX8_writeLog_12 : decode cX8_writeLog 12 = .ok (.iconst 3, 1) := by decide +kernel
theorem dX8_writeLog_13 : decode cX8_writeLog 13 = .ok (.iaload, 1) := by decide +kernel
theorem dX8_writeLog_14 : decode cX8_writeLog 14 = .ok (.if_icmp .ge 57, 3) := by decide +kernel
theorem dX8_writeLog_17 : decode cX8_writeLog 17 = .ok (.iload_n 1, 1) := by decide +kernel
theorem dX8_writeLog_18 : decode cX8_writeLog 18 = .ok (.ifCond .le 9, 3) := by decide +kernel
theorem dX8_writeLog_21 : decode cX8_writeLog 21 = .ok (.aload_n 0, 1) := by decide +kernel
theorem dX8_writeLog_22 : decode cX8_writeLog 22 = .ok (.bipush 32, 2) := by decide +kernel
theorem dX8_writeLog_24 : decode cX8_writeLog 24 = .ok (.invokevirtual 202, 3) := by decide +kernel
theorem dX8_writeLog_27 : decode cX8_writeLog 27 = .ok (.aload_n 0, 1) := by decide +kernel
theorem dX8_writeLog_28 : decode cX8_writeLog 28 = .ok (.aload_n 0, 1) := by decide +kernel
theorem dX8_writeLog_29 : decode cX8_writeLog 29 = .ok (.getfield 13, 3) := by decide +kernel
theorem dX8_writeLog_32 : decode cX8_writeLog 32 = .ok (.bipush 36, 2) := by decide +kernel
theorem dX8_writeLog_34 : decode cX8_writeLog 34 = .ok (.iconst 3, 1) := by decide +kernel
theorem dX8_writeLog_35 : decode cX8_writeLog 35 = .ok (.iload_n 1, 1) := by decide +kernel
theorem dX8_writeLog_36 : decode cX8_writeLog 36 = .ok (.imul, 1) := by decide +kernel
theorem dX8_writeLog_37 : decode cX8_writeLog 37 = .ok (.iadd, 1) := by decide +kernel
theorem dX8_writeLog_38 : decode cX8_writeLog 38 = .ok (.iaload, 1) := by decide +kernel
theorem dX8_writeLog_39 : decode cX8_writeLog 39 = .ok (.invokevirtual 205, 3) := by decide +kernel
theorem dX8_writeLog_42 : decode cX8_writeLog 42 = .ok (.aload_n 0, 1) := by decide +kernel
theorem dX8_writeLog_43 : decode cX8_writeLog 43 = .ok (.bipush 58, 2) := by decide +kernel
theorem dX8_writeLog_45 : decode cX8_writeLog 45 = .ok (.invokevirtual 202, 3) := by decide +kernel
theorem dX8_writeLog_48 : decode cX8_writeLog 48 = .ok (.aload_n 0, 1) := by decide +kernel
theorem dX8_writeLog_49 : decode cX8_writeLog 49 = .ok (.aload_n 0, 1) := by decide +kernel
theorem dX8_writeLog_50 : decode cX8_writeLog 50 = .ok (.getfield 13, 3) := by decide +kernel
theorem dX8_writeLog_53 : decode cX8_writeLog 53 = .ok (.bipush 36, 2) := by decide +kernel
theorem dX8_writeLog_55 : decode cX8_writeLog 55 = .ok (.iconst 3, 1) := by decide +kernel
theorem dX8_writeLog_56 : decode cX8_writeLog 56 = .ok (.iload_n 1, 1) := by decide +kernel
theorem dX8_writeLog_57 : decode cX8_writeLog 57 = .ok (.imul, 1) := by decide +kernel
theorem dX8_writeLog_58 : decode cX8_writeLog 58 = .ok (.iadd, 1) := by decide +kernel
theorem dX8_writeLog_59 : decode cX8_writeLog 59 = .ok (.iconst 1, 1) := by decide +kernel
theorem dX8_writeLog_60 : decode cX8_writeLog 60 = .ok (.iadd, 1) := by decide +kernel
theorem dX8_writeLog_61 : decode cX8_writeLog 61 = .ok (.iaload, 1) := by decide +kernel
theorem dX8_writeLog_62 : decode cX8_writeLog 62 = .ok (.invokevirtual 205, 3) := by decide +kernel
theorem dX8_writeLog_65 : decode cX8_writeLog 65 = .ok (.iinc 1 1, 3) := by decide +kernel
theorem dX8_writeLog_68 : decode cX8_writeLog 68 = .ok (.goto (-61), 3) := by decide +kernel
theorem dX8_writeLog_71 : decode cX8_writeLog 71 = .ok (.aload_n 0, 1) := by decide +kernel
theorem dX8_writeLog_72 : decode cX8_writeLog 72 = .ok (.getfield 199, 3) := by decide +kernel
theorem dX8_writeLog_75 : decode cX8_writeLog 75 = .ok (.ireturn, 1) := by decide +kernel
theorem dX8_written_0 : decode cX8_written 0 = .ok (.iload_n 1, 1) := by decide +kernel
theorem dX8_written_1 : decode cX8_written 1 = .ok (.iconst 0, 1) := by decide +kernel
theorem dX8_written_2 : decode cX8_written 2 = .ok (.aload_n 0, 1) := by decide +kernel
theorem dX8_written_3 : decode cX8_written 3 = .ok (.getfield 199, 3) := by decide +kernel
theorem dX8_written_6 : decode cX8_written 6 = .ok (.iconst 1, 1) := by decide +kernel
theorem dX8_written_7 : decode cX8_written 7 = .ok (.isub, 1) := by decide +kernel
theorem dX8_written_8 : decode cX8_written 8 = .ok (.invokestatic 68, 3) := by decide +kernel
theorem dX8_written_11 : decode cX8_written 11 = .ok (.ifCond .eq 12, 3) := by decide +kernel
theorem dX8_written_14 : decode cX8_written 14 = .ok (.aload_n 0, 1) := by decide +kernel
theorem dX8_written_15 : decode cX8_written 15 = .ok (.getfield 32, 3) := by decide +kernel
theorem dX8_written_18 : decode cX8_written 18 = .ok (.iload_n 1, 1) := by decide +kernel
theorem dX8_written_19 : decode cX8_written 19 = .ok (.iaload, 1) := by decide +kernel
theorem dX8_written_20 : decode cX8_written 20 = .ok (.goto 5, 3) := by decide +kernel
theorem dX8_written_23 : decode cX8_written 23 = .ok (.ldc 111, 2) := by decide +kernel
theorem dX8_written_25 : decode cX8_written 25 = .ok (.ireturn, 1) := by decide +kernel
theorem dX8_append_0 : decode cX8_append 0 = .ok (.iload_n 1, 1) := by decide +kernel
theorem dX8_append_1 : decode cX8_append 1 = .ok (.bipush 32, 2) := by decide +kernel
theorem dX8_append_3 : decode cX8_append 3 = .ok (.bipush 126, 2) := by decide +kernel
theorem dX8_append_5 : decode cX8_append 5 = .ok (.invokestatic 68, 3) := by decide +kernel
theorem dX8_append_8 : decode cX8_append 8 = .ok (.ifCond .ne 6, 3) := by decide +kernel
theorem dX8_append_11 : decode cX8_append 11 = .ok (.ldc 95, 2) := by decide +kernel
theorem dX8_append_13 : decode cX8_append 13 = .ok (.ireturn, 1) := by decide +kernel
theorem dX8_append_14 : decode cX8_append 14 = .ok (.aload_n 0, 1) := by decide +kernel
theorem dX8_append_15 : decode cX8_append 15 = .ok (.getfield 196, 3) := by decide +kernel
theorem dX8_append_18 : decode cX8_append 18 = .ok (.bipush 60, 2) := by decide +kernel
theorem dX8_append_20 : decode cX8_append 20 = .ok (.if_icmp .ne 6, 3) := by decide +kernel
theorem dX8_append_23 : decode cX8_append 23 = .ok (.ldc 208, 2) := by decide +kernel
theorem dX8_append_25 : decode cX8_append 25 = .ok (.ireturn, 1) := by decide +kernel
theorem dX8_append_26 : decode cX8_append 26 = .ok (.aload_n 0, 1) := by decide +kernel
theorem dX8_append_27 : decode cX8_append 27 = .ok (.getfield 29, 3) := by decide +kernel
theorem dX8_append_30 : decode cX8_append 30 = .ok (.aload_n 0, 1) := by decide +kernel
theorem dX8_append_31 : decode cX8_append 31 = .ok (.getfield 196, 3) := by decide +kernel
theorem dX8_append_34 : decode cX8_append 34 = .ok (.iload_n 1, 1) := by decide +kernel
theorem dX8_append_35 : decode cX8_append 35 = .ok (.iastore, 1) := by decide +kernel
theorem dX8_append_36 : decode cX8_append 36 = .ok (.aload_n 0, 1) := by decide +kernel
theorem dX8_append_37 : decode cX8_append 37 = .ok (.dup, 1) := by decide +kernel
theorem dX8_append_38 : decode cX8_append 38 = .ok (.getfield 196, 3) := by decide +kernel
theorem dX8_append_41 : decode cX8_append 41 = .ok (.iconst 1, 1) := by decide +kernel
theorem dX8_append_42 : decode cX8_append 42 = .ok (.iadd, 1) := by decide +kernel
theorem dX8_append_43 : decode cX8_append 43 = .ok (.putfield 196, 3) := by decide +kernel
theorem dX8_append_46 : decode cX8_append 46 = .ok (.aload_n 0, 1) := by decide +kernel
theorem dX8_append_47 : decode cX8_append 47 = .ok (.getfield 196, 3) := by decide +kernel
theorem dX8_append_50 : decode cX8_append 50 = .ok (.ireturn, 1) := by decide +kernel
theorem dX8_sign_0 : decode cX8_sign 0 = .ok (.aload_n 0, 1) := by decide +kernel
theorem dX8_sign_1 : decode cX8_sign 1 = .ok (.getfield 209, 3) := by decide +kernel
theorem dX8_sign_4 : decode cX8_sign 4 = .ok (.aload_n 0, 1) := by decide +kernel
theorem dX8_sign_5 : decode cX8_sign 5 = .ok (.getfield 212, 3) := by decide +kernel
theorem dX8_sign_8 : decode cX8_sign 8 = .ok (.if_icmp .ge 15, 3) := by decide +kernel
theorem dX8_sign_11 : decode cX8_sign 11 = .ok (.aload_n 0, 1) := by decide +kernel
theorem dX8_sign_12 : decode cX8_sign 12 = .ok (.getfield 29, 3) := by decide +kernel
theorem dX8_sign_15 : decode cX8_sign 15 = .ok (.aload_n 0, 1) := by decide +kernel
theorem dX8_sign_16 : decode cX8_sign 16 = .ok (.getfield 209, 3) := by decide +kernel
theorem dX8_sign_19 : decode cX8_sign 19 = .ok (.iaload, 1) := by decide +kernel
theorem dX8_sign_20 : decode cX8_sign 20 = .ok (.goto 4, 3) := by decide +kernel
theorem dX8_sign_23 : decode cX8_sign 23 = .ok (.iconst (-1), 1) := by decide +kernel
theorem dX8_sign_24 : decode cX8_sign 24 = .ok (.ireturn, 1) := by decide +kernel
theorem dX8_mark_0 : decode cX8_mark 0 = .ok (.aload_n 0, 1) := by decide +kernel
theorem dX8_mark_1 : decode cX8_mark 1 = .ok (.getfield 215, 3) := by decide +kernel
theorem dX8_mark_4 : decode cX8_mark 4 = .ok (.ifCond .eq 4, 3) := by decide +kernel
theorem dX8_mark_7 : decode cX8_mark 7 = .ok (.return_, 1) := by decide +kernel
theorem dX8_mark_8 : decode cX8_mark 8 = .ok (.aload_n 0, 1) := by decide +kernel
theorem dX8_mark_9 : decode cX8_mark 9 = .ok (.aload_n 0, 1) := by decide +kernel
theorem dX8_mark_10 : decode cX8_mark 10 = .ok (.invokevirtual 219, 3) := by decide +kernel
theorem dX8_mark_13 : decode cX8_mark 13 = .ok (.iload_n 1, 1) := by decide +kernel
theorem dX8_mark_14 : decode cX8_mark 14 = .ok (.if_icmp .eq 7, 3) := by decide +kernel
theorem dX8_mark_17 : decode cX8_mark 17 = .ok (.iconst 1, 1) := by decide +kernel
theorem dX8_mark_18 : decode cX8_mark 18 = .ok (.goto 4, 3) := by decide +kernel
theorem dX8_mark_21 : decode cX8_mark 21 = .ok (.iconst 0, 1) := by decide +kernel
theorem dX8_mark_22 : decode cX8_mark 22 = .ok (.putfield 215, 3) := by decide +kernel
theorem dX8_mark_25 : decode cX8_mark 25 = .ok (.aload_n 0, 1) := by decide +kernel
theorem dX8_mark_26 : decode cX8_mark 26 = .ok (.dup, 1) := by decide +kernel
theorem dX8_mark_27 : decode cX8_mark 27 = .ok (.getfield 209, 3) := by decide +kernel
theorem dX8_mark_30 : decode cX8_mark 30 = .ok (.aload_n 0, 1) := by decide +kernel
theorem dX8_mark_31 : decode cX8_mark 31 = .ok (.getfield 215, 3) := by decide +kernel
theorem dX8_mark_34 : decode cX8_mark 34 = .ok (.ifCond .eq 7, 3) := by decide +kernel
theorem dX8_mark_37 : decode cX8_mark 37 = .ok (.iconst 0, 1) := by decide +kernel
theorem dX8_mark_38 : decode cX8_mark 38 = .ok (.goto 4, 3) := by decide +kernel
theorem dX8_mark_41 : decode cX8_mark 41 = .ok (.iconst 1, 1) := by decide +kernel
theorem dX8_mark_42 : decode cX8_mark 42 = .ok (.iadd, 1) := by decide +kernel
theorem dX8_mark_43 : decode cX8_mark 43 = .ok (.putfield 209, 3) := by decide +kernel
theorem dX8_mark_46 : decode cX8_mark 46 = .ok (.return_, 1) := by decide +kernel
theorem dX8_digit_0 : decode cX8_digit 0 = .ok (.aload_n 0, 1) := by decide +kernel
theorem dX8_digit_1 : decode cX8_digit 1 = .ok (.getfield 215, 3) := by decide +kernel
theorem dX8_digit_4 : decode cX8_digit 4 = .ok (.ifCond .eq 5, 3) := by decide +kernel
theorem dX8_digit_7 : decode cX8_digit 7 = .ok (.iconst 0, 1) := by decide +kernel
theorem dX8_digit_8 : decode cX8_digit 8 = .ok (.ireturn, 1) := by decide +kernel
theorem dX8_digit_9 : decode cX8_digit 9 = .ok (.aload_n 0, 1) := by decide +kernel
theorem dX8_digit_10 : decode cX8_digit 10 = .ok (.invokevirtual 219, 3) := by decide +kernel
theorem dX8_digit_13 : decode cX8_digit 13 = .ok (.istore_n 1, 1) := by decide +kernel
theorem dX8_digit_14 : decode cX8_digit 14 = .ok (.aload_n 0, 1) := by decide +kernel
theorem dX8_digit_15 : decode cX8_digit 15 = .ok (.iload_n 1, 1) := by decide +kernel
theorem dX8_digit_16 : decode cX8_digit 16 = .ok (.bipush 48, 2) := by decide +kernel
theorem dX8_digit_18 : decode cX8_digit 18 = .ok (.bipush 57, 2) := by decide +kernel
theorem dX8_digit_20 : decode cX8_digit 20 = .ok (.invokestatic 68, 3) := by decide +kernel
theorem dX8_digit_23 : decode cX8_digit 23 = .ok (.ifCond .ne 7, 3) := by decide +kernel
theorem dX8_digit_26 : decode cX8_digit 26 = .ok (.iconst 1, 1) := by decide +kernel
theorem dX8_digit_27 : decode cX8_digit 27 = .ok (.goto 4, 3) := by decide +kernel
theorem dX8_digit_30 : decode cX8_digit 30 = .ok (.iconst 0, 1) := by decide +kernel
theorem dX8_digit_31 : decode cX8_digit 31 = .ok (.putfield 215, 3) := by decide +kernel
theorem dX8_digit_34 : decode cX8_digit 34 = .ok (.aload_n 0, 1) := by decide +kernel
theorem dX8_digit_35 : decode cX8_digit 35 = .ok (.dup, 1) := by decide +kernel
theorem dX8_digit_36 : decode cX8_digit 36 = .ok (.getfield 209, 3) := by decide +kernel
theorem dX8_digit_39 : decode cX8_digit 39 = .ok (.aload_n 0, 1) := by decide +kernel
theorem dX8_digit_40 : decode cX8_digit 40 = .ok (.getfield 215, 3) := by decide +kernel
theorem dX8_digit_43 : decode cX8_digit 43 = .ok (.ifCond .eq 7, 3) := by decide +kernel
theorem dX8_digit_46 : decode cX8_digit 46 = .ok (.iconst 0, 1) := by decide +kernel
theorem dX8_digit_47 : decode cX8_digit 47 = .ok (.goto 4, 3) := by decide +kernel
theorem dX8_digit_50 : decode cX8_digit 50 = .ok (.iconst 1, 1) := by decide +kernel
theorem dX8_digit_51 : decode cX8_digit 51 = .ok (.iadd, 1) := by decide +kernel
theorem dX8_digit_52 : decode cX8_digit 52 = .ok (.putfield 209, 3) := by decide +kernel
theorem dX8_digit_55 : decode cX8_digit 55 = .ok (.iload_n 1, 1) := by decide +kernel
theorem dX8_digit_56 : decode cX8_digit 56 = .ok (.bipush 48, 2) := by decide +kernel
theorem dX8_digit_58 : decode cX8_digit 58 = .ok (.isub, 1) := by decide +kernel
theorem dX8_digit_59 : decode cX8_digit 59 = .ok (.ireturn, 1) := by decide +kernel
theorem dX8_hexes_0 : decode cX8_hexes 0 = .ok (.iconst 0, 1) := by decide +kernel
theorem dX8_hexes_1 : decode cX8_hexes 1 = .ok (.istore_n 1, 1) := by decide +kernel
theorem dX8_hexes_2 : decode cX8_hexes 2 = .ok (.iconst 0, 1) := by decide +kernel
theorem dX8_hexes_3 : decode cX8_hexes 3 = .ok (.istore_n 2, 1) := by decide +kernel
theorem dX8_hexes_4 : decode cX8_hexes 4 = .ok (.iload_n 2, 1) := by decide +kernel
theorem dX8_hexes_5 : decode cX8_hexes 5 = .ok (.iconst 4, 1) := by decide +kernel
theorem dX8_hexes_6 : decode cX8_hexes 6 = .ok (.if_icmp .ge 106, 3) := by decide +kernel
theorem dX8_hexes_9 : decode cX8_hexes 9 = .ok (.aload_n 0, 1) := by decide +kernel
theorem dX8_hexes_10 : decode cX8_hexes 10 = .ok (.getfield 215, 3) := by decide +kernel
theorem dX8_hexes_13 : decode cX8_hexes 13 = .ok (.ifCond .ne 99, 3) := by decide +kernel
theorem dX8_hexes_16 : decode cX8_hexes 16 = .ok (.aload_n 0, 1) := by decide +kernel
theorem dX8_hexes_17 : decode cX8_hexes 17 = .ok (.invokevirtual 219, 3) := by decide +kernel
theorem dX8_hexes_20 : decode cX8_hexes 20 = .ok (.istore_n 3, 1) := by decide +kernel
theorem dX8_hexes_21 : decode cX8_hexes 21 = .ok (.iload_n 3, 1) := by decide +kernel
theorem dX8_hexes_22 : decode cX8_hexes 22 = .ok (.bipush 48, 2) := by decide +kernel
theorem dX8_hexes_24 : decode cX8_hexes 24 = .ok (.bipush 57, 2) := by decide +kernel
theorem dX8_hexes_26 : decode cX8_hexes 26 = .ok (.invokestatic 68, 3) := by decide +kernel
theorem dX8_hexes_29 : decode cX8_hexes 29 = .ok (.ifCond .eq 10, 3) := by decide +kernel
theorem dX8_hexes_32 : decode cX8_hexes 32 = .ok (.iload_n 3, 1) := by decide +kernel
theorem dX8_hexes_33 : decode cX8_hexes 33 = .ok (.bipush 48, 2) := by decide +kernel
theorem dX8_hexes_35 : decode cX8_hexes 35 = .ok (.isub, 1) := by decide +kernel
theorem dX8_hexes_36 : decode cX8_hexes 36 = .ok (.goto 25, 3) := by decide +kernel
theorem dX8_hexes_39 : decode cX8_hexes 39 = .ok (.iload_n 3, 1) := by decide +kernel
theorem dX8_hexes_40 : decode cX8_hexes 40 = .ok (.bipush 97, 2) := by decide +kernel
theorem dX8_hexes_42 : decode cX8_hexes 42 = .ok (.bipush 102, 2) := by decide +kernel
theorem dX8_hexes_44 : decode cX8_hexes 44 = .ok (.invokestatic 68, 3) := by decide +kernel
theorem dX8_hexes_47 : decode cX8_hexes 47 = .ok (.ifCond .eq 13, 3) := by decide +kernel
theorem dX8_hexes_50 : decode cX8_hexes 50 = .ok (.iload_n 3, 1) := by decide +kernel
theorem dX8_hexes_51 : decode cX8_hexes 51 = .ok (.bipush 97, 2) := by decide +kernel
theorem dX8_hexes_53 : decode cX8_hexes 53 = .ok (.isub, 1) := by decide +kernel
theorem dX8_hexes_54 : decode cX8_hexes 54 = .ok (.bipush 10, 2) := by decide +kernel
theorem dX8_hexes_56 : decode cX8_hexes 56 = .ok (.iadd, 1) := by decide +kernel
theorem dX8_hexes_57 : decode cX8_hexes 57 = .ok (.goto 4, 3) := by decide +kernel
theorem dX8_hexes_60 : decode cX8_hexes 60 = .ok (.iconst (-1), 1) := by decide +kernel
theorem dX8_hexes_61 : decode cX8_hexes 61 = .ok (.istore 4, 2) := by decide +kernel
theorem dX8_hexes_63 : decode cX8_hexes 63 = .ok (.aload_n 0, 1) := by decide +kernel
theorem dX8_hexes_64 : decode cX8_hexes 64 = .ok (.iload 4, 2) := by decide +kernel
theorem dX8_hexes_66 : decode cX8_hexes 66 = .ok (.ifCond .ge 7, 3) := by decide +kernel
theorem dX8_hexes_69 : decode cX8_hexes 69 = .ok (.iconst 1, 1) := by decide +kernel
theorem dX8_hexes_70 : decode cX8_hexes 70 = .ok (.goto 4, 3) := by decide +kernel
theorem dX8_hexes_73 : decode cX8_hexes 73 = .ok (.iconst 0, 1) := by decide +kernel
theorem dX8_hexes_74 : decode cX8_hexes 74 = .ok (.putfield 215, 3) := by decide +kernel
theorem dX8_hexes_77 : decode cX8_hexes 77 = .ok (.aload_n 0, 1) := by decide +kernel
theorem dX8_hexes_78 : decode cX8_hexes 78 = .ok (.dup, 1) := by decide +kernel
theorem dX8_hexes_79 : decode cX8_hexes 79 = .ok (.getfield 209, 3) := by decide +kernel
theorem dX8_hexes_82 : decode cX8_hexes 82 = .ok (.aload_n 0, 1) := by decide +kernel
theorem dX8_hexes_83 : decode cX8_hexes 83 = .ok (.getfield 215, 3) := by decide +kernel
theorem dX8_hexes_86 : decode cX8_hexes 86 = .ok (.ifCond .eq 7, 3) := by decide +kernel
theorem dX8_hexes_89 : decode cX8_hexes 89 = .ok (.iconst 0, 1) := by decide +kernel
theorem dX8_hexes_90 : decode cX8_hexes 90 = .ok (.goto 4, 3) := by decide +kernel
theorem dX8_hexes_93 : decode cX8_hexes 93 = .ok (.iconst 1, 1) := by decide +kernel
theorem dX8_hexes_94 : decode cX8_hexes 94 = .ok (.iadd, 1) := by decide +kernel
theorem dX8_hexes_95 : decode cX8_hexes 95 = .ok (.putfield 209, 3) := by decide +kernel
theorem dX8_hexes_98 : decode cX8_hexes 98 = .ok (.bipush 16, 2) := by decide +kernel
theorem dX8_hexes_100 : decode cX8_hexes 100 = .ok (.iload_n 1, 1) := by decide +kernel
theorem dX8_hexes_101 : decode cX8_hexes 101 = .ok (.imul, 1) := by decide +kernel
theorem dX8_hexes_102 : decode cX8_hexes 102 = .ok (.iload 4, 2) := by decide +kernel
theorem dX8_hexes_104 : decode cX8_hexes 104 = .ok (.iadd, 1) := by decide +kernel
theorem dX8_hexes_105 : decode cX8_hexes 105 = .ok (.istore_n 1, 1) := by decide +kernel
theorem dX8_hexes_106 : decode cX8_hexes 106 = .ok (.iinc 2 1, 3) := by decide +kernel
theorem dX8_hexes_109 : decode cX8_hexes 109 = .ok (.goto (-105), 3) := by decide +kernel
theorem dX8_hexes_112 : decode cX8_hexes 112 = .ok (.iload_n 1, 1) := by decide +kernel
theorem dX8_hexes_113 : decode cX8_hexes 113 = .ok (.ireturn, 1) := by decide +kernel
theorem dX8_word_0 : decode cX8_word 0 = .ok (.iconst 0, 1) := by decide +kernel
theorem dX8_word_1 : decode cX8_word 1 = .ok (.istore_n 1, 1) := by decide +kernel
theorem dX8_word_2 : decode cX8_word 2 = .ok (.iload_n 1, 1) := by decide +kernel
theorem dX8_word_3 : decode cX8_word 3 = .ok (.bipush 9, 2) := by decide +kernel
theorem dX8_word_5 : decode cX8_word 5 = .ok (.if_icmp .ge 16, 3) := by decide +kernel
theorem dX8_word_8 : decode cX8_word 8 = .ok (.aload_n 0, 1) := by decide +kernel
theorem dX8_word_9 : decode cX8_word 9 = .ok (.getfield 35, 3) := by decide +kernel
theorem dX8_word_12 : decode cX8_word 12 = .ok (.iload_n 1, 1) := by decide +kernel
theorem dX8_word_13 : decode cX8_word 13 = .ok (.iconst 1, 1) := by decide +kernel
theorem dX8_word_14 : decode cX8_word 14 = .ok (.iastore, 1) := by decide +kernel
theorem dX8_word_15 : decode cX8_word 15 = .ok (.iinc 1 1, 3) := by decide +kernel
theorem dX8_word_18 : decode cX8_word 18 = .ok (.goto (-16), 3) := by decide +kernel
theorem dX8_word_21 : decode cX8_word 21 = .ok (.iconst 0, 1) := by decide +kernel
theorem dX8_word_22 : decode cX8_word 22 = .ok (.istore_n 1, 1) := by decide +kernel
theorem dX8_word_23 : decode cX8_word 23 = .ok (.iconst (-1), 1) := by decide +kernel
theorem dX8_word_24 : decode cX8_word 24 = .ok (.istore_n 2, 1) := by decide +kernel
theorem dX8_word_25 : decode cX8_word 25 = .ok (.iload_n 2, 1) := by decide +kernel
theorem dX8_word_26 : decode cX8_word 26 = .ok (.ifCond .ge 196, 3) := by decide +kernel
theorem dX8_word_29 : decode cX8_word 29 = .ok (.aload_n 0, 1) := by decide +kernel
theorem dX8_word_30 : decode cX8_word 30 = .ok (.getfield 215, 3) := by decide +kernel
theorem dX8_word_33 : decode cX8_word 33 = .ok (.ifCond .ne 189, 3) := by decide +kernel
theorem dX8_word_36 : decode cX8_word 36 = .ok (.iconst 0, 1) := by decide +kernel
theorem dX8_word_37 : decode cX8_word 37 = .ok (.istore_n 3, 1) := by decide +kernel
theorem dX8_word_38 : decode cX8_word 38 = .ok (.iconst 0, 1) := by decide +kernel
theorem dX8_word_39 : decode cX8_word 39 = .ok (.istore 4, 2) := by decide +kernel
theorem dX8_word_41 : decode cX8_word 41 = .ok (.iload 4, 2) := by decide +kernel
theorem dX8_word_43 : decode cX8_word 43 = .ok (.bipush 9, 2) := by decide +kernel
theorem dX8_word_45 : decode cX8_word 45 = .ok (.if_icmp .ge 85, 3) := by decide +kernel
theorem dX8_word_48 : decode cX8_word 48 = .ok (.aload_n 0, 1) := by decide +kernel
theorem dX8_word_49 : decode cX8_word 49 = .ok (.getfield 35, 3) := by decide +kernel
theorem dX8_word_52 : decode cX8_word 52 = .ok (.iload 4, 2) := by decide +kernel
theorem dX8_word_54 : decode cX8_word 54 = .ok (.dup2, 1) := by decide +kernel
theorem dX8_word_55 : decode cX8_word 55 = .ok (.iaload, 1) := by decide +kernel
theorem dX8_word_56 : decode cX8_word 56 = .ok (.aload_n 0, 1) := by decide +kernel
theorem dX8_word_57 : decode cX8_word 57 = .ok (.getfield 41, 3) := by decide +kernel
theorem dX8_word_60 : decode cX8_word 60 = .ok (.iload 4, 2) := by decide +kernel
theorem dX8_word_62 : decode cX8_word 62 = .ok (.iaload, 1) := by decide +kernel
theorem dX8_word_63 : decode cX8_word 63 = .ok (.iload_n 1, 1) := by decide +kernel
theorem dX8_word_64 : decode cX8_word 64 = .ok (.iadd, 1) := by decide +kernel
theorem dX8_word_65 : decode cX8_word 65 = .ok (.aload_n 0, 1) := by decide +kernel
theorem dX8_word_66 : decode cX8_word 66 = .ok (.getfield 41, 3) := by decide +kernel
theorem dX8_word_69 : decode cX8_word 69 = .ok (.iload 4, 2) := by decide +kernel
theorem dX8_word_71 : decode cX8_word 71 = .ok (.iconst 1, 1) := by decide +kernel
theorem dX8_word_72 : decode cX8_word 72 = .ok (.iadd, 1) := by decide +kernel
theorem dX8_word_73 : decode cX8_word 73 = .ok (.iaload, 1) := by decide +kernel
theorem dX8_word_74 : decode cX8_word 74 = .ok (.if_icmp .ge 28, 3) := by decide +kernel
theorem dX8_word_77 : decode cX8_word 77 = .ok (.aload_n 0, 1) := by decide +kernel
theorem dX8_word_78 : decode cX8_word 78 = .ok (.getfield 38, 3) := by decide +kernel
theorem dX8_word_81 : decode cX8_word 81 = .ok (.aload_n 0, 1) := by decide +kernel
theorem dX8_word_82 : decode cX8_word 82 = .ok (.getfield 41, 3) := by decide +kernel
theorem dX8_word_85 : decode cX8_word 85 = .ok (.iload 4, 2) := by decide +kernel
theorem dX8_word_87 : decode cX8_word 87 = .ok (.iaload, 1) := by decide +kernel
theorem dX8_word_88 : decode cX8_word 88 = .ok (.iload_n 1, 1) := by decide +kernel
theorem dX8_word_89 : decode cX8_word 89 = .ok (.iadd, 1) := by decide +kernel
theorem dX8_word_90 : decode cX8_word 90 = .ok (.iaload, 1) := by decide +kernel
theorem dX8_word_91 : decode cX8_word 91 = .ok (.aload_n 0, 1) := by decide +kernel
theorem dX8_word_92 : decode cX8_word 92 = .ok (.invokevirtual 219, 3) := by decide +kernel
theorem dX8_word_95 : decode cX8_word 95 = .ok (.if_icmp .ne 7, 3) := by decide +kernel
theorem dX8_word_98 : decode cX8_word 98 = .ok (.iconst 1, 1) := by decide +kernel
theorem dX8_word_99 : decode cX8_word 99 = .ok (.goto 4, 3) := by decide +kernel
theorem dX8_word_102 : decode cX8_word 102 = .ok (.iconst 0, 1) := by decide +kernel
theorem dX8_word_103 : decode cX8_word 103 = .ok (.iand, 1) := by decide +kernel
theorem dX8_word_104 : decode cX8_word 104 = .ok (.iastore, 1) := by decide +kernel
theorem dX8_word_105 : decode cX8_word 105 = .ok (.iload_n 3, 1) := by decide +kernel
theorem dX8_word_106 : decode cX8_word 106 = .ok (.aload_n 0, 1) := by decide +kernel
theorem dX8_word_107 : decode cX8_word 107 = .ok (.getfield 35, 3) := by decide +kernel
theorem dX8_word_110 : decode cX8_word 110 = .ok (.iload 4, 2) := by decide +kernel
theorem dX8_word_112 : decode cX8_word 112 = .ok (.iaload, 1) := by decide +kernel
theorem dX8_word_113 : decode cX8_word 113 = .ok (.iconst 1, 1) := by decide +kernel
theorem dX8_word_114 : decode cX8_word 114 = .ok (.if_icmp .ne 7, 3) := by decide +kernel
theorem dX8_word_117 : decode cX8_word 117 = .ok (.iconst 1, 1) := by decide +kernel
theorem dX8_word_118 : decode cX8_word 118 = .ok (.goto 4, 3) := by decide +kernel
theorem dX8_word_121 : decode cX8_word 121 = .ok (.iconst 0, 1) := by decide +kernel
theorem dX8_word_122 : decode cX8_word 122 = .ok (.ior, 1) := by decide +kernel
theorem dX8_word_123 : decode cX8_word 123 = .ok (.istore_n 3, 1) := by decide +kernel
theorem dX8_word_124 : decode cX8_word 124 = .ok (.iinc 4 1, 3) := by decide +kernel
theorem dX8_word_127 : decode cX8_word 127 = .ok (.goto (-86), 3) := by decide +kernel
theorem dX8_word_130 : decode cX8_word 130 = .ok (.aload_n 0, 1) := by decide +kernel
theorem dX8_word_131 : decode cX8_word 131 = .ok (.iload_n 3, 1) := by decide +kernel
theorem dX8_word_132 : decode cX8_word 132 = .ok (.ifCond .ne 7, 3) := by decide +kernel
theorem dX8_word_135 : decode cX8_word 135 = .ok (.iconst 1, 1) := by decide +kernel
theorem dX8_word_136 : decode cX8_word 136 = .ok (.goto 4, 3) := by decide +kernel
theorem dX8_word_139 : decode cX8_word 139 = .ok (.iconst 0, 1) := by decide +kernel
theorem dX8_word_140 : decode cX8_word 140 = .ok (.putfield 215, 3) := by decide +kernel
theorem dX8_word_143 : decode cX8_word 143 = .ok (.aload_n 0, 1) := by decide +kernel
theorem dX8_word_144 : decode cX8_word 144 = .ok (.dup, 1) := by decide +kernel
theorem dX8_word_145 : decode cX8_word 145 = .ok (.getfield 209, 3) := by decide +kernel
theorem dX8_word_148 : decode cX8_word 148 = .ok (.iload_n 3, 1) := by decide +kernel
theorem dX8_word_149 : decode cX8_word 149 = .ok (.ifCond .eq 7, 3) := by decide +kernel
theorem dX8_word_152 : decode cX8_word 152 = .ok (.iconst 1, 1) := by decide +kernel
theorem dX8_word_153 : decode cX8_word 153 = .ok (.goto 4, 3) := by decide +kernel
theorem dX8_word_156 : decode cX8_word 156 = .ok (.iconst 0, 1) := by decide +kernel
theorem dX8_word_157 : decode cX8_word 157 = .ok (.iadd, 1) := by decide +kernel
theorem dX8_word_158 : decode cX8_word 158 = .ok (.putfield 209, 3) := by decide +kernel
theorem dX8_word_161 : decode cX8_word 161 = .ok (.iinc 1 1, 3) := by decide +kernel
theorem dX8_word_164 : decode cX8_word 164 = .ok (.iconst 0, 1) := by decide +kernel
theorem dX8_word_165 : decode cX8_word 165 = .ok (.istore 4, 2) := by decide +kernel
theorem dX8_word_167 : decode cX8_word 167 = .ok (.iload 4, 2) := by decide +kernel
theorem dX8_word_169 : decode cX8_word 169 = .ok (.bipush 9, 2) := by decide +kernel
theorem dX8_word_171 : decode cX8_word 171 = .ok (.if_icmp .ge 48, 3) := by decide +kernel
theorem dX8_word_174 : decode cX8_word 174 = .ok (.aload_n 0, 1) := by decide +kernel
theorem dX8_word_175 : decode cX8_word 175 = .ok (.getfield 35, 3) := by decide +kernel
theorem dX8_word_178 : decode cX8_word 178 = .ok (.iload 4, 2) := by decide +kernel
theorem dX8_word_180 : decode cX8_word 180 = .ok (.iaload, 1) := by decide +kernel
theorem dX8_word_181 : decode cX8_word 181 = .ok (.iconst 1, 1) := by decide +kernel
theorem dX8_word_182 : decode cX8_word 182 = .ok (.if_icmp .ne 29, 3) := by decide +kernel
theorem dX8_word_185 : decode cX8_word 185 = .ok (.aload_n 0, 1) := by decide +kernel
theorem dX8_word_186 : decode cX8_word 186 = .ok (.getfield 41, 3) := by decide +kernel
theorem dX8_word_189 : decode cX8_word 189 = .ok (.iload 4, 2) := by decide +kernel
theorem dX8_word_191 : decode cX8_word 191 = .ok (.iaload, 1) := by decide +kernel
theorem dX8_word_192 : decode cX8_word 192 = .ok (.iload_n 1, 1) := by decide +kernel
theorem dX8_word_193 : decode cX8_word 193 = .ok (.iadd, 1) := by decide +kernel
theorem dX8_word_194 : decode cX8_word 194 = .ok (.aload_n 0, 1) := by decide +kernel
theorem dX8_word_195 : decode cX8_word 195 = .ok (.getfield 41, 3) := by decide +kernel
theorem dX8_word_198 : decode cX8_word 198 = .ok (.iload 4, 2) := by decide +kernel
theorem dX8_word_200 : decode cX8_word 200 = .ok (.iconst 1, 1) := by decide +kernel
theorem dX8_word_201 : decode cX8_word 201 = .ok (.iadd, 1) := by decide +kernel
theorem dX8_word_202 : decode cX8_word 202 = .ok (.iaload, 1) := by decide +kernel
theorem dX8_word_203 : decode cX8_word 203 = .ok (.if_icmp .ne 8, 3) := by decide +kernel
theorem dX8_word_206 : decode cX8_word 206 = .ok (.iload 4, 2) := by decide +kernel
theorem dX8_word_208 : decode cX8_word 208 = .ok (.goto 4, 3) := by decide +kernel
theorem dX8_word_211 : decode cX8_word 211 = .ok (.iload_n 2, 1) := by decide +kernel
theorem dX8_word_212 : decode cX8_word 212 = .ok (.istore_n 2, 1) := by decide +kernel
theorem dX8_word_213 : decode cX8_word 213 = .ok (.iinc 4 1, 3) := by decide +kernel
theorem dX8_word_216 : decode cX8_word 216 = .ok (.goto (-49), 3) := by decide +kernel
theorem dX8_word_219 : decode cX8_word 219 = .ok (.goto (-194), 3) := by decide +kernel
theorem dX8_word_222 : decode cX8_word 222 = .ok (.iload_n 2, 1) := by decide +kernel
theorem dX8_word_223 : decode cX8_word 223 = .ok (.ireturn, 1) := by decide +kernel
theorem dX8_does_0 : decode cX8_does 0 = .ok (.iload_n 1, 1) := by decide +kernel
theorem dX8_does_1 : decode cX8_does 1 = .ok (.tableswitch 99 0 7 #[47, 53, 59, 65, 72, 79, 86, 93], 47) := by decide +kernel
theorem dX8_does_48 : decode cX8_does 48 = .ok (.aload_n 0, 1) := by decide +kernel
theorem dX8_does_49 : decode cX8_does 49 = .ok (.iload_n 2, 1) := by decide +kernel
theorem dX8_does_50 : decode cX8_does 50 = .ok (.invokevirtual 102, 3) := by decide +kernel
theorem dX8_does_53 : decode cX8_does 53 = .ok (.ireturn, 1) := by decide +kernel
theorem dX8_does_54 : decode cX8_does 54 = .ok (.aload_n 0, 1) := by decide +kernel
theorem dX8_does_55 : decode cX8_does 55 = .ok (.iload_n 2, 1) := by decide +kernel
theorem dX8_does_56 : decode cX8_does 56 = .ok (.invokevirtual 116, 3) := by decide +kernel
theorem dX8_does_59 : decode cX8_does 59 = .ok (.ireturn, 1) := by decide +kernel
theorem dX8_does_60 : decode cX8_does 60 = .ok (.aload_n 0, 1) := by decide +kernel
theorem dX8_does_61 : decode cX8_does 61 = .ok (.iload_n 2, 1) := by decide +kernel
theorem dX8_does_62 : decode cX8_does 62 = .ok (.invokevirtual 150, 3) := by decide +kernel
theorem dX8_does_65 : decode cX8_does 65 = .ok (.ireturn, 1) := by decide +kernel
theorem dX8_does_66 : decode cX8_does 66 = .ok (.aload_n 0, 1) := by decide +kernel
theorem dX8_does_67 : decode cX8_does 67 = .ok (.iload_n 2, 1) := by decide +kernel
theorem dX8_does_68 : decode cX8_does 68 = .ok (.iload_n 3, 1) := by decide +kernel
theorem dX8_does_69 : decode cX8_does 69 = .ok (.invokevirtual 122, 3) := by decide +kernel
theorem dX8_does_72 : decode cX8_does 72 = .ok (.ireturn, 1) := by decide +kernel
theorem dX8_does_73 : decode cX8_does 73 = .ok (.aload_n 0, 1) := by decide +kernel
theorem dX8_does_74 : decode cX8_does 74 = .ok (.iload_n 2, 1) := by decide +kernel
theorem dX8_does_75 : decode cX8_does 75 = .ok (.iload_n 3, 1) := by decide +kernel
theorem dX8_does_76 : decode cX8_does 76 = .ok (.invokevirtual 125, 3) := by decide +kernel
theorem dX8_does_79 : decode cX8_does 79 = .ok (.ireturn, 1) := by decide +kernel
theorem dX8_does_80 : decode cX8_does 80 = .ok (.aload_n 0, 1) := by decide +kernel
theorem dX8_does_81 : decode cX8_does 81 = .ok (.iload_n 2, 1) := by decide +kernel
theorem dX8_does_82 : decode cX8_does 82 = .ok (.iload_n 3, 1) := by decide +kernel
theorem dX8_does_83 : decode cX8_does 83 = .ok (.invokevirtual 131, 3) := by decide +kernel
theorem dX8_does_86 : decode cX8_does 86 = .ok (.ireturn, 1) := by decide +kernel
theorem dX8_does_87 : decode cX8_does 87 = .ok (.aload_n 0, 1) := by decide +kernel
theorem dX8_does_88 : decode cX8_does 88 = .ok (.iload_n 2, 1) := by decide +kernel
theorem dX8_does_89 : decode cX8_does 89 = .ok (.iload_n 3, 1) := by decide +kernel
theorem dX8_does_90 : decode cX8_does 90 = .ok (.invokevirtual 134, 3) := by decide +kernel
theorem dX8_does_93 : decode cX8_does 93 = .ok (.ireturn, 1) := by decide +kernel
theorem dX8_does_94 : decode cX8_does 94 = .ok (.aload_n 0, 1) := by decide +kernel
theorem dX8_does_95 : decode cX8_does 95 = .ok (.iload_n 2, 1) := by decide +kernel
theorem dX8_does_96 : decode cX8_does 96 = .ok (.invokevirtual 137, 3) := by decide +kernel
theorem dX8_does_99 : decode cX8_does 99 = .ok (.ireturn, 1) := by decide +kernel
theorem dX8_does_100 : decode cX8_does 100 = .ok (.aload_n 0, 1) := by decide +kernel
theorem dX8_does_101 : decode cX8_does 101 = .ok (.invokevirtual 160, 3) := by decide +kernel
theorem dX8_does_104 : decode cX8_does 104 = .ok (.ireturn, 1) := by decide +kernel
theorem dX8_command_0 : decode cX8_command 0 = .ok (.aload_n 0, 1) := by decide +kernel
theorem dX8_command_1 : decode cX8_command 1 = .ok (.invokevirtual 222, 3) := by decide +kernel
theorem dX8_command_4 : decode cX8_command 4 = .ok (.istore_n 1, 1) := by decide +kernel
theorem dX8_command_5 : decode cX8_command 5 = .ok (.iconst 0, 1) := by decide +kernel
theorem dX8_command_6 : decode cX8_command 6 = .ok (.istore_n 2, 1) := by decide +kernel
theorem dX8_command_7 : decode cX8_command 7 = .ok (.iconst 0, 1) := by decide +kernel
theorem dX8_command_8 : decode cX8_command 8 = .ok (.istore_n 3, 1) := by decide +kernel
theorem dX8_command_9 : decode cX8_command 9 = .ok (.aload_n 0, 1) := by decide +kernel
theorem dX8_command_10 : decode cX8_command 10 = .ok (.getfield 215, 3) := by decide +kernel
theorem dX8_command_13 : decode cX8_command 13 = .ok (.ifCond .eq 4, 3) := by decide +kernel
theorem dX8_command_16 : decode cX8_command 16 = .ok (.return_, 1) := by decide +kernel
theorem dX8_command_17 : decode cX8_command 17 = .ok (.iload_n 1, 1) := by decide +kernel
theorem dX8_command_18 : decode cX8_command 18 = .ok (.ifCond .ne 8, 3) := by decide +kernel
theorem dX8_command_21 : decode cX8_command 21 = .ok (.aload_n 0, 1) := by decide +kernel
theorem dX8_command_22 : decode cX8_command 22 = .ok (.invokevirtual 225, 3) := by decide +kernel
theorem dX8_command_25 : decode cX8_command 25 = .ok (.istore_n 2, 1) := by decide +kernel
theorem dX8_command_26 : decode cX8_command 26 = .ok (.iload_n 1, 1) := by decide +kernel
theorem dX8_command_27 : decode cX8_command 27 = .ok (.iconst 1, 1) := by decide +kernel
theorem dX8_command_28 : decode cX8_command 28 = .ok (.bipush 6, 2) := by decide +kernel
theorem dX8_command_30 : decode cX8_command 30 = .ok (.invokestatic 68, 3) := by decide +kernel
theorem dX8_command_33 : decode cX8_command 33 = .ok (.ifCond .eq 8, 3) := by decide +kernel
theorem dX8_command_36 : decode cX8_command 36 = .ok (.aload_n 0, 1) := by decide +kernel
theorem dX8_command_37 : decode cX8_command 37 = .ok (.invokevirtual 228, 3) := by decide +kernel
theorem dX8_command_40 : decode cX8_command 40 = .ok (.istore_n 2, 1) := by decide +kernel
theorem dX8_command_41 : decode cX8_command 41 = .ok (.iload_n 1, 1) := by decide +kernel
theorem dX8_command_42 : decode cX8_command 42 = .ok (.bipush 7, 2) := by decide +kernel
theorem dX8_command_44 : decode cX8_command 44 = .ok (.if_icmp .ne 48, 3) := by decide +kernel
theorem dX8_command_47 : decode cX8_command 47 = .ok (.aload_n 0, 1) := by decide +kernel
theorem dX8_command_48 : decode cX8_command 48 = .ok (.invokevirtual 219, 3) := by decide +kernel
theorem dX8_command_51 : decode cX8_command 51 = .ok (.bipush 45, 2) := by decide +kernel
theorem dX8_command_53 : decode cX8_command 53 = .ok (.if_icmp .ne 7, 3) := by decide +kernel
theorem dX8_command_56 : decode cX8_command 56 = .ok (.iconst 1, 1) := by decide +kernel
theorem dX8_command_57 : decode cX8_command 57 = .ok (.goto 4, 3) := by decide +kernel
theorem dX8_command_60 : decode cX8_command 60 = .ok (.iconst 0, 1) := by decide +kernel
theorem dX8_command_61 : decode cX8_command 61 = .ok (.istore 4, 2) := by decide +kernel
theorem dX8_command_63 : decode cX8_command 63 = .ok (.iload 4, 2) := by decide +kernel
theorem dX8_command_65 : decode cX8_command 65 = .ok (.ifCond .eq 9, 3) := by decide +kernel
theorem dX8_command_68 : decode cX8_command 68 = .ok (.aload_n 0, 1) := by decide +kernel
theorem dX8_command_69 : decode cX8_command 69 = .ok (.bipush 45, 2) := by decide +kernel
theorem dX8_command_71 : decode cX8_command 71 = .ok (.invokevirtual 231, 3) := by decide +kernel
theorem dX8_command_74 : decode cX8_command 74 = .ok (.iload 4, 2) := by decide +kernel
theorem dX8_command_76 : decode cX8_command 76 = .ok (.ifCond .eq 11, 3) := by decide +kernel
theorem dX8_command_79 : decode cX8_command 79 = .ok (.aload_n 0, 1) := by decide +kernel
theorem dX8_command_80 : decode cX8_command 80 = .ok (.invokevirtual 228, 3) := by decide +kernel
theorem dX8_command_83 : decode cX8_command 83 = .ok (.ineg, 1) := by decide +kernel
theorem dX8_command_84 : decode cX8_command 84 = .ok (.goto 7, 3) := by decide +kernel
theorem dX8_command_87 : decode cX8_command 87 = .ok (.aload_n 0, 1) := by decide +kernel
theorem dX8_command_88 : decode cX8_command 88 = .ok (.invokevirtual 228, 3) := by decide +kernel
theorem dX8_command_91 : decode cX8_command 91 = .ok (.istore_n 2, 1) := by decide +kernel
theorem dX8_command_92 : decode cX8_command 92 = .ok (.iload_n 1, 1) := by decide +kernel
theorem dX8_command_93 : decode cX8_command 93 = .ok (.iconst 3, 1) := by decide +kernel
theorem dX8_command_94 : decode cX8_command 94 = .ok (.bipush 6, 2) := by decide +kernel
theorem dX8_command_96 : decode cX8_command 96 = .ok (.invokestatic 68, 3) := by decide +kernel
theorem dX8_command_99 : decode cX8_command 99 = .ok (.ifCond .eq 9, 3) := by decide +kernel
theorem dX8_command_102 : decode cX8_command 102 = .ok (.aload_n 0, 1) := by decide +kernel
theorem dX8_command_103 : decode cX8_command 103 = .ok (.bipush 32, 2) := by decide +kernel
theorem dX8_command_105 : decode cX8_command 105 = .ok (.invokevirtual 231, 3) := by decide +kernel
theorem dX8_command_108 : decode cX8_command 108 = .ok (.iload_n 1, 1) := by decide +kernel
theorem dX8_command_109 : decode cX8_command 109 = .ok (.iconst 3, 1) := by decide +kernel
theorem dX8_command_110 : decode cX8_command 110 = .ok (.if_icmp .ne 15, 3) := by decide +kernel
theorem dX8_command_113 : decode cX8_command 113 = .ok (.aload_n 0, 1) := by decide +kernel
theorem dX8_command_114 : decode cX8_command 114 = .ok (.getfield 215, 3) := by decide +kernel
theorem dX8_command_117 : decode cX8_command 117 = .ok (.ifCond .ne 8, 3) := by decide +kernel
theorem dX8_command_120 : decode cX8_command 120 = .ok (.aload_n 0, 1) := by decide +kernel
theorem dX8_command_121 : decode cX8_command 121 = .ok (.invokevirtual 225, 3) := by decide +kernel
theorem dX8_command_124 : decode cX8_command 124 = .ok (.istore_n 3, 1) := by decide +kernel
theorem dX8_command_125 : decode cX8_command 125 = .ok (.iload_n 1, 1) := by decide +kernel
theorem dX8_command_126 : decode cX8_command 126 = .ok (.iconst 4, 1) := by decide +kernel
theorem dX8_command_127 : decode cX8_command 127 = .ok (.bipush 6, 2) := by decide +kernel
theorem dX8_command_129 : decode cX8_command 129 = .ok (.invokestatic 68, 3) := by decide +kernel
theorem dX8_command_132 : decode cX8_command 132 = .ok (.ifCond .eq 8, 3) := by decide +kernel
theorem dX8_command_135 : decode cX8_command 135 = .ok (.aload_n 0, 1) := by decide +kernel
theorem dX8_command_136 : decode cX8_command 136 = .ok (.invokevirtual 228, 3) := by decide +kernel
theorem dX8_command_139 : decode cX8_command 139 = .ok (.istore_n 3, 1) := by decide +kernel
theorem dX8_command_140 : decode cX8_command 140 = .ok (.aload_n 0, 1) := by decide +kernel
theorem dX8_command_141 : decode cX8_command 141 = .ok (.getfield 215, 3) := by decide +kernel
theorem dX8_command_144 : decode cX8_command 144 = .ok (.ifCond .ne 10, 3) := by decide +kernel
theorem dX8_command_147 : decode cX8_command 147 = .ok (.aload_n 0, 1) := by decide +kernel
theorem dX8_command_148 : decode cX8_command 148 = .ok (.getfield 234, 3) := by decide +kernel
theorem dX8_command_151 : decode cX8_command 151 = .ok (.ifCond .ne 4, 3) := by decide +kernel
theorem dX8_command_154 : decode cX8_command 154 = .ok (.return_, 1) := by decide +kernel
theorem dX8_command_155 : decode cX8_command 155 = .ok (.aload_n 0, 1) := by decide +kernel
theorem dX8_command_156 : decode cX8_command 156 = .ok (.iload_n 1, 1) := by decide +kernel
theorem dX8_command_157 : decode cX8_command 157 = .ok (.iload_n 2, 1) := by decide +kernel
theorem dX8_command_158 : decode cX8_command 158 = .ok (.iload_n 3, 1) := by decide +kernel
theorem dX8_command_159 : decode cX8_command 159 = .ok (.invokevirtual 237, 3) := by decide +kernel
theorem dX8_command_162 : decode cX8_command 162 = .ok (.istore 4, 2) := by decide +kernel
theorem dX8_command_164 : decode cX8_command 164 = .ok (.return_, 1) := by decide +kernel
theorem dX8_commands_0 : decode cX8_commands 0 = .ok (.aload_n 0, 1) := by decide +kernel
theorem dX8_commands_1 : decode cX8_commands 1 = .ok (.iconst 0, 1) := by decide +kernel
theorem dX8_commands_2 : decode cX8_commands 2 = .ok (.putfield 209, 3) := by decide +kernel
theorem dX8_commands_5 : decode cX8_commands 5 = .ok (.aload_n 0, 1) := by decide +kernel
theorem dX8_commands_6 : decode cX8_commands 6 = .ok (.iconst 0, 1) := by decide +kernel
theorem dX8_commands_7 : decode cX8_commands 7 = .ok (.putfield 215, 3) := by decide +kernel
theorem dX8_commands_10 : decode cX8_commands 10 = .ok (.iconst 1, 1) := by decide +kernel
theorem dX8_commands_11 : decode cX8_commands 11 = .ok (.istore_n 1, 1) := by decide +kernel
theorem dX8_commands_12 : decode cX8_commands 12 = .ok (.aload_n 0, 1) := by decide +kernel
theorem dX8_commands_13 : decode cX8_commands 13 = .ok (.invokevirtual 241, 3) := by decide +kernel
theorem dX8_commands_16 : decode cX8_commands 16 = .ok (.aload_n 0, 1) := by decide +kernel
theorem dX8_commands_17 : decode cX8_commands 17 = .ok (.getfield 215, 3) := by decide +kernel
theorem dX8_commands_20 : decode cX8_commands 20 = .ok (.ifCond .ne 44, 3) := by decide +kernel
theorem dX8_commands_23 : decode cX8_commands 23 = .ok (.aload_n 0, 1) := by decide +kernel
theorem dX8_commands_24 : decode cX8_commands 24 = .ok (.getfield 44, 3) := by decide +kernel
theorem dX8_commands_27 : decode cX8_commands 27 = .ok (.ifCond .ne 37, 3) := by decide +kernel
theorem dX8_commands_30 : decode cX8_commands 30 = .ok (.aload_n 0, 1) := by decide +kernel
theorem dX8_commands_31 : decode cX8_commands 31 = .ok (.getfield 209, 3) := by decide +kernel
theorem dX8_commands_34 : decode cX8_commands 34 = .ok (.aload_n 0, 1) := by decide +kernel
theorem dX8_commands_35 : decode cX8_commands 35 = .ok (.getfield 212, 3) := by decide +kernel
theorem dX8_commands_38 : decode cX8_commands 38 = .ok (.if_icmp .ge 26, 3) := by decide +kernel
theorem dX8_commands_41 : decode cX8_commands 41 = .ok (.aload_n 0, 1) := by decide +kernel
theorem dX8_commands_42 : decode cX8_commands 42 = .ok (.bipush 59, 2) := by decide +kernel
theorem dX8_commands_44 : decode cX8_commands 44 = .ok (.invokevirtual 231, 3) := by decide +kernel
theorem dX8_commands_47 : decode cX8_commands 47 = .ok (.aload_n 0, 1) := by decide +kernel
theorem dX8_commands_48 : decode cX8_commands 48 = .ok (.getfield 215, 3) := by decide +kernel
theorem dX8_commands_51 : decode cX8_commands 51 = .ok (.ifCond .ne 7, 3) := by decide +kernel
theorem dX8_commands_54 : decode cX8_commands 54 = .ok (.aload_n 0, 1) := by decide +kernel
theorem dX8_commands_55 : decode cX8_commands 55 = .ok (.invokevirtual 241, 3) := by decide +kernel
theorem dX8_commands_58 : decode cX8_commands 58 = .ok (.iinc 1 1, 3) := by decide +kernel
theorem dX8_commands_61 : decode cX8_commands 61 = .ok (.goto (-45), 3) := by decide +kernel
theorem dX8_commands_64 : decode cX8_commands 64 = .ok (.iload_n 1, 1) := by decide +kernel
theorem dX8_commands_65 : decode cX8_commands 65 = .ok (.ireturn, 1) := by decide +kernel
theorem dX8_read_0 : decode cX8_read 0 = .ok (.aload_n 0, 1) := by decide +kernel
theorem dX8_read_1 : decode cX8_read 1 = .ok (.invokevirtual 99, 3) := by decide +kernel
theorem dX8_read_4 : decode cX8_read 4 = .ok (.aload_n 0, 1) := by decide +kernel
theorem dX8_read_5 : decode cX8_read 5 = .ok (.aload_n 0, 1) := by decide +kernel
theorem dX8_read_6 : decode cX8_read 6 = .ok (.getfield 196, 3) := by decide +kernel
theorem dX8_read_9 : decode cX8_read 9 = .ok (.putfield 212, 3) := by decide +kernel
theorem dX8_read_12 : decode cX8_read 12 = .ok (.aload_n 0, 1) := by decide +kernel
theorem dX8_read_13 : decode cX8_read 13 = .ok (.iconst 0, 1) := by decide +kernel
theorem dX8_read_14 : decode cX8_read 14 = .ok (.putfield 196, 3) := by decide +kernel
theorem dX8_read_17 : decode cX8_read 17 = .ok (.aload_n 0, 1) := by decide +kernel
theorem dX8_read_18 : decode cX8_read 18 = .ok (.iconst 0, 1) := by decide +kernel
theorem dX8_read_19 : decode cX8_read 19 = .ok (.putfield 234, 3) := by decide +kernel
theorem dX8_read_22 : decode cX8_read 22 = .ok (.aload_n 0, 1) := by decide +kernel
theorem dX8_read_23 : decode cX8_read 23 = .ok (.invokevirtual 244, 3) := by decide +kernel
theorem dX8_read_26 : decode cX8_read 26 = .ok (.istore_n 1, 1) := by decide +kernel
theorem dX8_read_27 : decode cX8_read 27 = .ok (.aload_n 0, 1) := by decide +kernel
theorem dX8_read_28 : decode cX8_read 28 = .ok (.getfield 215, 3) := by decide +kernel
theorem dX8_read_31 : decode cX8_read 31 = .ok (.ifCond .eq 14, 3) := by decide +kernel
theorem dX8_read_34 : decode cX8_read 34 = .ok (.aload_n 0, 1) := by decide +kernel
theorem dX8_read_35 : decode cX8_read 35 = .ok (.aload_n 0, 1) := by decide +kernel
theorem dX8_read_36 : decode cX8_read 36 = .ok (.getfield 209, 3) := by decide +kernel
theorem dX8_read_39 : decode cX8_read 39 = .ok (.putfield 7, 3) := by decide +kernel
theorem dX8_read_42 : decode cX8_read 42 = .ok (.ldc 95, 2) := by decide +kernel
theorem dX8_read_44 : decode cX8_read 44 = .ok (.ireturn, 1) := by decide +kernel
theorem dX8_read_45 : decode cX8_read 45 = .ok (.aload_n 0, 1) := by decide +kernel
theorem dX8_read_46 : decode cX8_read 46 = .ok (.iconst 1, 1) := by decide +kernel
theorem dX8_read_47 : decode cX8_read 47 = .ok (.putfield 234, 3) := by decide +kernel
theorem dX8_read_50 : decode cX8_read 50 = .ok (.aload_n 0, 1) := by decide +kernel
theorem dX8_read_51 : decode cX8_read 51 = .ok (.invokevirtual 244, 3) := by decide +kernel
theorem dX8_read_54 : decode cX8_read 54 = .ok (.istore_n 1, 1) := by decide +kernel
theorem dX8_read_55 : decode cX8_read 55 = .ok (.aload_n 0, 1) := by decide +kernel
theorem dX8_read_56 : decode cX8_read 56 = .ok (.getfield 44, 3) := by decide +kernel
theorem dX8_read_59 : decode cX8_read 59 = .ok (.ifCond .ne 9, 3) := by decide +kernel
theorem dX8_read_62 : decode cX8_read 62 = .ok (.aload_n 0, 1) := by decide +kernel
theorem dX8_read_63 : decode cX8_read 63 = .ok (.iload_n 1, 1) := by decide +kernel
theorem dX8_read_64 : decode cX8_read 64 = .ok (.invokevirtual 105, 3) := by decide +kernel
theorem dX8_read_67 : decode cX8_read 67 = .ok (.ireturn, 1) := by decide +kernel
theorem dX8_read_68 : decode cX8_read 68 = .ok (.aload_n 0, 1) := by decide +kernel
theorem dX8_read_69 : decode cX8_read 69 = .ok (.getfield 44, 3) := by decide +kernel
theorem dX8_read_72 : decode cX8_read 72 = .ok (.ldc 56, 2) := by decide +kernel
theorem dX8_read_74 : decode cX8_read 74 = .ok (.if_icmp .ne 10, 3) := by decide +kernel
theorem dX8_read_77 : decode cX8_read 77 = .ok (.aload_n 0, 1) := by decide +kernel
theorem dX8_read_78 : decode cX8_read 78 = .ok (.getfield 47, 3) := by decide +kernel
theorem dX8_read_81 : decode cX8_read 81 = .ok (.goto 4, 3) := by decide +kernel
theorem dX8_read_84 : decode cX8_read 84 = .ok (.iconst 0, 1) := by decide +kernel
theorem dX8_read_85 : decode cX8_read 85 = .ok (.istore_n 2, 1) := by decide +kernel
theorem dX8_read_86 : decode cX8_read 86 = .ok (.aload_n 0, 1) := by decide +kernel
theorem dX8_read_87 : decode cX8_read 87 = .ok (.getfield 50, 3) := by decide +kernel
theorem dX8_read_90 : decode cX8_read 90 = .ok (.istore_n 3, 1) := by decide +kernel
theorem dX8_read_91 : decode cX8_read 91 = .ok (.aload_n 0, 1) := by decide +kernel
theorem dX8_read_92 : decode cX8_read 92 = .ok (.iconst 5, 1) := by decide +kernel
theorem dX8_read_93 : decode cX8_read 93 = .ok (.iload_n 1, 1) := by decide +kernel
theorem dX8_read_94 : decode cX8_read 94 = .ok (.iconst 1, 1) := by decide +kernel
theorem dX8_read_95 : decode cX8_read 95 = .ok (.isub, 1) := by decide +kernel
theorem dX8_read_96 : decode cX8_read 96 = .ok (.invokevirtual 96, 3) := by decide +kernel
theorem dX8_read_99 : decode cX8_read 99 = .ok (.istore 4, 2) := by decide +kernel
theorem dX8_read_101 : decode cX8_read 101 = .ok (.aload_n 0, 1) := by decide +kernel
theorem dX8_read_102 : decode cX8_read 102 = .ok (.iload_n 2, 1) := by decide +kernel
theorem dX8_read_103 : decode cX8_read 103 = .ok (.putfield 53, 3) := by decide +kernel
theorem dX8_read_106 : decode cX8_read 106 = .ok (.aload_n 0, 1) := by decide +kernel
theorem dX8_read_107 : decode cX8_read 107 = .ok (.iload_n 3, 1) := by decide +kernel
theorem dX8_read_108 : decode cX8_read 108 = .ok (.putfield 247, 3) := by decide +kernel
theorem dX8_read_111 : decode cX8_read 111 = .ok (.aload_n 0, 1) := by decide +kernel
theorem dX8_read_112 : decode cX8_read 112 = .ok (.iload 4, 2) := by decide +kernel
theorem dX8_read_114 : decode cX8_read 114 = .ok (.invokevirtual 105, 3) := by decide +kernel
theorem dX8_read_117 : decode cX8_read 117 = .ok (.ireturn, 1) := by decide +kernel
theorem dX8_fault_0 : decode cX8_fault 0 = .ok (.aload_n 0, 1) := by decide +kernel
theorem dX8_fault_1 : decode cX8_fault 1 = .ok (.getfield 7, 3) := by decide +kernel
theorem dX8_fault_4 : decode cX8_fault 4 = .ok (.ifCond .ge 8, 3) := by decide +kernel
theorem dX8_fault_7 : decode cX8_fault 7 = .ok (.ldc 250, 2) := by decide +kernel
theorem dX8_fault_9 : decode cX8_fault 9 = .ok (.goto 7, 3) := by decide +kernel
theorem dX8_fault_12 : decode cX8_fault 12 = .ok (.aload_n 0, 1) := by decide +kernel
theorem dX8_fault_13 : decode cX8_fault 13 = .ok (.getfield 7, 3) := by decide +kernel
theorem dX8_fault_16 : decode cX8_fault 16 = .ok (.ireturn, 1) := by decide +kernel
theorem dX8_reason_0 : decode cX8_reason 0 = .ok (.iload_n 1, 1) := by decide +kernel
theorem dX8_reason_1 : decode cX8_reason 1 = .ok (.iconst 0, 1) := by decide +kernel
theorem dX8_reason_2 : decode cX8_reason 2 = .ok (.iconst 1, 1) := by decide +kernel
theorem dX8_reason_3 : decode cX8_reason 3 = .ok (.invokestatic 68, 3) := by decide +kernel
theorem dX8_reason_6 : decode cX8_reason 6 = .ok (.ifCond .ne 6, 3) := by decide +kernel
theorem dX8_reason_9 : decode cX8_reason 9 = .ok (.ldc 95, 2) := by decide +kernel
theorem dX8_reason_11 : decode cX8_reason 11 = .ok (.ireturn, 1) := by decide +kernel
theorem dX8_reason_12 : decode cX8_reason 12 = .ok (.aload_n 0, 1) := by decide +kernel
theorem dX8_reason_13 : decode cX8_reason 13 = .ok (.getfield 47, 3) := by decide +kernel
theorem dX8_reason_16 : decode cX8_reason 16 = .ok (.ifCond .ne 6, 3) := by decide +kernel
theorem dX8_reason_19 : decode cX8_reason 19 = .ok (.ldc 250, 2) := by decide +kernel
theorem dX8_reason_21 : decode cX8_reason 21 = .ok (.ireturn, 1) := by decide +kernel
theorem dX8_reason_22 : decode cX8_reason 22 = .ok (.iload_n 1, 1) := by decide +kernel
theorem dX8_reason_23 : decode cX8_reason 23 = .ok (.ifCond .ne 19, 3) := by decide +kernel
theorem dX8_reason_26 : decode cX8_reason 26 = .ok (.iload_n 2, 1) := by decide +kernel
theorem dX8_reason_27 : decode cX8_reason 27 = .ok (.ifCond .eq 10, 3) := by decide +kernel
theorem dX8_reason_30 : decode cX8_reason 30 = .ok (.aload_n 0, 1) := by decide +kernel
theorem dX8_reason_31 : decode cX8_reason 31 = .ok (.getfield 50, 3) := by decide +kernel
theorem dX8_reason_34 : decode cX8_reason 34 = .ok (.goto 7, 3) := by decide +kernel
theorem dX8_reason_37 : decode cX8_reason 37 = .ok (.aload_n 0, 1) := by decide +kernel
theorem dX8_reason_38 : decode cX8_reason 38 = .ok (.getfield 47, 3) := by decide +kernel
theorem dX8_reason_41 : decode cX8_reason 41 = .ok (.ireturn, 1) := by decide +kernel
theorem dX8_reason_42 : decode cX8_reason 42 = .ok (.aload_n 0, 1) := by decide +kernel
theorem dX8_reason_43 : decode cX8_reason 43 = .ok (.getfield 53, 3) := by decide +kernel
theorem dX8_reason_46 : decode cX8_reason 46 = .ok (.ifCond .ne 8, 3) := by decide +kernel
theorem dX8_reason_49 : decode cX8_reason 49 = .ok (.ldc 181, 2) := by decide +kernel
theorem dX8_reason_51 : decode cX8_reason 51 = .ok (.goto 18, 3) := by decide +kernel
theorem dX8_reason_54 : decode cX8_reason 54 = .ok (.iload_n 2, 1) := by decide +kernel
theorem dX8_reason_55 : decode cX8_reason 55 = .ok (.ifCond .eq 10, 3) := by decide +kernel
theorem dX8_reason_58 : decode cX8_reason 58 = .ok (.aload_n 0, 1) := by decide +kernel
theorem dX8_reason_59 : decode cX8_reason 59 = .ok (.getfield 247, 3) := by decide +kernel
theorem dX8_reason_62 : decode cX8_reason 62 = .ok (.goto 7, 3) := by decide +kernel
theorem dX8_reason_65 : decode cX8_reason 65 = .ok (.aload_n 0, 1) := by decide +kernel
theorem dX8_reason_66 : decode cX8_reason 66 = .ok (.getfield 53, 3) := by decide +kernel
theorem dX8_reason_69 : decode cX8_reason 69 = .ok (.ireturn, 1) := by decide +kernel
theorem dX8_undo_0 : decode cX8_undo 0 = .ok (.aload_n 0, 1) := by decide +kernel
theorem dX8_undo_1 : decode cX8_undo 1 = .ok (.getfield 65, 3) := by decide +kernel
theorem dX8_undo_4 : decode cX8_undo 4 = .ok (.ifCond .ne 6, 3) := by decide +kernel
theorem dX8_undo_7 : decode cX8_undo 7 = .ok (.ldc 250, 2) := by decide +kernel
theorem dX8_undo_9 : decode cX8_undo 9 = .ok (.ireturn, 1) := by decide +kernel
theorem dX8_undo_10 : decode cX8_undo 10 = .ok (.aload_n 0, 1) := by decide +kernel
theorem dX8_undo_11 : decode cX8_undo 11 = .ok (.dup, 1) := by decide +kernel
theorem dX8_undo_12 : decode cX8_undo 12 = .ok (.getfield 65, 3) := by decide +kernel
theorem dX8_undo_15 : decode cX8_undo 15 = .ok (.iconst 1, 1) := by decide +kernel
theorem dX8_undo_16 : decode cX8_undo 16 = .ok (.isub, 1) := by decide +kernel
theorem dX8_undo_17 : decode cX8_undo 17 = .ok (.putfield 65, 3) := by decide +kernel
theorem dX8_undo_20 : decode cX8_undo 20 = .ok (.iconst 0, 1) := by decide +kernel
theorem dX8_undo_21 : decode cX8_undo 21 = .ok (.istore_n 1, 1) := by decide +kernel
theorem dX8_undo_22 : decode cX8_undo 22 = .ok (.iload_n 1, 1) := by decide +kernel
theorem dX8_undo_23 : decode cX8_undo 23 = .ok (.bipush 66, 2) := by decide +kernel
theorem dX8_undo_25 : decode cX8_undo 25 = .ok (.if_icmp .ge 29, 3) := by decide +kernel
theorem dX8_undo_28 : decode cX8_undo 28 = .ok (.aload_n 0, 1) := by decide +kernel
theorem dX8_undo_29 : decode cX8_undo 29 = .ok (.getfield 13, 3) := by decide +kernel
theorem dX8_undo_32 : decode cX8_undo 32 = .ok (.iload_n 1, 1) := by decide +kernel
theorem dX8_undo_33 : decode cX8_undo 33 = .ok (.aload_n 0, 1) := by decide +kernel
theorem dX8_undo_34 : decode cX8_undo 34 = .ok (.getfield 26, 3) := by decide +kernel
theorem dX8_undo_37 : decode cX8_undo 37 = .ok (.aload_n 0, 1) := by decide +kernel
theorem dX8_undo_38 : decode cX8_undo 38 = .ok (.getfield 65, 3) := by decide +kernel
theorem dX8_undo_41 : decode cX8_undo 41 = .ok (.bipush 66, 2) := by decide +kernel
theorem dX8_undo_43 : decode cX8_undo 43 = .ok (.imul, 1) := by decide +kernel
theorem dX8_undo_44 : decode cX8_undo 44 = .ok (.iload_n 1, 1) := by decide +kernel
theorem dX8_undo_45 : decode cX8_undo 45 = .ok (.iadd, 1) := by decide +kernel
theorem dX8_undo_46 : decode cX8_undo 46 = .ok (.iaload, 1) := by decide +kernel
theorem dX8_undo_47 : decode cX8_undo 47 = .ok (.iastore, 1) := by decide +kernel
theorem dX8_undo_48 : decode cX8_undo 48 = .ok (.iinc 1 1, 3) := by decide +kernel
theorem dX8_undo_51 : decode cX8_undo 51 = .ok (.goto (-29), 3) := by decide +kernel
theorem dX8_undo_54 : decode cX8_undo 54 = .ok (.aload_n 0, 1) := by decide +kernel
theorem dX8_undo_55 : decode cX8_undo 55 = .ok (.getfield 65, 3) := by decide +kernel
theorem dX8_undo_58 : decode cX8_undo 58 = .ok (.ireturn, 1) := by decide +kernel
theorem dX8_save_0 : decode cX8_save 0 = .ok (.aload_n 0, 1) := by decide +kernel
theorem dX8_save_1 : decode cX8_save 1 = .ok (.getfield 20, 3) := by decide +kernel
theorem dX8_save_4 : decode cX8_save 4 = .ok (.aload_n 0, 1) := by decide +kernel
theorem dX8_save_5 : decode cX8_save 5 = .ok (.getfield 13, 3) := by decide +kernel
theorem dX8_save_8 : decode cX8_save 8 = .ok (.invokestatic 61, 3) := by decide +kernel
theorem dX8_save_11 : decode cX8_save 11 = .ok (.aload_n 0, 1) := by decide +kernel
theorem dX8_save_12 : decode cX8_save 12 = .ok (.iconst 1, 1) := by decide +kernel
theorem dX8_save_13 : decode cX8_save 13 = .ok (.putfield 251, 3) := by decide +kernel
theorem dX8_save_16 : decode cX8_save 16 = .ok (.aload_n 0, 1) := by decide +kernel
theorem dX8_save_17 : decode cX8_save 17 = .ok (.getfield 13, 3) := by decide +kernel
theorem dX8_save_20 : decode cX8_save 20 = .ok (.iconst 0, 1) := by decide +kernel
theorem dX8_save_21 : decode cX8_save 21 = .ok (.iaload, 1) := by decide +kernel
theorem dX8_save_22 : decode cX8_save 22 = .ok (.ireturn, 1) := by decide +kernel
theorem dX8_restore_0 : decode cX8_restore 0 = .ok (.aload_n 0, 1) := by decide +kernel
theorem dX8_restore_1 : decode cX8_restore 1 = .ok (.getfield 251, 3) := by decide +kernel
theorem dX8_restore_4 : decode cX8_restore 4 = .ok (.ifCond .ne 6, 3) := by decide +kernel
theorem dX8_restore_7 : decode cX8_restore 7 = .ok (.ldc 250, 2) := by decide +kernel
theorem dX8_restore_9 : decode cX8_restore 9 = .ok (.ireturn, 1) := by decide +kernel
theorem dX8_restore_10 : decode cX8_restore 10 = .ok (.aload_n 0, 1) := by decide +kernel
theorem dX8_restore_11 : decode cX8_restore 11 = .ok (.getfield 13, 3) := by decide +kernel
theorem dX8_restore_14 : decode cX8_restore 14 = .ok (.aload_n 0, 1) := by decide +kernel
theorem dX8_restore_15 : decode cX8_restore 15 = .ok (.getfield 20, 3) := by decide +kernel
theorem dX8_restore_18 : decode cX8_restore 18 = .ok (.invokestatic 61, 3) := by decide +kernel
theorem dX8_restore_21 : decode cX8_restore 21 = .ok (.aload_n 0, 1) := by decide +kernel
theorem dX8_restore_22 : decode cX8_restore 22 = .ok (.iconst 0, 1) := by decide +kernel
theorem dX8_restore_23 : decode cX8_restore 23 = .ok (.putfield 65, 3) := by decide +kernel
theorem dX8_restore_26 : decode cX8_restore 26 = .ok (.aload_n 0, 1) := by decide +kernel
theorem dX8_restore_27 : decode cX8_restore 27 = .ok (.getfield 13, 3) := by decide +kernel
theorem dX8_restore_30 : decode cX8_restore 30 = .ok (.iconst 0, 1) := by decide +kernel
theorem dX8_restore_31 : decode cX8_restore 31 = .ok (.iaload, 1) := by decide +kernel
theorem dX8_restore_32 : decode cX8_restore 32 = .ok (.ireturn, 1) := by decide +kernel
end
section
/-! THE WALK OVER A WORLD: a row an instruction, as the kit has them, over the world alone (no heap, no locals' array is named); a method's contract where it makes nothing: its world before and behind. -/
def vEok (E : (Nat → Prop) → State → Heap → Prop) : Prop := (∀ (A : Nat → Prop) (U : State) (H H1 : Heap), E A U H → (∀ a : Nat, a < H.size → ¬ A a → H1[a]? = H[a]?) → E A U H1) ∧ (∀ (A B : Nat → Prop) (U : State) (H : Heap), E A U H → (∀ q, B q → A q) → E B U H) ∧ (∀ (A : Nat → Prop) (u U : State) (H : Heap), u.WarmedH U.vm → E A u H → E A U H) ∧ (∀ (A : Nat → Prop) (u U : State) (H : Heap), u.vm = U.vm → E A u H → E A U H)
def vC (E : (Nat → Prop) → State → Heap → Prop) (p : Program) (l : Launch) (s : State) (m : MethodId) (args : Array Value) (meth : Method) (c : Code) (A : Nat → Prop) (D : va_G) (tys : List (ClassId × FieldType)) (cc : ByteArray) (nL : Nat) (own : String) : Prop :=
  p.tables.exec = Jvm.exec ∧ c.code = cc ∧ c.maxLocals = nL ∧ s.vm.findClass own = some m.cls ∧ (∀ w ∈ wsL_law, w.before args s = true) ∧ va_K D vwCl tys s ∧ (∀ q : Nat, s.heap.size ≤ q → A q) ∧ meth.locks = false ∧ vEok E ∧ E A s s.heap
def vV (p : Program) (l : Launch) (e : Env) (R : Room) (s : State) (m : MethodId) (args : Array Value) (below : List Frame) (meth : Method) (c : Code) (A : Nat → Prop) (D : va_G) (nL kc ks : Nat) (Q : State → Prop) (w : va_W) (pc : Nat) (lv : List (Nat × Value)) (st : List Value) : Prop :=
  ∀ (H : Heap) (locs : List Loc) (ls : Array Slot), va_P D vwCl w H → va_D A w → va_S A s.heap H locs → lv_has ls nL lv → W p l e R s m args below meth c H locs kc ks Q (F0 m pc ls st)
theorem vT_good : wsL_law.all goodWord = true := by decide +kernel
theorem vT_in {y : MethodName} {cd : ByteArray} {mL : Nat} {rt : Option FieldType} (h : Cond.code y cd mL rt ∈ wsL_law) : GoodIn wsL_law (Cond.code y cd mL rt :: wsL_law) := by
  intro w hw
  have hm : w ∈ wsL_law := by
    rcases List.mem_cons.mp hw with h1 | h1
    · rw [h1]; exact h
    · exact h1
  exact ⟨hm, good_of_word (List.all_eq_true.mp vT_good w hm)⟩
/-- a method that makes nothing: from the world w, anything else alike, it ends as Qk says -/
def vM (E : (Nat → Prop) → State → Heap → Prop) (l : Launch) (y : MethodName) (cd : ByteArray) (mL : Nat) (rt : Option FieldType) (fr lo : Nat) (D : va_G) (tys : List (ClassId × FieldType)) (av : List Value) (w : va_W) (Qk : (Nat → Prop) → Array Value → State → Outcome → State → Prop) : Prop :=
  ∀ sz : Nat, Met l y (Cond.code y cd mL rt :: wsL_law) ({ frames := fr, cells := 0, slots := 0, locals := lo }) (va_Pc av (fun U => U.heap.size = sz ∧ va_P D vwCl w U.heap ∧ va_K D vwCl tys U ∧ va_D (fun _ => True) w ∧ E (va_A w sz) U U.heap)) (Qk (va_A w sz)) 0 0 (va_A w sz)
abbrev vQi (D : va_G) (w : va_W) (r : Int32) (A : Nat → Prop) : Array Value → State → Outcome → State → Prop := va_Qi (fun (r2 : Int32) (_ : Unit) => r2 = r) (fun _ t => va_P D vwCl w t.heap) A
abbrev vQl (D : va_G) (w : va_W) (r : Int64) (A : Nat → Prop) : Array Value → State → Outcome → State → Prop := va_Ql (fun (r2 : Int64) (_ : Unit) => r2 = r) (fun _ t => va_P D vwCl w t.heap) A
abbrev vQf (D : va_G) (w : va_W) (r : UInt32) (A : Nat → Prop) : Array Value → State → Outcome → State → Prop := va_Qf (fun (r2 : UInt32) (_ : Unit) => r2 = r) (fun _ t => va_P D vwCl w t.heap) A
abbrev vQd (D : va_G) (w : va_W) (r : UInt64) (A : Nat → Prop) : Array Value → State → Outcome → State → Prop := va_Qd (fun (r2 : UInt64) (_ : Unit) => r2 = r) (fun _ t => va_P D vwCl w t.heap) A
abbrev vQv (D : va_G) (w : va_W) (A : Nat → Prop) : Array Value → State → Outcome → State → Prop := va_Qv (fun (_ : Unit) => True) (fun _ t => va_P D vwCl w t.heap) A
theorem vM_of {E : (Nat → Prop) → State → Heap → Prop} {l : Launch} {y : MethodName} {cd : ByteArray} {mL : Nat} {rt : Option FieldType} {fr lo : Nat} {D : va_G} {tys : List (ClassId × FieldType)} {av : List Value} {w : va_W} {Qk : (Nat → Prop) → Array Value → State → Outcome → State → Prop} (hE : vEok E) (hy : plainName y.cls = true) (hlen : (lg_sl av).length ≤ mL)
    (body : ∀ (p : Program) (e : Env) (s : State) (m : MethodId) (args : Array Value) (below : List Frame) (meth : Method) (c : Code) (A : Nat → Prop), vC E p l s m args meth c A D tys cd mL y.cls → meth.sig.returnType = rt → vV p l e { frames := fr, cells := 0, slots := 0, locals := lo } s m args below meth c A D mL 0 0 (MQ below (Qk A) args s 0 0 A) w 0 (lv_args 0 av) []) : vM E l y cd mL rt fr lo D tys av w Qk := by
  intro sz
  refine Met.ofW (cc := cd) (maxL := mL) (ret := rt) hy rfl ?_
  intro p e s m args below meth c s₁ B hml hv
  obtain ⟨rfl, hsz, hP, hK, hD0, hE0⟩ := hv
  have hown : s.vm.findClass y.cls = some m.cls := findClass_of_methodNamed B.named
  subst hsz
  have hts := atoms_spec (ws := Cond.code y cd mL rt :: wsL_law) B.pre
  have hl := lv_entry av (n := mL) hlen
  rw [lg_entry_eq]
  exact body p e s m _ below meth c (va_A w s.heap.size) ⟨B.exec, B.bytes, hml, hown, fun w h => hts w (List.mem_cons_of_mem _ h), hK, fun q h => Or.inr h, B.notSynchronized, hE, hE0⟩ B.returns s.heap [] _ hP hD0.self va_S.rf hl
/-- the caller's world behind a call: the callee's part is the new one, all else stands -/
theorem vj {A : Nat → Prop} {D : va_G} {cl : List vw_C} {w w1 wc w2 wd : va_W} {H H1 : Heap} (hw : w = w1 ++ (wc ++ w2)) (had : wd.map Prod.fst = wc.map Prod.fst) (hP : va_P D cl w H) (hD : va_D A w) (hk : ∀ q : Nat, q < H.size → ¬ va_A wc H.size q → H1[q]? = H[q]?) (hP1 : va_P D cl wd H1) : va_P D cl (w1 ++ (wd ++ w2)) H1 ∧ va_D A (w1 ++ (wd ++ w2)) := by
  subst hw
  have hlen : wd.length = wc.length := by have h := congrArg List.length had; simpa using h
  have hfst : ∀ k : Nat, (wd[k]?).map Prod.fst = (wc[k]?).map Prod.fst := fun k => by rw [← List.getElem?_map, ← List.getElem?_map, had]
  have key : ∀ (k : Nat) (q : Nat × va_E), (w1 ++ (wd ++ w2))[k]? = some q → ∃ q0, (w1 ++ (wc ++ w2))[k]? = some q0 ∧ q0.1 = q.1 ∧ ((∃ j : Nat, wd[j]? = some q) ∨ (q0 = q ∧ ¬ ∃ (j : Nat) (e : va_E), wc[j]? = some (q.1, e))) := by
    intro k q hq
    by_cases h1 : k < w1.length
    · rw [List.getElem?_append_left h1] at hq
      refine ⟨q, by rw [List.getElem?_append_left h1]; exact hq, rfl, Or.inr ⟨rfl, ?_⟩⟩
      rintro ⟨j, e, hj⟩
      have hjl : j < wc.length := (List.getElem?_eq_some_iff.mp hj).1
      have h2 : (w1 ++ (wc ++ w2))[w1.length + j]? = some (q.1, e) := by
        rw [List.getElem?_append_right (by omega), List.getElem?_append_left (by omega)]
        rw [show w1.length + j - w1.length = j by omega]; exact hj
      have h3 : (w1 ++ (wc ++ w2))[k]? = some q := by rw [List.getElem?_append_left h1]; exact hq
      have := hD.1 _ _ _ _ h3 h2 rfl
      omega
    · rw [List.getElem?_append_right (by omega)] at hq
      by_cases h2 : k - w1.length < wd.length
      · rw [List.getElem?_append_left h2] at hq
        have h4 : k - w1.length < wc.length := by omega
        refine ⟨wc[k - w1.length], ?_, ?_, Or.inl ⟨_, hq⟩⟩
        · rw [List.getElem?_append_right (by omega), List.getElem?_append_left h4]
          exact List.getElem?_eq_getElem h4
        · have h5 := hfst (k - w1.length)
          rw [hq, List.getElem?_eq_getElem h4] at h5
          exact (Option.some.inj h5).symm
      · rw [List.getElem?_append_right (by omega)] at hq
        have h3 : (w1 ++ (wc ++ w2))[k]? = some q := by
          rw [List.getElem?_append_right (by omega), List.getElem?_append_right (by omega), ← hlen]; exact hq
        refine ⟨q, h3, rfl, Or.inr ⟨rfl, ?_⟩⟩
        rintro ⟨j, e, hj⟩
        have hjl : j < wc.length := (List.getElem?_eq_some_iff.mp hj).1
        have h6 : (w1 ++ (wc ++ w2))[w1.length + j]? = some (q.1, e) := by
          rw [List.getElem?_append_right (by omega), List.getElem?_append_left (by omega)]
          rw [show w1.length + j - w1.length = j by omega]; exact hj
        have := hD.1 _ _ _ _ h3 h6 rfl
        omega
  refine ⟨fun k q hq => ?_, fun i j x y hi hj hxy => ?_, fun k q hq => ?_⟩
  · obtain ⟨q0, h0, hf, h⟩ := key k q hq
    rcases h with ⟨j, hj⟩ | ⟨he, hn⟩
    · exact hP1 j q hj
    · subst he
      have hlt : q0.1 < H.size := (hP k q0 h0).lt
      refine (hP k q0 h0).kept (hk q0.1 hlt ?_)
      rintro (⟨j, e, hj⟩ | h)
      · exact hn ⟨j, e, hj⟩
      · omega
  · obtain ⟨x0, h1, e1, -⟩ := key i x hi
    obtain ⟨y0, h2, e2, -⟩ := key j y hj
    exact hD.1 i j x0 y0 h1 h2 (by rw [e1, e2]; exact hxy)
  · obtain ⟨q0, h1, e1, -⟩ := key k q hq
    rw [← e1]
    exact hD.2 k q0 h1
theorem vfree {A : Nat → Prop} {s : State} {H : Heap} {locs : List Loc} {w w1 wc w2 : va_W} (hw : w = w1 ++ (wc ++ w2)) (hD : va_D A w) (hS : va_S A s.heap H locs) (hA : ∀ q : Nat, s.heap.size ≤ q → A q) : ∀ q, va_A wc H.size q → A q := by
  subst hw
  rintro q (⟨k, e, h⟩ | h)
  · have hl : k < wc.length := (List.getElem?_eq_some_iff.mp h).1
    have h2 : (w1 ++ (wc ++ w2))[w1.length + k]? = some (q, e) := by
      rw [List.getElem?_append_right (by omega), List.getElem?_append_left (by omega)]
      rw [show w1.length + k - w1.length = k by omega]; exact h
    exact hD.2 _ _ h2
  · exact hA q (Nat.le_trans hS.1 h)
theorem vsubP {D : va_G} {cl : List vw_C} {w w1 wc w2 : va_W} {H : Heap} (hw : w = w1 ++ (wc ++ w2)) (hP : va_P D cl w H) : va_P D cl wc H := by
  subst hw
  intro k q h
  have hl : k < wc.length := (List.getElem?_eq_some_iff.mp h).1
  refine hP (w1.length + k) q ?_
  rw [List.getElem?_append_right (by omega), List.getElem?_append_left (by omega)]
  rw [show w1.length + k - w1.length = k by omega]; exact h
theorem vsubD {A : Nat → Prop} {w w1 wc w2 : va_W} (hw : w = w1 ++ (wc ++ w2)) (hD : va_D A w) : va_D (fun _ => True) wc := by
  subst hw
  have key : ∀ (k : Nat) (q : Nat × va_E), wc[k]? = some q → (w1 ++ (wc ++ w2))[w1.length + k]? = some q := by
    intro k q h
    have hl : k < wc.length := (List.getElem?_eq_some_iff.mp h).1
    rw [List.getElem?_append_right (by omega), List.getElem?_append_left (by omega)]
    rw [show w1.length + k - w1.length = k by omega]; exact h
  refine ⟨fun i j x y hi hj hxy => ?_, fun _ _ _ => trivial⟩
  have := hD.1 _ _ x y (key i x hi) (key j y hj) hxy
  omega
/-- options: what comes out, came through each step -/
theorem ob_if {α : Type} {c : Prop} [Decidable c] {a : Option α} {z : α} (h : (if c then none else a) = some z) : ¬ c ∧ a = some z := by
  by_cases hc : c
  · rw [if_pos hc] at h; cases h
  · rw [if_neg hc] at h; exact ⟨hc, h⟩
theorem ob_ok {α : Type} {c : Prop} [Decidable c] {a : Option α} {z : α} (h : (if c then a else none) = some z) : c ∧ a = some z := by
  by_cases hc : c
  · rw [if_pos hc] at h; exact ⟨hc, h⟩
  · rw [if_neg hc] at h; cases h
theorem ob_bd {α β : Type} {x : Option α} {f : α → Option β} {z : β} (h : x.bind f = some z) : ∃ a, x = some a ∧ f a = some z := by
  cases x with
  | none => cases h
  | some a => exact ⟨a, rfl, h⟩
/-- a named value -/
def bd {α β : Type} (a : α) (f : α → β) : β := f a
theorem ob_nm {α β : Type} {a : α} {f : α → Option β} {z : β} (h : bd a f = some z) : ∃ x, x = a ∧ f x = some z := ⟨a, rfl, h⟩
theorem ob_t {α : Type} {c : Prop} [Decidable c] {a b : Option α} {z : α} (h : (if c then a else b) = some z) (hc : c) : a = some z := by rw [if_pos hc] at h; exact h
theorem ob_f {α : Type} {c : Prop} [Decidable c] {a b : Option α} {z : α} (h : (if c then a else b) = some z) (hc : ¬ c) : b = some z := by rw [if_neg hc] at h; exact h
/-- a table of rows: a place of one row anew -/
def up2 (u : Nat → Nat → Int32) (a i : Nat) (x : Int32) : Nat → Nat → Int32 := fun b => if b = a then upd (u a) i x else u b
section VB
variable {E : (Nat → Prop) → State → Heap → Prop} {p : Program} {l : Launch} {e : Env} {R : Room} {s : State} {m : MethodId} {args : Array Value} {below : List Frame} {meth : Method} {c : Code} {A : Nat → Prop} {D : va_G} {tys : List (ClassId × FieldType)} {cc : ByteArray} {nL : Nat} {own : String} {kc ks : Nat} {Q : State → Prop} {w : va_W} {pc : Nat} {lv lv' : List (Nat × Value)} {st : List Value}
theorem vi_iconst (C : vC E p l s m args meth c A D tys cc nL own) {n : Int} {v : Int32} (hd : decode cc pc = .ok (.iconst n, 1)) (hv : Int32.ofInt n = v) (k : vV p l e R s m args below meth c A D nL kc ks Q w (pc + 1) lv (.int v :: st)) : vV p l e R s m args below meth c A D nL kc ks Q w pc lv st := fun H locs ls hP hD hS hl => lv_iconst C.1 C.2.1 hd hv (k H locs ls hP hD hS hl)
theorem vi_bipush (C : vC E p l s m args meth c A D tys cc nL own) {n : Int} {v : Int32} (hd : decode cc pc = .ok (.bipush n, 2)) (hv : (Int8.ofInt n).toInt32 = v) (k : vV p l e R s m args below meth c A D nL kc ks Q w (pc + 2) lv (.int v :: st)) : vV p l e R s m args below meth c A D nL kc ks Q w pc lv st := fun H locs ls hP hD hS hl => lv_bipush C.1 C.2.1 hd hv (k H locs ls hP hD hS hl)
theorem vi_sipush (C : vC E p l s m args meth c A D tys cc nL own) {n : Int} {v : Int32} (hd : decode cc pc = .ok (.sipush n, 3)) (hv : (Int16.ofInt n).toInt32 = v) (k : vV p l e R s m args below meth c A D nL kc ks Q w (pc + 3) lv (.int v :: st)) : vV p l e R s m args below meth c A D nL kc ks Q w pc lv st := fun H locs ls hP hD hS hl => lv_sipush C.1 C.2.1 hd hv (k H locs ls hP hD hS hl)
theorem vi_ldc (C : vC E p l s m args meth c A D tys cc nL own) {idx : Nat} {v : Int32} (hd : decode cc pc = .ok (.ldc idx, 2)) (hm : Cond.constant own idx v ∈ wsL_law) (k : vV p l e R s m args below meth c A D nL kc ks Q w (pc + 2) lv (.int v :: st)) : vV p l e R s m args below meth c A D nL kc ks Q w pc lv st := fun H locs ls hP hD hS hl => lv_ldc C.1 C.2.1 C.2.2.2.1 (C.2.2.2.2.1 _ hm) hd (k H locs ls hP hD hS hl)
theorem vi_ldcw (C : vC E p l s m args meth c A D tys cc nL own) {idx : Nat} {v : Int32} (hd : decode cc pc = .ok (.ldc_w idx, 3)) (hm : Cond.constant own idx v ∈ wsL_law) (k : vV p l e R s m args below meth c A D nL kc ks Q w (pc + 3) lv (.int v :: st)) : vV p l e R s m args below meth c A D nL kc ks Q w pc lv st := fun H locs ls hP hD hS hl => lv_ldcw C.1 C.2.1 C.2.2.2.1 (C.2.2.2.2.1 _ hm) hd (k H locs ls hP hD hS hl)
theorem vi_ldcf (C : vC E p l s m args meth c A D tys cc nL own) {idx : Nat} {v : UInt32} (hd : decode cc pc = .ok (.ldc idx, 2)) (hm : Cond.constantFloat own idx v ∈ wsL_law) (k : vV p l e R s m args below meth c A D nL kc ks Q w (pc + 2) lv (.float v :: st)) : vV p l e R s m args below meth c A D nL kc ks Q w pc lv st := fun H locs ls hP hD hS hl => lv_ldcf C.1 C.2.1 C.2.2.2.1 (C.2.2.2.2.1 _ hm) hd (k H locs ls hP hD hS hl)
theorem vi_ldc2 (C : vC E p l s m args meth c A D tys cc nL own) {idx : Nat} {v : Int64} (hd : decode cc pc = .ok (.ldc2_w idx, 3)) (hm : Cond.constantLong own idx v ∈ wsL_law) (k : vV p l e R s m args below meth c A D nL kc ks Q w (pc + 3) lv (.long v :: st)) : vV p l e R s m args below meth c A D nL kc ks Q w pc lv st := fun H locs ls hP hD hS hl => lv_ldc2 C.1 C.2.1 C.2.2.2.1 (C.2.2.2.2.1 _ hm) hd (k H locs ls hP hD hS hl)
theorem vi_lconst (C : vC E p l s m args meth c A D tys cc nL own) {n : Fin 2} {v : Int64} (hd : decode cc pc = .ok (.lconst n, 1)) (hv : Int64.ofNat (n : Nat) = v) (k : vV p l e R s m args below meth c A D nL kc ks Q w (pc + 1) lv (.long v :: st)) : vV p l e R s m args below meth c A D nL kc ks Q w pc lv st := fun H locs ls hP hD hS hl => lv_lconst C.1 C.2.1 hd hv (k H locs ls hP hD hS hl)
theorem vi_fconst0 (C : vC E p l s m args meth c A D tys cc nL own) (hd : decode cc pc = .ok (.fconst 0, 1)) (k : vV p l e R s m args below meth c A D nL kc ks Q w (pc + 1) lv (.float FP.fconst0 :: st)) : vV p l e R s m args below meth c A D nL kc ks Q w pc lv st := fun H locs ls hP hD hS hl => lv_fconst0 C.1 C.2.1 hd (k H locs ls hP hD hS hl)
theorem vi_fconst1 (C : vC E p l s m args meth c A D tys cc nL own) (hd : decode cc pc = .ok (.fconst 1, 1)) (k : vV p l e R s m args below meth c A D nL kc ks Q w (pc + 1) lv (.float FP.fconst1 :: st)) : vV p l e R s m args below meth c A D nL kc ks Q w pc lv st := fun H locs ls hP hD hS hl => lv_fconst1 C.1 C.2.1 hd (k H locs ls hP hD hS hl)
theorem vi_fconst2 (C : vC E p l s m args meth c A D tys cc nL own) (hd : decode cc pc = .ok (.fconst 2, 1)) (k : vV p l e R s m args below meth c A D nL kc ks Q w (pc + 1) lv (.float FP.fconst2 :: st)) : vV p l e R s m args below meth c A D nL kc ks Q w pc lv st := fun H locs ls hP hD hS hl => lv_fconst2 C.1 C.2.1 hd (k H locs ls hP hD hS hl)
theorem vi_dconst0 (C : vC E p l s m args meth c A D tys cc nL own) (hd : decode cc pc = .ok (.dconst 0, 1)) (k : vV p l e R s m args below meth c A D nL kc ks Q w (pc + 1) lv (.double FP.dconst0 :: st)) : vV p l e R s m args below meth c A D nL kc ks Q w pc lv st := fun H locs ls hP hD hS hl => lv_dconst0 C.1 C.2.1 hd (k H locs ls hP hD hS hl)
theorem vi_null (C : vC E p l s m args meth c A D tys cc nL own) (hd : decode cc pc = .ok (.aconst_null, 1)) (k : vV p l e R s m args below meth c A D nL kc ks Q w (pc + 1) lv (.null :: st)) : vV p l e R s m args below meth c A D nL kc ks Q w pc lv st := fun H locs ls hP hD hS hl => lv_null C.1 C.2.1 hd (k H locs ls hP hD hS hl)
theorem vi_iload_n (C : vC E p l s m args meth c A D tys cc nL own) {i : Fin 4} {x : Int32} (j : Nat) (hd : decode cc pc = .ok (.iload_n i, 1)) (hj : lv[j]? = some ((i : Nat), Value.int x)) (k : vV p l e R s m args below meth c A D nL kc ks Q w (pc + 1) lv (.int x :: st)) : vV p l e R s m args below meth c A D nL kc ks Q w pc lv st := fun H locs ls hP hD hS hl => lv_iload_n C.1 C.2.1 hd rfl (lv_at hl j hj) (k H locs ls hP hD hS hl)
theorem vi_iload (C : vC E p l s m args meth c A D tys cc nL own) {i : Nat} {x : Int32} (j : Nat) (hd : decode cc pc = .ok (.iload i, 2)) (hj : lv[j]? = some (i, Value.int x)) (k : vV p l e R s m args below meth c A D nL kc ks Q w (pc + 2) lv (.int x :: st)) : vV p l e R s m args below meth c A D nL kc ks Q w pc lv st := fun H locs ls hP hD hS hl => lv_iload C.1 C.2.1 hd (lv_at hl j hj) (k H locs ls hP hD hS hl)
theorem vi_istore_n (C : vC E p l s m args meth c A D tys cc nL own) {f : Fin 4} {i : Nat} {x : Int32} (hd : decode cc pc = .ok (.istore_n f, 1)) (hi : (f : Nat) = i) (hn : i < nL) (hf : (i, Value.int x) :: lv.filter (fun q => !(q.1 == i) && !(q.1 + 1 == i && q.2.category == 2)) = lv') (k : vV p l e R s m args below meth c A D nL kc ks Q w (pc + 1) lv' st) : vV p l e R s m args below meth c A D nL kc ks Q w pc lv (.int x :: st) := fun H locs ls hP hD hS hl => lv_istore_n C.1 C.2.1 hd hi hl hn hf (fun ls' hl' => k H locs ls' hP hD hS hl')
theorem vi_istore (C : vC E p l s m args meth c A D tys cc nL own) {i : Nat} {x : Int32} (hd : decode cc pc = .ok (.istore i, 2)) (hn : i < nL) (hf : (i, Value.int x) :: lv.filter (fun q => !(q.1 == i) && !(q.1 + 1 == i && q.2.category == 2)) = lv') (k : vV p l e R s m args below meth c A D nL kc ks Q w (pc + 2) lv' st) : vV p l e R s m args below meth c A D nL kc ks Q w pc lv (.int x :: st) := fun H locs ls hP hD hS hl => lv_istore C.1 C.2.1 hd hl hn hf (fun ls' hl' => k H locs ls' hP hD hS hl')
theorem vi_lload_n (C : vC E p l s m args meth c A D tys cc nL own) {i : Fin 4} {x : Int64} (j : Nat) (hd : decode cc pc = .ok (.lload_n i, 1)) (hj : lv[j]? = some ((i : Nat), Value.long x)) (k : vV p l e R s m args below meth c A D nL kc ks Q w (pc + 1) lv (.long x :: st)) : vV p l e R s m args below meth c A D nL kc ks Q w pc lv st := fun H locs ls hP hD hS hl => lv_lload_n C.1 C.2.1 hd rfl (lv_at hl j hj) (k H locs ls hP hD hS hl)
theorem vi_lload (C : vC E p l s m args meth c A D tys cc nL own) {i : Nat} {x : Int64} (j : Nat) (hd : decode cc pc = .ok (.lload i, 2)) (hj : lv[j]? = some (i, Value.long x)) (k : vV p l e R s m args below meth c A D nL kc ks Q w (pc + 2) lv (.long x :: st)) : vV p l e R s m args below meth c A D nL kc ks Q w pc lv st := fun H locs ls hP hD hS hl => lv_lload C.1 C.2.1 hd (lv_at hl j hj) (k H locs ls hP hD hS hl)
theorem vi_lstore_n (C : vC E p l s m args meth c A D tys cc nL own) {f : Fin 4} {i : Nat} {x : Int64} (hd : decode cc pc = .ok (.lstore_n f, 1)) (hi : (f : Nat) = i) (hn : i + 1 < nL) (hf : (i, Value.long x) :: lv.filter (fun q => !(q.1 == i) && (!(q.1 == i + 1) && !(q.1 + 1 == i && q.2.category == 2))) = lv') (k : vV p l e R s m args below meth c A D nL kc ks Q w (pc + 1) lv' st) : vV p l e R s m args below meth c A D nL kc ks Q w pc lv (.long x :: st) := fun H locs ls hP hD hS hl => lv_lstore_n C.1 C.2.1 hd hi hl hn hf (fun ls' hl' => k H locs ls' hP hD hS hl')
theorem vi_lstore (C : vC E p l s m args meth c A D tys cc nL own) {i : Nat} {x : Int64} (hd : decode cc pc = .ok (.lstore i, 2)) (hn : i + 1 < nL) (hf : (i, Value.long x) :: lv.filter (fun q => !(q.1 == i) && (!(q.1 == i + 1) && !(q.1 + 1 == i && q.2.category == 2))) = lv') (k : vV p l e R s m args below meth c A D nL kc ks Q w (pc + 2) lv' st) : vV p l e R s m args below meth c A D nL kc ks Q w pc lv (.long x :: st) := fun H locs ls hP hD hS hl => lv_lstore C.1 C.2.1 hd hl hn hf (fun ls' hl' => k H locs ls' hP hD hS hl')
theorem vi_fload_n (C : vC E p l s m args meth c A D tys cc nL own) {i : Fin 4} {x : UInt32} (j : Nat) (hd : decode cc pc = .ok (.fload_n i, 1)) (hj : lv[j]? = some ((i : Nat), Value.float x)) (k : vV p l e R s m args below meth c A D nL kc ks Q w (pc + 1) lv (.float x :: st)) : vV p l e R s m args below meth c A D nL kc ks Q w pc lv st := fun H locs ls hP hD hS hl => lv_fload_n C.1 C.2.1 hd rfl (lv_at hl j hj) (k H locs ls hP hD hS hl)
theorem vi_fload (C : vC E p l s m args meth c A D tys cc nL own) {i : Nat} {x : UInt32} (j : Nat) (hd : decode cc pc = .ok (.fload i, 2)) (hj : lv[j]? = some (i, Value.float x)) (k : vV p l e R s m args below meth c A D nL kc ks Q w (pc + 2) lv (.float x :: st)) : vV p l e R s m args below meth c A D nL kc ks Q w pc lv st := fun H locs ls hP hD hS hl => lv_fload C.1 C.2.1 hd (lv_at hl j hj) (k H locs ls hP hD hS hl)
theorem vi_fstore_n (C : vC E p l s m args meth c A D tys cc nL own) {f : Fin 4} {i : Nat} {x : UInt32} (hd : decode cc pc = .ok (.fstore_n f, 1)) (hi : (f : Nat) = i) (hn : i < nL) (hf : (i, Value.float x) :: lv.filter (fun q => !(q.1 == i) && !(q.1 + 1 == i && q.2.category == 2)) = lv') (k : vV p l e R s m args below meth c A D nL kc ks Q w (pc + 1) lv' st) : vV p l e R s m args below meth c A D nL kc ks Q w pc lv (.float x :: st) := fun H locs ls hP hD hS hl => lv_fstore_n C.1 C.2.1 hd hi hl hn hf (fun ls' hl' => k H locs ls' hP hD hS hl')
theorem vi_fstore (C : vC E p l s m args meth c A D tys cc nL own) {i : Nat} {x : UInt32} (hd : decode cc pc = .ok (.fstore i, 2)) (hn : i < nL) (hf : (i, Value.float x) :: lv.filter (fun q => !(q.1 == i) && !(q.1 + 1 == i && q.2.category == 2)) = lv') (k : vV p l e R s m args below meth c A D nL kc ks Q w (pc + 2) lv' st) : vV p l e R s m args below meth c A D nL kc ks Q w pc lv (.float x :: st) := fun H locs ls hP hD hS hl => lv_fstore C.1 C.2.1 hd hl hn hf (fun ls' hl' => k H locs ls' hP hD hS hl')
theorem vi_dload_n (C : vC E p l s m args meth c A D tys cc nL own) {i : Fin 4} {x : UInt64} (j : Nat) (hd : decode cc pc = .ok (.dload_n i, 1)) (hj : lv[j]? = some ((i : Nat), Value.double x)) (k : vV p l e R s m args below meth c A D nL kc ks Q w (pc + 1) lv (.double x :: st)) : vV p l e R s m args below meth c A D nL kc ks Q w pc lv st := fun H locs ls hP hD hS hl => lv_dload_n C.1 C.2.1 hd rfl (lv_at hl j hj) (k H locs ls hP hD hS hl)
theorem vi_dload (C : vC E p l s m args meth c A D tys cc nL own) {i : Nat} {x : UInt64} (j : Nat) (hd : decode cc pc = .ok (.dload i, 2)) (hj : lv[j]? = some (i, Value.double x)) (k : vV p l e R s m args below meth c A D nL kc ks Q w (pc + 2) lv (.double x :: st)) : vV p l e R s m args below meth c A D nL kc ks Q w pc lv st := fun H locs ls hP hD hS hl => lv_dload C.1 C.2.1 hd (lv_at hl j hj) (k H locs ls hP hD hS hl)
theorem vi_dstore_n (C : vC E p l s m args meth c A D tys cc nL own) {f : Fin 4} {i : Nat} {x : UInt64} (hd : decode cc pc = .ok (.dstore_n f, 1)) (hi : (f : Nat) = i) (hn : i + 1 < nL) (hf : (i, Value.double x) :: lv.filter (fun q => !(q.1 == i) && (!(q.1 == i + 1) && !(q.1 + 1 == i && q.2.category == 2))) = lv') (k : vV p l e R s m args below meth c A D nL kc ks Q w (pc + 1) lv' st) : vV p l e R s m args below meth c A D nL kc ks Q w pc lv (.double x :: st) := fun H locs ls hP hD hS hl => lv_dstore_n C.1 C.2.1 hd hi hl hn hf (fun ls' hl' => k H locs ls' hP hD hS hl')
theorem vi_dstore (C : vC E p l s m args meth c A D tys cc nL own) {i : Nat} {x : UInt64} (hd : decode cc pc = .ok (.dstore i, 2)) (hn : i + 1 < nL) (hf : (i, Value.double x) :: lv.filter (fun q => !(q.1 == i) && (!(q.1 == i + 1) && !(q.1 + 1 == i && q.2.category == 2))) = lv') (k : vV p l e R s m args below meth c A D nL kc ks Q w (pc + 2) lv' st) : vV p l e R s m args below meth c A D nL kc ks Q w pc lv (.double x :: st) := fun H locs ls hP hD hS hl => lv_dstore C.1 C.2.1 hd hl hn hf (fun ls' hl' => k H locs ls' hP hD hS hl')
theorem vi_aload_n (C : vC E p l s m args meth c A D tys cc nL own) {i : Fin 4} {x : Nat} (j : Nat) (hd : decode cc pc = .ok (.aload_n i, 1)) (hj : lv[j]? = some ((i : Nat), Value.ref x)) (k : vV p l e R s m args below meth c A D nL kc ks Q w (pc + 1) lv (.ref x :: st)) : vV p l e R s m args below meth c A D nL kc ks Q w pc lv st := fun H locs ls hP hD hS hl => lv_aload_n C.1 C.2.1 hd rfl (lv_at hl j hj) (k H locs ls hP hD hS hl)
theorem vi_aload (C : vC E p l s m args meth c A D tys cc nL own) {i : Nat} {x : Nat} (j : Nat) (hd : decode cc pc = .ok (.aload i, 2)) (hj : lv[j]? = some (i, Value.ref x)) (k : vV p l e R s m args below meth c A D nL kc ks Q w (pc + 2) lv (.ref x :: st)) : vV p l e R s m args below meth c A D nL kc ks Q w pc lv st := fun H locs ls hP hD hS hl => lv_aload C.1 C.2.1 hd (lv_at hl j hj) (k H locs ls hP hD hS hl)
theorem vi_astore_n (C : vC E p l s m args meth c A D tys cc nL own) {f : Fin 4} {i : Nat} {x : Nat} (hd : decode cc pc = .ok (.astore_n f, 1)) (hi : (f : Nat) = i) (hn : i < nL) (hf : (i, Value.ref x) :: lv.filter (fun q => !(q.1 == i) && !(q.1 + 1 == i && q.2.category == 2)) = lv') (k : vV p l e R s m args below meth c A D nL kc ks Q w (pc + 1) lv' st) : vV p l e R s m args below meth c A D nL kc ks Q w pc lv (.ref x :: st) := fun H locs ls hP hD hS hl => lv_astore_n C.1 C.2.1 hd hi hl hn hf (fun ls' hl' => k H locs ls' hP hD hS hl')
theorem vi_astore (C : vC E p l s m args meth c A D tys cc nL own) {i : Nat} {x : Nat} (hd : decode cc pc = .ok (.astore i, 2)) (hn : i < nL) (hf : (i, Value.ref x) :: lv.filter (fun q => !(q.1 == i) && !(q.1 + 1 == i && q.2.category == 2)) = lv') (k : vV p l e R s m args below meth c A D nL kc ks Q w (pc + 2) lv' st) : vV p l e R s m args below meth c A D nL kc ks Q w pc lv (.ref x :: st) := fun H locs ls hP hD hS hl => lv_astore C.1 C.2.1 hd hl hn hf (fun ls' hl' => k H locs ls' hP hD hS hl')
theorem vi_iinc (C : vC E p l s m args meth c A D tys cc nL own) {i : Nat} {n : Int} {x v : Int32} (j : Nat) (hd : decode cc pc = .ok (.iinc i n, 3)) (hj : lv[j]? = some (i, .int x)) (hv : x + Int32.ofInt n = v) (hn : i < nL) (hf : (i, Value.int v) :: lv.filter (fun q => !(q.1 == i) && !(q.1 + 1 == i && q.2.category == 2)) = lv') (k : vV p l e R s m args below meth c A D nL kc ks Q w (pc + 3) lv' st) : vV p l e R s m args below meth c A D nL kc ks Q w pc lv st := fun H locs ls hP hD hS hl => lv_iinc C.1 C.2.1 hd hl hj hv hn hf (fun ls' hl' => k H locs ls' hP hD hS hl')
theorem vi_iadd (C : vC E p l s m args meth c A D tys cc nL own) {x y : Int32} (hd : decode cc pc = .ok (.iadd, 1)) (k : vV p l e R s m args below meth c A D nL kc ks Q w (pc + 1) lv (.int (x + y) :: st)) : vV p l e R s m args below meth c A D nL kc ks Q w pc lv (.int y :: .int x :: st) := fun H locs ls hP hD hS hl => lv_iadd C.1 C.2.1 hd (k H locs ls hP hD hS hl)
theorem vi_isub (C : vC E p l s m args meth c A D tys cc nL own) {x y : Int32} (hd : decode cc pc = .ok (.isub, 1)) (k : vV p l e R s m args below meth c A D nL kc ks Q w (pc + 1) lv (.int (x - y) :: st)) : vV p l e R s m args below meth c A D nL kc ks Q w pc lv (.int y :: .int x :: st) := fun H locs ls hP hD hS hl => lv_isub C.1 C.2.1 hd (k H locs ls hP hD hS hl)
theorem vi_imul (C : vC E p l s m args meth c A D tys cc nL own) {x y : Int32} (hd : decode cc pc = .ok (.imul, 1)) (k : vV p l e R s m args below meth c A D nL kc ks Q w (pc + 1) lv (.int (x * y) :: st)) : vV p l e R s m args below meth c A D nL kc ks Q w pc lv (.int y :: .int x :: st) := fun H locs ls hP hD hS hl => lv_imul C.1 C.2.1 hd (k H locs ls hP hD hS hl)
theorem vi_iand (C : vC E p l s m args meth c A D tys cc nL own) {x y : Int32} (hd : decode cc pc = .ok (.iand, 1)) (k : vV p l e R s m args below meth c A D nL kc ks Q w (pc + 1) lv (.int (x &&& y) :: st)) : vV p l e R s m args below meth c A D nL kc ks Q w pc lv (.int y :: .int x :: st) := fun H locs ls hP hD hS hl => lv_iand C.1 C.2.1 hd (k H locs ls hP hD hS hl)
theorem vi_ior (C : vC E p l s m args meth c A D tys cc nL own) {x y : Int32} (hd : decode cc pc = .ok (.ior, 1)) (k : vV p l e R s m args below meth c A D nL kc ks Q w (pc + 1) lv (.int (x ||| y) :: st)) : vV p l e R s m args below meth c A D nL kc ks Q w pc lv (.int y :: .int x :: st) := fun H locs ls hP hD hS hl => lv_ior C.1 C.2.1 hd (k H locs ls hP hD hS hl)
theorem vi_ixor (C : vC E p l s m args meth c A D tys cc nL own) {x y : Int32} (hd : decode cc pc = .ok (.ixor, 1)) (k : vV p l e R s m args below meth c A D nL kc ks Q w (pc + 1) lv (.int (x ^^^ y) :: st)) : vV p l e R s m args below meth c A D nL kc ks Q w pc lv (.int y :: .int x :: st) := fun H locs ls hP hD hS hl => lv_ixor C.1 C.2.1 hd (k H locs ls hP hD hS hl)
theorem vi_ishl (C : vC E p l s m args meth c A D tys cc nL own) {x y : Int32} (hd : decode cc pc = .ok (.ishl, 1)) (k : vV p l e R s m args below meth c A D nL kc ks Q w (pc + 1) lv (.int (x <<< (y &&& 31)) :: st)) : vV p l e R s m args below meth c A D nL kc ks Q w pc lv (.int y :: .int x :: st) := fun H locs ls hP hD hS hl => lv_ishl C.1 C.2.1 hd (k H locs ls hP hD hS hl)
theorem vi_ishr (C : vC E p l s m args meth c A D tys cc nL own) {x y : Int32} (hd : decode cc pc = .ok (.ishr, 1)) (k : vV p l e R s m args below meth c A D nL kc ks Q w (pc + 1) lv (.int (x >>> (y &&& 31)) :: st)) : vV p l e R s m args below meth c A D nL kc ks Q w pc lv (.int y :: .int x :: st) := fun H locs ls hP hD hS hl => lv_ishr C.1 C.2.1 hd (k H locs ls hP hD hS hl)
theorem vi_idiv (C : vC E p l s m args meth c A D tys cc nL own) {x y : Int32} (hd : decode cc pc = .ok (.idiv, 1)) (hne : ¬ y = 0) (k : vV p l e R s m args below meth c A D nL kc ks Q w (pc + 1) lv (.int (x / y) :: st)) : vV p l e R s m args below meth c A D nL kc ks Q w pc lv (.int y :: .int x :: st) := fun H locs ls hP hD hS hl => lv_idiv C.1 C.2.1 hd hne (k H locs ls hP hD hS hl)
theorem vi_irem (C : vC E p l s m args meth c A D tys cc nL own) {x y : Int32} (hd : decode cc pc = .ok (.irem, 1)) (hne : ¬ y = 0) (k : vV p l e R s m args below meth c A D nL kc ks Q w (pc + 1) lv (.int (x - x / y * y) :: st)) : vV p l e R s m args below meth c A D nL kc ks Q w pc lv (.int y :: .int x :: st) := fun H locs ls hP hD hS hl => lv_irem C.1 C.2.1 hd hne (k H locs ls hP hD hS hl)
theorem vi_ladd (C : vC E p l s m args meth c A D tys cc nL own) {x y : Int64} (hd : decode cc pc = .ok (.ladd, 1)) (k : vV p l e R s m args below meth c A D nL kc ks Q w (pc + 1) lv (.long (x + y) :: st)) : vV p l e R s m args below meth c A D nL kc ks Q w pc lv (.long y :: .long x :: st) := fun H locs ls hP hD hS hl => lv_ladd C.1 C.2.1 hd (k H locs ls hP hD hS hl)
theorem vi_lsub (C : vC E p l s m args meth c A D tys cc nL own) {x y : Int64} (hd : decode cc pc = .ok (.lsub, 1)) (k : vV p l e R s m args below meth c A D nL kc ks Q w (pc + 1) lv (.long (x - y) :: st)) : vV p l e R s m args below meth c A D nL kc ks Q w pc lv (.long y :: .long x :: st) := fun H locs ls hP hD hS hl => lv_lsub C.1 C.2.1 hd (k H locs ls hP hD hS hl)
theorem vi_lor (C : vC E p l s m args meth c A D tys cc nL own) {x y : Int64} (hd : decode cc pc = .ok (.lor, 1)) (k : vV p l e R s m args below meth c A D nL kc ks Q w (pc + 1) lv (.long (x ||| y) :: st)) : vV p l e R s m args below meth c A D nL kc ks Q w pc lv (.long y :: .long x :: st) := fun H locs ls hP hD hS hl => lv_lor C.1 C.2.1 hd (k H locs ls hP hD hS hl)
theorem vi_ldiv (C : vC E p l s m args meth c A D tys cc nL own) {x y : Int64} (hd : decode cc pc = .ok (.ldiv, 1)) (hne : ¬ y = 0) (k : vV p l e R s m args below meth c A D nL kc ks Q w (pc + 1) lv (.long (x / y) :: st)) : vV p l e R s m args below meth c A D nL kc ks Q w pc lv (.long y :: .long x :: st) := fun H locs ls hP hD hS hl => lv_ldiv C.1 C.2.1 hd hne (k H locs ls hP hD hS hl)
theorem vi_lrem (C : vC E p l s m args meth c A D tys cc nL own) {x y : Int64} (hd : decode cc pc = .ok (.lrem, 1)) (hne : ¬ y = 0) (k : vV p l e R s m args below meth c A D nL kc ks Q w (pc + 1) lv (.long (x - x / y * y) :: st)) : vV p l e R s m args below meth c A D nL kc ks Q w pc lv (.long y :: .long x :: st) := fun H locs ls hP hD hS hl => lv_lrem C.1 C.2.1 hd hne (k H locs ls hP hD hS hl)
theorem vi_fadd (C : vC E p l s m args meth c A D tys cc nL own) {x y : UInt32} (hd : decode cc pc = .ok (.fadd, 1)) (hne : vf_n32 (FP.fadd x y)) (k : vV p l e R s m args below meth c A D nL kc ks Q w (pc + 1) lv (.float (FP.fadd x y) :: st)) : vV p l e R s m args below meth c A D nL kc ks Q w pc lv (.float y :: .float x :: st) := fun H locs ls hP hD hS hl => lv_fadd C.1 C.2.1 hd hne (k H locs ls hP hD hS hl)
theorem vi_fsub (C : vC E p l s m args meth c A D tys cc nL own) {x y : UInt32} (hd : decode cc pc = .ok (.fsub, 1)) (hne : vf_n32 (FP.fsub x y)) (k : vV p l e R s m args below meth c A D nL kc ks Q w (pc + 1) lv (.float (FP.fsub x y) :: st)) : vV p l e R s m args below meth c A D nL kc ks Q w pc lv (.float y :: .float x :: st) := fun H locs ls hP hD hS hl => lv_fsub C.1 C.2.1 hd hne (k H locs ls hP hD hS hl)
theorem vi_fmul (C : vC E p l s m args meth c A D tys cc nL own) {x y : UInt32} (hd : decode cc pc = .ok (.fmul, 1)) (hne : vf_n32 (FP.fmul x y)) (k : vV p l e R s m args below meth c A D nL kc ks Q w (pc + 1) lv (.float (FP.fmul x y) :: st)) : vV p l e R s m args below meth c A D nL kc ks Q w pc lv (.float y :: .float x :: st) := fun H locs ls hP hD hS hl => lv_fmul C.1 C.2.1 hd hne (k H locs ls hP hD hS hl)
theorem vi_fdiv (C : vC E p l s m args meth c A D tys cc nL own) {x y : UInt32} (hd : decode cc pc = .ok (.fdiv, 1)) (hne : vf_n32 (FP.fdiv x y)) (k : vV p l e R s m args below meth c A D nL kc ks Q w (pc + 1) lv (.float (FP.fdiv x y) :: st)) : vV p l e R s m args below meth c A D nL kc ks Q w pc lv (.float y :: .float x :: st) := fun H locs ls hP hD hS hl => lv_fdiv C.1 C.2.1 hd hne (k H locs ls hP hD hS hl)
theorem vi_ddiv (C : vC E p l s m args meth c A D tys cc nL own) {x y : UInt64} (hd : decode cc pc = .ok (.ddiv, 1)) (hne : vf_n64 (FP.ddiv x y)) (k : vV p l e R s m args below meth c A D nL kc ks Q w (pc + 1) lv (.double (FP.ddiv x y) :: st)) : vV p l e R s m args below meth c A D nL kc ks Q w pc lv (.double y :: .double x :: st) := fun H locs ls hP hD hS hl => lv_ddiv C.1 C.2.1 hd hne (k H locs ls hP hD hS hl)
theorem vi_lshl (C : vC E p l s m args meth c A D tys cc nL own) {x : Int64} {y : Int32} (hd : decode cc pc = .ok (.lshl, 1)) (k : vV p l e R s m args below meth c A D nL kc ks Q w (pc + 1) lv (.long (x <<< (y.toInt64 &&& 63)) :: st)) : vV p l e R s m args below meth c A D nL kc ks Q w pc lv (.int y :: .long x :: st) := fun H locs ls hP hD hS hl => lv_lshl C.1 C.2.1 hd rfl (k H locs ls hP hD hS hl)
theorem vi_lcmp (C : vC E p l s m args meth c A D tys cc nL own) {x y : Int64} (hd : decode cc pc = .ok (.lcmp, 1)) (k : vV p l e R s m args below meth c A D nL kc ks Q w (pc + 1) lv (.int (lg_cmp x y) :: st)) : vV p l e R s m args below meth c A D nL kc ks Q w pc lv (.long y :: .long x :: st) := fun H locs ls hP hD hS hl => W.lcmp C.1 C.2.1 hd (k H locs ls hP hD hS hl)
theorem vi_ineg (C : vC E p l s m args meth c A D tys cc nL own) {x : Int32} (hd : decode cc pc = .ok (.ineg, 1)) (k : vV p l e R s m args below meth c A D nL kc ks Q w (pc + 1) lv (.int (-x) :: st)) : vV p l e R s m args below meth c A D nL kc ks Q w pc lv (.int x :: st) := fun H locs ls hP hD hS hl => lv_ineg C.1 C.2.1 hd (k H locs ls hP hD hS hl)
theorem vi_lneg (C : vC E p l s m args meth c A D tys cc nL own) {x : Int64} (hd : decode cc pc = .ok (.lneg, 1)) (k : vV p l e R s m args below meth c A D nL kc ks Q w (pc + 1) lv (.long (-x) :: st)) : vV p l e R s m args below meth c A D nL kc ks Q w pc lv (.long x :: st) := fun H locs ls hP hD hS hl => lv_lneg C.1 C.2.1 hd (k H locs ls hP hD hS hl)
theorem vi_fneg (C : vC E p l s m args meth c A D tys cc nL own) {x : UInt32} (hd : decode cc pc = .ok (.fneg, 1)) (k : vV p l e R s m args below meth c A D nL kc ks Q w (pc + 1) lv (.float (FP.fneg x) :: st)) : vV p l e R s m args below meth c A D nL kc ks Q w pc lv (.float x :: st) := fun H locs ls hP hD hS hl => lv_fneg C.1 C.2.1 hd (k H locs ls hP hD hS hl)
theorem vi_i2l (C : vC E p l s m args meth c A D tys cc nL own) {x : Int32} (hd : decode cc pc = .ok (.i2l, 1)) (k : vV p l e R s m args below meth c A D nL kc ks Q w (pc + 1) lv (.long (x.toInt64) :: st)) : vV p l e R s m args below meth c A D nL kc ks Q w pc lv (.int x :: st) := fun H locs ls hP hD hS hl => lv_i2l C.1 C.2.1 hd rfl (k H locs ls hP hD hS hl)
theorem vi_l2i (C : vC E p l s m args meth c A D tys cc nL own) {x : Int64} (hd : decode cc pc = .ok (.l2i, 1)) (k : vV p l e R s m args below meth c A D nL kc ks Q w (pc + 1) lv (.int (x.toInt32) :: st)) : vV p l e R s m args below meth c A D nL kc ks Q w pc lv (.long x :: st) := fun H locs ls hP hD hS hl => lv_l2i C.1 C.2.1 hd rfl (k H locs ls hP hD hS hl)
theorem vi_i2c (C : vC E p l s m args meth c A D tys cc nL own) {x : Int32} (hd : decode cc pc = .ok (.i2c, 1)) (k : vV p l e R s m args below meth c A D nL kc ks Q w (pc + 1) lv (.int ((x.toUInt32 % 65536).toInt32) :: st)) : vV p l e R s m args below meth c A D nL kc ks Q w pc lv (.int x :: st) := fun H locs ls hP hD hS hl => lv_i2c C.1 C.2.1 hd rfl (k H locs ls hP hD hS hl)
theorem vi_i2f (C : vC E p l s m args meth c A D tys cc nL own) {x : Int32} (hd : decode cc pc = .ok (.i2f, 1)) (k : vV p l e R s m args below meth c A D nL kc ks Q w (pc + 1) lv (.float (FP.i2f x) :: st)) : vV p l e R s m args below meth c A D nL kc ks Q w pc lv (.int x :: st) := fun H locs ls hP hD hS hl => lv_i2f C.1 C.2.1 hd (k H locs ls hP hD hS hl)
theorem vi_f2i (C : vC E p l s m args meth c A D tys cc nL own) {x : UInt32} (hd : decode cc pc = .ok (.f2i, 1)) (k : vV p l e R s m args below meth c A D nL kc ks Q w (pc + 1) lv (.int (FP.f2i x) :: st)) : vV p l e R s m args below meth c A D nL kc ks Q w pc lv (.float x :: st) := fun H locs ls hP hD hS hl => lv_f2i C.1 C.2.1 hd (k H locs ls hP hD hS hl)
theorem vi_i2d (C : vC E p l s m args meth c A D tys cc nL own) {x : Int32} (hd : decode cc pc = .ok (.i2d, 1)) (k : vV p l e R s m args below meth c A D nL kc ks Q w (pc + 1) lv (.double (FP.i2d x) :: st)) : vV p l e R s m args below meth c A D nL kc ks Q w pc lv (.int x :: st) := fun H locs ls hP hD hS hl => lv_i2d C.1 C.2.1 hd (k H locs ls hP hD hS hl)
theorem vi_f2d (C : vC E p l s m args meth c A D tys cc nL own) {x : UInt32} (hd : decode cc pc = .ok (.f2d, 1)) (hne : vf_n64 (FP.f2d x)) (k : vV p l e R s m args below meth c A D nL kc ks Q w (pc + 1) lv (.double (FP.f2d x) :: st)) : vV p l e R s m args below meth c A D nL kc ks Q w pc lv (.float x :: st) := fun H locs ls hP hD hS hl => lv_f2d C.1 C.2.1 hd hne (k H locs ls hP hD hS hl)
theorem vi_fcmp (C : vC E p l s m args meth c A D tys cc nL own) {x y : UInt32} {op : CmpOp} (hd : decode cc pc = .ok (.fcmp op, 1)) (k : vV p l e R s m args below meth c A D nL kc ks Q w (pc + 1) lv (.int (Op.cmpValue (FP.fcmp x y) op) :: st)) : vV p l e R s m args below meth c A D nL kc ks Q w pc lv (.float y :: .float x :: st) := fun H locs ls hP hD hS hl => lv_fcmp C.1 C.2.1 hd (k H locs ls hP hD hS hl)
theorem vi_dcmp (C : vC E p l s m args meth c A D tys cc nL own) {x y : UInt64} {op : CmpOp} (hd : decode cc pc = .ok (.dcmp op, 1)) (k : vV p l e R s m args below meth c A D nL kc ks Q w (pc + 1) lv (.int (Op.cmpValue (FP.dcmp x y) op) :: st)) : vV p l e R s m args below meth c A D nL kc ks Q w pc lv (.double y :: .double x :: st) := fun H locs ls hP hD hS hl => lv_dcmp C.1 C.2.1 hd (k H locs ls hP hD hS hl)
theorem vi_dup (C : vC E p l s m args meth c A D tys cc nL own) {va : Value} (hd : decode cc pc = .ok (.dup, 1)) (hc : va.category = 1) (k : vV p l e R s m args below meth c A D nL kc ks Q w (pc + 1) lv (va :: va :: st)) : vV p l e R s m args below meth c A D nL kc ks Q w pc lv (va :: st) := fun H locs ls hP hD hS hl => lv_dup C.1 C.2.1 hd hc (k H locs ls hP hD hS hl)
theorem vi_dup2 (C : vC E p l s m args meth c A D tys cc nL own) {va vb : Value} (hd : decode cc pc = .ok (.dup2, 1)) (hc : va.category = 1) (hc2 : vb.category = 1) (k : vV p l e R s m args below meth c A D nL kc ks Q w (pc + 1) lv (va :: vb :: va :: vb :: st)) : vV p l e R s m args below meth c A D nL kc ks Q w pc lv (va :: vb :: st) := fun H locs ls hP hD hS hl => lv_dup2_11 C.1 C.2.1 hd hc hc2 (k H locs ls hP hD hS hl)
theorem vi_if_eq (C : vC E p l s m args meth c A D tys cc nL own) {x : Int32} {off : Int} {tgt : Nat} (hd : decode cc pc = .ok (.ifCond .eq off, 3)) (ht : (pc : Int) + off = (tgt : Int)) (kt : x = 0 → vV p l e R s m args below meth c A D nL kc ks Q w tgt lv st) (kf : ¬ x = 0 → vV p l e R s m args below meth c A D nL kc ks Q w (pc + 3) lv st) : vV p l e R s m args below meth c A D nL kc ks Q w pc lv (.int x :: st) := fun H locs ls hP hD hS hl => lv_if_eq C.1 C.2.1 hd ht (fun z => kt z H locs ls hP hD hS hl) (fun z => kf z H locs ls hP hD hS hl)
theorem vi_icmp_eq (C : vC E p l s m args meth c A D tys cc nL own) {x y : Int32} {off : Int} {tgt : Nat} (hd : decode cc pc = .ok (.if_icmp .eq off, 3)) (ht : (pc : Int) + off = (tgt : Int)) (kt : x = y → vV p l e R s m args below meth c A D nL kc ks Q w tgt lv st) (kf : ¬ x = y → vV p l e R s m args below meth c A D nL kc ks Q w (pc + 3) lv st) : vV p l e R s m args below meth c A D nL kc ks Q w pc lv (.int y :: .int x :: st) := fun H locs ls hP hD hS hl => lv_icmp_eq C.1 C.2.1 hd ht (fun z => kt z H locs ls hP hD hS hl) (fun z => kf z H locs ls hP hD hS hl)
theorem vi_if_ne (C : vC E p l s m args meth c A D tys cc nL own) {x : Int32} {off : Int} {tgt : Nat} (hd : decode cc pc = .ok (.ifCond .ne off, 3)) (ht : (pc : Int) + off = (tgt : Int)) (kt : ¬ x = 0 → vV p l e R s m args below meth c A D nL kc ks Q w tgt lv st) (kf : x = 0 → vV p l e R s m args below meth c A D nL kc ks Q w (pc + 3) lv st) : vV p l e R s m args below meth c A D nL kc ks Q w pc lv (.int x :: st) := fun H locs ls hP hD hS hl => lv_if_ne C.1 C.2.1 hd ht (fun z => kt z H locs ls hP hD hS hl) (fun z => kf z H locs ls hP hD hS hl)
theorem vi_icmp_ne (C : vC E p l s m args meth c A D tys cc nL own) {x y : Int32} {off : Int} {tgt : Nat} (hd : decode cc pc = .ok (.if_icmp .ne off, 3)) (ht : (pc : Int) + off = (tgt : Int)) (kt : ¬ x = y → vV p l e R s m args below meth c A D nL kc ks Q w tgt lv st) (kf : x = y → vV p l e R s m args below meth c A D nL kc ks Q w (pc + 3) lv st) : vV p l e R s m args below meth c A D nL kc ks Q w pc lv (.int y :: .int x :: st) := fun H locs ls hP hD hS hl => lv_icmp_ne C.1 C.2.1 hd ht (fun z => kt z H locs ls hP hD hS hl) (fun z => kf z H locs ls hP hD hS hl)
theorem vi_if_lt (C : vC E p l s m args meth c A D tys cc nL own) {x : Int32} {off : Int} {tgt : Nat} (hd : decode cc pc = .ok (.ifCond .lt off, 3)) (ht : (pc : Int) + off = (tgt : Int)) (kt : x < 0 → vV p l e R s m args below meth c A D nL kc ks Q w tgt lv st) (kf : ¬ x < 0 → vV p l e R s m args below meth c A D nL kc ks Q w (pc + 3) lv st) : vV p l e R s m args below meth c A D nL kc ks Q w pc lv (.int x :: st) := fun H locs ls hP hD hS hl => lv_if_lt C.1 C.2.1 hd ht (fun z => kt z H locs ls hP hD hS hl) (fun z => kf z H locs ls hP hD hS hl)
theorem vi_icmp_lt (C : vC E p l s m args meth c A D tys cc nL own) {x y : Int32} {off : Int} {tgt : Nat} (hd : decode cc pc = .ok (.if_icmp .lt off, 3)) (ht : (pc : Int) + off = (tgt : Int)) (kt : x < y → vV p l e R s m args below meth c A D nL kc ks Q w tgt lv st) (kf : ¬ x < y → vV p l e R s m args below meth c A D nL kc ks Q w (pc + 3) lv st) : vV p l e R s m args below meth c A D nL kc ks Q w pc lv (.int y :: .int x :: st) := fun H locs ls hP hD hS hl => lv_icmp_lt C.1 C.2.1 hd ht (fun z => kt z H locs ls hP hD hS hl) (fun z => kf z H locs ls hP hD hS hl)
theorem vi_if_ge (C : vC E p l s m args meth c A D tys cc nL own) {x : Int32} {off : Int} {tgt : Nat} (hd : decode cc pc = .ok (.ifCond .ge off, 3)) (ht : (pc : Int) + off = (tgt : Int)) (kt : 0 ≤ x → vV p l e R s m args below meth c A D nL kc ks Q w tgt lv st) (kf : ¬ 0 ≤ x → vV p l e R s m args below meth c A D nL kc ks Q w (pc + 3) lv st) : vV p l e R s m args below meth c A D nL kc ks Q w pc lv (.int x :: st) := fun H locs ls hP hD hS hl => lv_if_ge C.1 C.2.1 hd ht (fun z => kt z H locs ls hP hD hS hl) (fun z => kf z H locs ls hP hD hS hl)
theorem vi_icmp_ge (C : vC E p l s m args meth c A D tys cc nL own) {x y : Int32} {off : Int} {tgt : Nat} (hd : decode cc pc = .ok (.if_icmp .ge off, 3)) (ht : (pc : Int) + off = (tgt : Int)) (kt : y ≤ x → vV p l e R s m args below meth c A D nL kc ks Q w tgt lv st) (kf : ¬ y ≤ x → vV p l e R s m args below meth c A D nL kc ks Q w (pc + 3) lv st) : vV p l e R s m args below meth c A D nL kc ks Q w pc lv (.int y :: .int x :: st) := fun H locs ls hP hD hS hl => lv_icmp_ge C.1 C.2.1 hd ht (fun z => kt z H locs ls hP hD hS hl) (fun z => kf z H locs ls hP hD hS hl)
theorem vi_if_gt (C : vC E p l s m args meth c A D tys cc nL own) {x : Int32} {off : Int} {tgt : Nat} (hd : decode cc pc = .ok (.ifCond .gt off, 3)) (ht : (pc : Int) + off = (tgt : Int)) (kt : 0 < x → vV p l e R s m args below meth c A D nL kc ks Q w tgt lv st) (kf : ¬ 0 < x → vV p l e R s m args below meth c A D nL kc ks Q w (pc + 3) lv st) : vV p l e R s m args below meth c A D nL kc ks Q w pc lv (.int x :: st) := fun H locs ls hP hD hS hl => lv_if_gt C.1 C.2.1 hd ht (fun z => kt z H locs ls hP hD hS hl) (fun z => kf z H locs ls hP hD hS hl)
theorem vi_icmp_gt (C : vC E p l s m args meth c A D tys cc nL own) {x y : Int32} {off : Int} {tgt : Nat} (hd : decode cc pc = .ok (.if_icmp .gt off, 3)) (ht : (pc : Int) + off = (tgt : Int)) (kt : y < x → vV p l e R s m args below meth c A D nL kc ks Q w tgt lv st) (kf : ¬ y < x → vV p l e R s m args below meth c A D nL kc ks Q w (pc + 3) lv st) : vV p l e R s m args below meth c A D nL kc ks Q w pc lv (.int y :: .int x :: st) := fun H locs ls hP hD hS hl => lv_icmp_gt C.1 C.2.1 hd ht (fun z => kt z H locs ls hP hD hS hl) (fun z => kf z H locs ls hP hD hS hl)
theorem vi_if_le (C : vC E p l s m args meth c A D tys cc nL own) {x : Int32} {off : Int} {tgt : Nat} (hd : decode cc pc = .ok (.ifCond .le off, 3)) (ht : (pc : Int) + off = (tgt : Int)) (kt : x ≤ 0 → vV p l e R s m args below meth c A D nL kc ks Q w tgt lv st) (kf : ¬ x ≤ 0 → vV p l e R s m args below meth c A D nL kc ks Q w (pc + 3) lv st) : vV p l e R s m args below meth c A D nL kc ks Q w pc lv (.int x :: st) := fun H locs ls hP hD hS hl => lv_if_le C.1 C.2.1 hd ht (fun z => kt z H locs ls hP hD hS hl) (fun z => kf z H locs ls hP hD hS hl)
theorem vi_icmp_le (C : vC E p l s m args meth c A D tys cc nL own) {x y : Int32} {off : Int} {tgt : Nat} (hd : decode cc pc = .ok (.if_icmp .le off, 3)) (ht : (pc : Int) + off = (tgt : Int)) (kt : x ≤ y → vV p l e R s m args below meth c A D nL kc ks Q w tgt lv st) (kf : ¬ x ≤ y → vV p l e R s m args below meth c A D nL kc ks Q w (pc + 3) lv st) : vV p l e R s m args below meth c A D nL kc ks Q w pc lv (.int y :: .int x :: st) := fun H locs ls hP hD hS hl => lv_icmp_le C.1 C.2.1 hd ht (fun z => kt z H locs ls hP hD hS hl) (fun z => kf z H locs ls hP hD hS hl)
theorem vi_goto (C : vC E p l s m args meth c A D tys cc nL own) {off : Int} {tgt : Nat} (hd : decode cc pc = .ok (.goto off, 3)) (ht : (pc : Int) + off = (tgt : Int)) (k : vV p l e R s m args below meth c A D nL kc ks Q w tgt lv st) : vV p l e R s m args below meth c A D nL kc ks Q w pc lv st := fun H locs ls hP hD hS hl => lv_goto C.1 C.2.1 hd ht (k H locs ls hP hD hS hl)
theorem vi_ifnonnull (C : vC E p l s m args meth c A D tys cc nL own) {x : Nat} {off : Int} {tgt : Nat} (hd : decode cc pc = .ok (.ifnonnull off, 3)) (ht : (pc : Int) + off = (tgt : Int)) (k : vV p l e R s m args below meth c A D nL kc ks Q w tgt lv st) : vV p l e R s m args below meth c A D nL kc ks Q w pc lv (.ref x :: st) := fun H locs ls hP hD hS hl => lv_ifnonnull C.1 C.2.1 hd ht (k H locs ls hP hD hS hl)
theorem vi_ifnonnullN (C : vC E p l s m args meth c A D tys cc nL own) {off : Int} (hd : decode cc pc = .ok (.ifnonnull off, 3)) (k : vV p l e R s m args below meth c A D nL kc ks Q w (pc + 3) lv st) : vV p l e R s m args below meth c A D nL kc ks Q w pc lv (.null :: st) := fun H locs ls hP hD hS hl => lv_ifnonnullN C.1 C.2.1 hd (k H locs ls hP hD hS hl)
theorem vi_tswIn (C : vC E p l s m args meth c A D tys cc nL own) {dflt lo hi : Int} {offs : Array Int} {len : Nat} {x : Int32} {off : Int} {tgt : Nat} (hd : decode cc pc = .ok (.tableswitch dflt lo hi offs, len)) (h1 : ¬ x.toInt < lo) (h2 : ¬ hi < x.toInt) (ho : offs[(x.toInt - lo).toNat]? = some off) (ht : (pc : Int) + off = (tgt : Int)) (k : vV p l e R s m args below meth c A D nL kc ks Q w tgt lv st) : vV p l e R s m args below meth c A D nL kc ks Q w pc lv (.int x :: st) := fun H locs ls hP hD hS hl => lv_tableIn C.1 C.2.1 hd h1 h2 ho ht (k H locs ls hP hD hS hl)
theorem vi_tswOut (C : vC E p l s m args meth c A D tys cc nL own) {dflt lo hi : Int} {offs : Array Int} {len : Nat} {x : Int32} {tgt : Nat} (hd : decode cc pc = .ok (.tableswitch dflt lo hi offs, len)) (h : x.toInt < lo ∨ hi < x.toInt) (ht : (pc : Int) + dflt = (tgt : Int)) (k : vV p l e R s m args below meth c A D nL kc ks Q w tgt lv st) : vV p l e R s m args below meth c A D nL kc ks Q w pc lv (.int x :: st) := fun H locs ls hP hD hS hl => lv_tableOut C.1 C.2.1 hd h ht (k H locs ls hP hD hS hl)
theorem vi_get (C : vC E p l s m args meth c A D tys cc nL own) {a : Nat} {ref Cn : String} {T : u_T} {N ci idx : Nat} {fs : List Value} {v : Value} (q0 f : Nat) (hin : ∀ z ∈ u_ws Cn T N, z ∈ wsL_law) (he : w[q0]? = some (a, .inr (ci, fs))) (hc : vwCl[ci]? = some (Cn, T, N)) (hf : f < N) (hm : Cond.fieldLink own idx ref (T f).2.1 (T f).2.2.1 ∈ wsL_law) (hr : (T f).1 = ref) (hv : fs[f]? = some v) (hd : decode cc pc = .ok (.getfield idx, 3)) (k : vV p l e R s m args below meth c A D nL kc ks Q w (pc + 3) lv (v :: st)) : vV p l e R s m args below meth c A D nL kc ks Q w pc lv (.ref a :: st) := fun H locs ls hP hD hS hl => va_get C.1 C.2.1 C.2.2.2.2.1 hin C.2.2.2.1 C.2.2.2.2.2.1 hP q0 he hc f hf (C.2.2.2.2.1 _ hm) (fun z h => by rw [← hr]; exact h) hv hd (k H locs ls hP hD hS hl)
theorem vi_put (C : vC E p l s m args meth c A D tys cc nL own) {a : Nat} {ref Cn : String} {T : u_T} {N ci idx : Nat} {fs : List Value} {v : Value} {ty : FieldType} {w' : va_W} (q0 f : Nat) (hin : ∀ z ∈ u_ws Cn T N, z ∈ wsL_law) (ty0 : Nat → FieldType) (hty : ∀ k, k < N → parseFieldDescriptor (T k).2.2.1 = some (ty0 k)) (hnm : ∀ a, a < N → ∀ b, b < N → a ≠ b → (T a).2.1 ≠ (T b).2.1) (he : w[q0]? = some (a, .inr (ci, fs))) (hc : vwCl[ci]? = some (Cn, T, N)) (hf : f < N) (hm : Cond.fieldLink own idx ref (T f).2.1 (T f).2.2.1 ∈ wsL_law) (hr : (T f).1 = ref) (hfin : (T f).2.2.2 = false) (hdd : parseFieldDescriptor (T f).2.2.1 = some ty) (hn : narrow ty v = v) (hfit : fits ty v = true) (hl0 : f < fs.length) (hw : w.set q0 (a, .inr (ci, fs.set f v)) = w') (hd : decode cc pc = .ok (.putfield idx, 3)) (k : vV p l e R s m args below meth c A D nL kc ks Q w' (pc + 3) lv st) : vV p l e R s m args below meth c A D nL kc ks Q w pc lv (v :: .ref a :: st) := fun H locs ls hP hD hS hl => va_put C.1 C.2.1 C.2.2.2.2.1 hin ty0 hty hnm C.2.2.2.1 C.2.2.2.2.2.1 hP hD hS q0 he hc f hf (C.2.2.2.2.1 _ hm) (fun z h => by rw [← hr]; exact h) hfin hdd hn hfit hl0 hd (fun H1 locs1 hP1 hD1 hS1 => k H1 locs1 ls (by rw [← hw]; exact hP1) (by rw [← hw]; exact hD1) hS1 hl)
theorem vi_iald (C : vC E p l s m args meth c A D tys cc nL own) {a : Nat} {cA : ClassId} {n : Nat} {f : Nat → Int32} {i : Int32} (q0 t0 : Nat) (ha : w[q0]? = some (a, .inl (cA, n, .inl f))) (ht : tys[t0]? = some (cA, .int)) (hin : ¬ (i < 0 ∨ n ≤ i.toNatClampNeg)) (hd : decode cc pc = .ok (.iaload, 1)) (k : vV p l e R s m args below meth c A D nL kc ks Q w (pc + 1) lv (.int (f i.toNatClampNeg) :: st)) : vV p l e R s m args below meth c A D nL kc ks Q w pc lv (.int i :: .ref a :: st) := fun H locs ls hP hD hS hl => va_iald C.1 C.2.1 C.2.2.2.2.2.1 hP q0 t0 ha ht hin hd (k H locs ls hP hD hS hl)
theorem vi_iast (C : vC E p l s m args meth c A D tys cc nL own) {a : Nat} {cA : ClassId} {n : Nat} {f : Nat → Int32} {i : Int32} {x : Int32} {w' : va_W} (q0 t0 : Nat) (ha : w[q0]? = some (a, .inl (cA, n, .inl f))) (ht : tys[t0]? = some (cA, .int)) (hin : ¬ (i < 0 ∨ n ≤ i.toNatClampNeg)) (hw : w.set q0 (a, .inl (cA, n, .inl (upd f i.toNatClampNeg x))) = w') (hd : decode cc pc = .ok (.iastore, 1)) (k : vV p l e R s m args below meth c A D nL kc ks Q w' (pc + 1) lv st) : vV p l e R s m args below meth c A D nL kc ks Q w pc lv (.int x :: .int i :: .ref a :: st) := fun H locs ls hP hD hS hl => va_iast C.1 C.2.1 C.2.2.2.2.2.1 hP hD hS q0 t0 ha ht hin hd (fun H1 locs1 hP1 hD1 hS1 => k H1 locs1 ls (by rw [← hw]; exact hP1) (by rw [← hw]; exact hD1) hS1 hl)
theorem vi_cald (C : vC E p l s m args meth c A D tys cc nL own) {a : Nat} {cA : ClassId} {n : Nat} {f : Nat → Int32} {i : Int32} (q0 t0 : Nat) (ha : w[q0]? = some (a, .inl (cA, n, .inl f))) (ht : tys[t0]? = some (cA, .char)) (hin : ¬ (i < 0 ∨ n ≤ i.toNatClampNeg)) (hd : decode cc pc = .ok (.caload, 1)) (k : vV p l e R s m args below meth c A D nL kc ks Q w (pc + 1) lv (.int (f i.toNatClampNeg) :: st)) : vV p l e R s m args below meth c A D nL kc ks Q w pc lv (.int i :: .ref a :: st) := fun H locs ls hP hD hS hl => va_cald C.1 C.2.1 C.2.2.2.2.2.1 hP q0 t0 ha ht hin hd (k H locs ls hP hD hS hl)
theorem vi_cast (C : vC E p l s m args meth c A D tys cc nL own) {a : Nat} {cA : ClassId} {n : Nat} {f : Nat → Int32} {i : Int32} {x : Int32} {w' : va_W} (q0 t0 : Nat) (ha : w[q0]? = some (a, .inl (cA, n, .inl f))) (ht : tys[t0]? = some (cA, .char)) (hin : ¬ (i < 0 ∨ n ≤ i.toNatClampNeg)) (hw : w.set q0 (a, .inl (cA, n, .inl (upd f i.toNatClampNeg (vp_nar .char x)))) = w') (hd : decode cc pc = .ok (.castore, 1)) (k : vV p l e R s m args below meth c A D nL kc ks Q w' (pc + 1) lv st) : vV p l e R s m args below meth c A D nL kc ks Q w pc lv (.int x :: .int i :: .ref a :: st) := fun H locs ls hP hD hS hl => va_cast C.1 C.2.1 C.2.2.2.2.2.1 hP hD hS q0 t0 ha ht hin hd (fun H1 locs1 hP1 hD1 hS1 => k H1 locs1 ls (by rw [← hw]; exact hP1) (by rw [← hw]; exact hD1) hS1 hl)
theorem vi_fald (C : vC E p l s m args meth c A D tys cc nL own) {a : Nat} {cA : ClassId} {n : Nat} {f : Nat → UInt32} {i : Int32} (q0 t0 : Nat) (ha : w[q0]? = some (a, .inl (cA, n, .inr (.inr (.inl f))))) (ht : tys[t0]? = some (cA, .float)) (hin : ¬ (i < 0 ∨ n ≤ i.toNatClampNeg)) (hd : decode cc pc = .ok (.faload, 1)) (k : vV p l e R s m args below meth c A D nL kc ks Q w (pc + 1) lv (.float (f i.toNatClampNeg) :: st)) : vV p l e R s m args below meth c A D nL kc ks Q w pc lv (.int i :: .ref a :: st) := fun H locs ls hP hD hS hl => va_fald C.1 C.2.1 C.2.2.2.2.2.1 hP q0 t0 ha ht hin hd (k H locs ls hP hD hS hl)
theorem vi_fast (C : vC E p l s m args meth c A D tys cc nL own) {a : Nat} {cA : ClassId} {n : Nat} {f : Nat → UInt32} {i : Int32} {x : UInt32} {w' : va_W} (q0 t0 : Nat) (ha : w[q0]? = some (a, .inl (cA, n, .inr (.inr (.inl f))))) (ht : tys[t0]? = some (cA, .float)) (hin : ¬ (i < 0 ∨ n ≤ i.toNatClampNeg)) (hw : w.set q0 (a, .inl (cA, n, .inr (.inr (.inl (vf_upd f i.toNatClampNeg x))))) = w') (hd : decode cc pc = .ok (.fastore, 1)) (k : vV p l e R s m args below meth c A D nL kc ks Q w' (pc + 1) lv st) : vV p l e R s m args below meth c A D nL kc ks Q w pc lv (.float x :: .int i :: .ref a :: st) := fun H locs ls hP hD hS hl => va_fast C.1 C.2.1 C.2.2.2.2.2.1 hP hD hS q0 t0 ha ht hin hd (fun H1 locs1 hP1 hD1 hS1 => k H1 locs1 ls (by rw [← hw]; exact hP1) (by rw [← hw]; exact hD1) hS1 hl)
theorem vi_alen (C : vC E p l s m args meth c A D tys cc nL own) {a : Nat} {cA : ClassId} {x : vp_A} {ty : FieldType} {v : Int32} (q0 t0 : Nat) (ha : w[q0]? = some (a, .inl (cA, x))) (ht : tys[t0]? = some (cA, ty)) (hv : Int32.ofNat x.1 = v) (hd : decode cc pc = .ok (.arraylength, 1)) (k : vV p l e R s m args below meth c A D nL kc ks Q w (pc + 1) lv (.int v :: st)) : vV p l e R s m args below meth c A D nL kc ks Q w pc lv (.ref a :: st) := fun H locs ls hP hD hS hl => va_alen C.1 C.2.1 C.2.2.2.2.2.1 hP q0 t0 ha ht hv hd (k H locs ls hP hD hS hl)
theorem vi_sub (C : vC E p l s m args meth c A D tys cc nL own) (is : List Nat) (h : lv_pick lv is = lv') (k : vV p l e R s m args below meth c A D nL kc ks Q w pc lv' st) : vV p l e R s m args below meth c A D nL kc ks Q w pc lv st := fun H locs ls hP hD hS hl => k H locs ls hP hD hS (lv_sub hl is h)
theorem vi_w (C : vC E p l s m args meth c A D tys cc nL own) {w' : va_W} (h : w = w') (k : vV p l e R s m args below meth c A D nL kc ks Q w' pc lv st) : vV p l e R s m args below meth c A D nL kc ks Q w pc lv st := fun H locs ls hP hD hS hl => by subst h; exact k H locs ls hP hD hS hl
theorem vi_runV (C : vC E p l s m args meth c A D tys cc nL own) {y : MethodName} {cd : ByteArray} {mL : Nat} {rt : Option FieldType} {fr lo : Nat} {As rest : List Value} {wc w1 w2 : va_W} {Qk : (Nat → Prop) → Array Value → State → Outcome → State → Prop} {idx : Nat} {b ci N : Nat} {T : u_T} {fs : List Value} (hM : vM E l y cd mL rt fr lo D tys (.ref b :: As) wc Qk) (n : Nat) (hn : As.length = n) (hcode : Cond.code y cd mL rt ∈ wsL_law) (hlink : Cond.methodLink own idx y ∈ wsL_law) (hinst : Cond.instanceMethod y ∈ wsL_law) (hsel : Cond.selects y.cls y y ∈ wsL_law) (hini : Cond.initialized y.cls ∈ wsL_law) (hd : y.cls ≠ "java/lang/invoke/MethodHandle" ∧ y.cls ≠ "java/lang/invoke/VarHandle" ∧ (parseMethodDescriptor y.desc).map (fun d => d.parameters.length) = some n) (hR : fr + 1 ≤ R.frames ∧ 8 + (mL + 11) + lo ≤ R.locals) (hks : kc ≤ R.cells ∧ ks ≤ R.slots) (q0 : Nat) (he : w[q0]? = some (b, .inr (ci, fs))) (hc : vwCl[ci]? = some (y.cls, T, N)) (hw : w = w1 ++ (wc ++ w2)) (hst : st = As.reverse ++ .ref b :: rest) (hcat : (rest.map fun v => v.category).sum ≤ 8) (hdg : decode cc pc = .ok (.invokevirtual idx, 3)) {H : Heap} {locs : List Loc} {ls : Array Slot} (hP : va_P D vwCl w H) (hD : va_D A w) (hS : va_S A s.heap H locs) (hl : lv_has ls nL lv) : va_Run p l e R s m args below meth c H locs kc ks 0 0 (F0 m pc ls st) rest (Qk (va_A wc H.size) (Value.ref b :: As).toArray) (va_A wc H.size) := by
  obtain ⟨hkept, hnar, hmov, hsam⟩ := C.2.2.2.2.2.2.2.2.1
  have hF := vfree hw hD hS C.2.2.2.2.2.2.1
  have hE0 := C.2.2.2.2.2.2.2.2.2
  refine va_runV (As := As) (rest := rest) ⟨C.1, C.2.1, C.2.2.1, C.2.2.2.1, C.2.2.2.2.1⟩ (hM H.size) ⟨callB_of n C.2.2.2.2.1 (vT_in hcode) rfl rfl rfl (C.2.2.2.2.1 _ hini) (C.2.2.2.2.1 _ hlink) hd hR, C.2.2.2.2.1 _ hinst, C.2.2.2.2.1 _ hsel⟩ ⟨fun a U g mk q => ?_, va_recv C.2.2.2.2.2.1 hP hc he, fun U hU hW => ?_⟩ rfl hn hl.1 hst (lv_room hcat) hdg ⟨hks.1, hks.2⟩
  · obtain ⟨q0, q1, qP, qK, qD, qE⟩ := q
    exact ⟨q0, q1, qP, va_K.moved (u := U) (U := U.calling g mk a) (Vm.Alike.refl U.vm) qK, qD, hsam _ U (U.calling g mk a) _ rfl qE⟩
  · refine ⟨rfl, by rw [hU], by rw [hU]; exact vsubP hw hP, va_K.moved hW.alike C.2.2.2.2.2.1, vsubD hw hD, ?_⟩
    rw [hU]
    exact hmov _ s U _ hW (hnar _ _ _ _ (hkept _ _ _ _ hE0 hS.2.1) hF)
theorem vi_callVi (C : vC E p l s m args meth c A D tys cc nL own) {y : MethodName} {cd : ByteArray} {mL : Nat} {rt : Option FieldType} {fr lo : Nat} {As rest : List Value} {wc w1 w2 wd : va_W} {idx : Nat} {b ci N : Nat} {T : u_T} {fs : List Value} {r : Int32} (hM : vM E l y cd mL rt fr lo D tys (.ref b :: As) wc (vQi D wd r)) (n : Nat) (hn : As.length = n) (hcode : Cond.code y cd mL rt ∈ wsL_law) (hlink : Cond.methodLink own idx y ∈ wsL_law) (hinst : Cond.instanceMethod y ∈ wsL_law) (hsel : Cond.selects y.cls y y ∈ wsL_law) (hini : Cond.initialized y.cls ∈ wsL_law) (hd : y.cls ≠ "java/lang/invoke/MethodHandle" ∧ y.cls ≠ "java/lang/invoke/VarHandle" ∧ (parseMethodDescriptor y.desc).map (fun d => d.parameters.length) = some n) (hR : fr + 1 ≤ R.frames ∧ 8 + (mL + 11) + lo ≤ R.locals) (hks : kc ≤ R.cells ∧ ks ≤ R.slots) (q0 : Nat) (he : w[q0]? = some (b, .inr (ci, fs))) (hc : vwCl[ci]? = some (y.cls, T, N)) (hw : w = w1 ++ (wc ++ w2)) (hst : st = As.reverse ++ .ref b :: rest) (hcat : (rest.map fun v => v.category).sum ≤ 8) (hdg : decode cc pc = .ok (.invokevirtual idx, 3)) (had : wd.map Prod.fst = wc.map Prod.fst) (k : vV p l e R s m args below meth c A D nL kc ks Q (w1 ++ (wd ++ w2)) (pc + 3) lv (.int r :: rest)) : vV p l e R s m args below meth c A D nL kc ks Q w pc lv st := fun H locs ls hP hD hS hl => va_calli (vi_runV C hM n hn hcode hlink hinst hsel hini hd hR hks q0 he hc hw hst hcat hdg hP hD hS hl) hS (fun q _ h => vfree hw hD hS C.2.2.2.2.2.2.1 q h) (vfree hw hD hS C.2.2.2.2.2.2.1) (fun r1 u t H1 locs1 ht hvm hr hB hz hk hS1 => by
  subst hr; rw [ht] at hB; obtain ⟨hP1, hD1⟩ := vj hw had hP hD hk hB; exact k H1 locs1 ls hP1 hD1 hS1 hl)
theorem vi_callVl (C : vC E p l s m args meth c A D tys cc nL own) {y : MethodName} {cd : ByteArray} {mL : Nat} {rt : Option FieldType} {fr lo : Nat} {As rest : List Value} {wc w1 w2 wd : va_W} {idx : Nat} {b ci N : Nat} {T : u_T} {fs : List Value} {r : Int64} (hM : vM E l y cd mL rt fr lo D tys (.ref b :: As) wc (vQl D wd r)) (n : Nat) (hn : As.length = n) (hcode : Cond.code y cd mL rt ∈ wsL_law) (hlink : Cond.methodLink own idx y ∈ wsL_law) (hinst : Cond.instanceMethod y ∈ wsL_law) (hsel : Cond.selects y.cls y y ∈ wsL_law) (hini : Cond.initialized y.cls ∈ wsL_law) (hd : y.cls ≠ "java/lang/invoke/MethodHandle" ∧ y.cls ≠ "java/lang/invoke/VarHandle" ∧ (parseMethodDescriptor y.desc).map (fun d => d.parameters.length) = some n) (hR : fr + 1 ≤ R.frames ∧ 8 + (mL + 11) + lo ≤ R.locals) (hks : kc ≤ R.cells ∧ ks ≤ R.slots) (q0 : Nat) (he : w[q0]? = some (b, .inr (ci, fs))) (hc : vwCl[ci]? = some (y.cls, T, N)) (hw : w = w1 ++ (wc ++ w2)) (hst : st = As.reverse ++ .ref b :: rest) (hcat : (rest.map fun v => v.category).sum ≤ 8) (hdg : decode cc pc = .ok (.invokevirtual idx, 3)) (had : wd.map Prod.fst = wc.map Prod.fst) (k : vV p l e R s m args below meth c A D nL kc ks Q (w1 ++ (wd ++ w2)) (pc + 3) lv (.long r :: rest)) : vV p l e R s m args below meth c A D nL kc ks Q w pc lv st := fun H locs ls hP hD hS hl => va_calll (vi_runV C hM n hn hcode hlink hinst hsel hini hd hR hks q0 he hc hw hst hcat hdg hP hD hS hl) hS (fun q _ h => vfree hw hD hS C.2.2.2.2.2.2.1 q h) (vfree hw hD hS C.2.2.2.2.2.2.1) (fun r1 u t H1 locs1 ht hvm hr hB hz hk hS1 => by
  subst hr; rw [ht] at hB; obtain ⟨hP1, hD1⟩ := vj hw had hP hD hk hB; exact k H1 locs1 ls hP1 hD1 hS1 hl)
theorem vi_callVf (C : vC E p l s m args meth c A D tys cc nL own) {y : MethodName} {cd : ByteArray} {mL : Nat} {rt : Option FieldType} {fr lo : Nat} {As rest : List Value} {wc w1 w2 wd : va_W} {idx : Nat} {b ci N : Nat} {T : u_T} {fs : List Value} {r : UInt32} (hM : vM E l y cd mL rt fr lo D tys (.ref b :: As) wc (vQf D wd r)) (n : Nat) (hn : As.length = n) (hcode : Cond.code y cd mL rt ∈ wsL_law) (hlink : Cond.methodLink own idx y ∈ wsL_law) (hinst : Cond.instanceMethod y ∈ wsL_law) (hsel : Cond.selects y.cls y y ∈ wsL_law) (hini : Cond.initialized y.cls ∈ wsL_law) (hd : y.cls ≠ "java/lang/invoke/MethodHandle" ∧ y.cls ≠ "java/lang/invoke/VarHandle" ∧ (parseMethodDescriptor y.desc).map (fun d => d.parameters.length) = some n) (hR : fr + 1 ≤ R.frames ∧ 8 + (mL + 11) + lo ≤ R.locals) (hks : kc ≤ R.cells ∧ ks ≤ R.slots) (q0 : Nat) (he : w[q0]? = some (b, .inr (ci, fs))) (hc : vwCl[ci]? = some (y.cls, T, N)) (hw : w = w1 ++ (wc ++ w2)) (hst : st = As.reverse ++ .ref b :: rest) (hcat : (rest.map fun v => v.category).sum ≤ 8) (hdg : decode cc pc = .ok (.invokevirtual idx, 3)) (had : wd.map Prod.fst = wc.map Prod.fst) (k : vV p l e R s m args below meth c A D nL kc ks Q (w1 ++ (wd ++ w2)) (pc + 3) lv (.float r :: rest)) : vV p l e R s m args below meth c A D nL kc ks Q w pc lv st := fun H locs ls hP hD hS hl => va_callf (vi_runV C hM n hn hcode hlink hinst hsel hini hd hR hks q0 he hc hw hst hcat hdg hP hD hS hl) hS (fun q _ h => vfree hw hD hS C.2.2.2.2.2.2.1 q h) (vfree hw hD hS C.2.2.2.2.2.2.1) (fun r1 u t H1 locs1 ht hvm hr hB hz hk hS1 => by
  subst hr; rw [ht] at hB; obtain ⟨hP1, hD1⟩ := vj hw had hP hD hk hB; exact k H1 locs1 ls hP1 hD1 hS1 hl)
theorem vi_callVd (C : vC E p l s m args meth c A D tys cc nL own) {y : MethodName} {cd : ByteArray} {mL : Nat} {rt : Option FieldType} {fr lo : Nat} {As rest : List Value} {wc w1 w2 wd : va_W} {idx : Nat} {b ci N : Nat} {T : u_T} {fs : List Value} {r : UInt64} (hM : vM E l y cd mL rt fr lo D tys (.ref b :: As) wc (vQd D wd r)) (n : Nat) (hn : As.length = n) (hcode : Cond.code y cd mL rt ∈ wsL_law) (hlink : Cond.methodLink own idx y ∈ wsL_law) (hinst : Cond.instanceMethod y ∈ wsL_law) (hsel : Cond.selects y.cls y y ∈ wsL_law) (hini : Cond.initialized y.cls ∈ wsL_law) (hd : y.cls ≠ "java/lang/invoke/MethodHandle" ∧ y.cls ≠ "java/lang/invoke/VarHandle" ∧ (parseMethodDescriptor y.desc).map (fun d => d.parameters.length) = some n) (hR : fr + 1 ≤ R.frames ∧ 8 + (mL + 11) + lo ≤ R.locals) (hks : kc ≤ R.cells ∧ ks ≤ R.slots) (q0 : Nat) (he : w[q0]? = some (b, .inr (ci, fs))) (hc : vwCl[ci]? = some (y.cls, T, N)) (hw : w = w1 ++ (wc ++ w2)) (hst : st = As.reverse ++ .ref b :: rest) (hcat : (rest.map fun v => v.category).sum ≤ 8) (hdg : decode cc pc = .ok (.invokevirtual idx, 3)) (had : wd.map Prod.fst = wc.map Prod.fst) (k : vV p l e R s m args below meth c A D nL kc ks Q (w1 ++ (wd ++ w2)) (pc + 3) lv (.double r :: rest)) : vV p l e R s m args below meth c A D nL kc ks Q w pc lv st := fun H locs ls hP hD hS hl => va_calld (vi_runV C hM n hn hcode hlink hinst hsel hini hd hR hks q0 he hc hw hst hcat hdg hP hD hS hl) hS (fun q _ h => vfree hw hD hS C.2.2.2.2.2.2.1 q h) (vfree hw hD hS C.2.2.2.2.2.2.1) (fun r1 u t H1 locs1 ht hvm hr hB hz hk hS1 => by
  subst hr; rw [ht] at hB; obtain ⟨hP1, hD1⟩ := vj hw had hP hD hk hB; exact k H1 locs1 ls hP1 hD1 hS1 hl)
theorem vi_callVv (C : vC E p l s m args meth c A D tys cc nL own) {y : MethodName} {cd : ByteArray} {mL : Nat} {rt : Option FieldType} {fr lo : Nat} {As rest : List Value} {wc w1 w2 wd : va_W} {idx : Nat} {b ci N : Nat} {T : u_T} {fs : List Value} (hM : vM E l y cd mL rt fr lo D tys (.ref b :: As) wc (vQv D wd)) (n : Nat) (hn : As.length = n) (hcode : Cond.code y cd mL rt ∈ wsL_law) (hlink : Cond.methodLink own idx y ∈ wsL_law) (hinst : Cond.instanceMethod y ∈ wsL_law) (hsel : Cond.selects y.cls y y ∈ wsL_law) (hini : Cond.initialized y.cls ∈ wsL_law) (hd : y.cls ≠ "java/lang/invoke/MethodHandle" ∧ y.cls ≠ "java/lang/invoke/VarHandle" ∧ (parseMethodDescriptor y.desc).map (fun d => d.parameters.length) = some n) (hR : fr + 1 ≤ R.frames ∧ 8 + (mL + 11) + lo ≤ R.locals) (hks : kc ≤ R.cells ∧ ks ≤ R.slots) (q0 : Nat) (he : w[q0]? = some (b, .inr (ci, fs))) (hc : vwCl[ci]? = some (y.cls, T, N)) (hw : w = w1 ++ (wc ++ w2)) (hst : st = As.reverse ++ .ref b :: rest) (hcat : (rest.map fun v => v.category).sum ≤ 8) (hdg : decode cc pc = .ok (.invokevirtual idx, 3)) (had : wd.map Prod.fst = wc.map Prod.fst) (k : vV p l e R s m args below meth c A D nL kc ks Q (w1 ++ (wd ++ w2)) (pc + 3) lv rest) : vV p l e R s m args below meth c A D nL kc ks Q w pc lv st := fun H locs ls hP hD hS hl => va_callv (vi_runV C hM n hn hcode hlink hinst hsel hini hd hR hks q0 he hc hw hst hcat hdg hP hD hS hl) hS (fun q _ h => vfree hw hD hS C.2.2.2.2.2.2.1 q h) (vfree hw hD hS C.2.2.2.2.2.2.1) (fun u t H1 locs1 ht hvm hr hB hz hk hS1 => by
  rw [ht] at hB; obtain ⟨hP1, hD1⟩ := vj hw had hP hD hk hB; exact k H1 locs1 ls hP1 hD1 hS1 hl)
theorem vi_runS (C : vC E p l s m args meth c A D tys cc nL own) {y : MethodName} {cd : ByteArray} {mL : Nat} {rt : Option FieldType} {fr lo : Nat} {As rest : List Value} {wc w1 w2 : va_W} {Qk : (Nat → Prop) → Array Value → State → Outcome → State → Prop} {idx : Nat} (hM : vM E l y cd mL rt fr lo D tys As wc Qk) (n : Nat) (hn : As.length = n) (hcode : Cond.code y cd mL rt ∈ wsL_law) (hlink : Cond.methodLink own idx y ∈ wsL_law) (hstat : Cond.static y ∈ wsL_law) (hini : Cond.initialized y.cls ∈ wsL_law) (hd : y.cls ≠ "java/lang/invoke/MethodHandle" ∧ y.cls ≠ "java/lang/invoke/VarHandle" ∧ (parseMethodDescriptor y.desc).map (fun d => d.parameters.length) = some n) (hR : fr + 1 ≤ R.frames ∧ 8 + (mL + 11) + lo ≤ R.locals) (hks : kc ≤ R.cells ∧ ks ≤ R.slots) (hw : w = w1 ++ (wc ++ w2)) (hst : st = As.reverse ++ rest) (hcat : (rest.map fun v => v.category).sum ≤ 8) (hdg : decode cc pc = .ok (.invokestatic idx, 3)) {H : Heap} {locs : List Loc} {ls : Array Slot} (hP : va_P D vwCl w H) (hD : va_D A w) (hS : va_S A s.heap H locs) (hl : lv_has ls nL lv) : va_Run p l e R s m args below meth c H locs kc ks 0 0 (F0 m pc ls st) rest (Qk (va_A wc H.size) As.toArray) (va_A wc H.size) := by
  obtain ⟨hkept, hnar, hmov, hsam⟩ := C.2.2.2.2.2.2.2.2.1
  have hF := vfree hw hD hS C.2.2.2.2.2.2.1
  have hE0 := C.2.2.2.2.2.2.2.2.2
  refine va_runS (As := As) (rest := rest) ⟨C.1, C.2.1, C.2.2.1, C.2.2.2.1, C.2.2.2.2.1⟩ (hM H.size) ⟨callB_of n C.2.2.2.2.1 (vT_in hcode) rfl rfl rfl (C.2.2.2.2.1 _ hini) (C.2.2.2.2.1 _ hlink) hd hR, C.2.2.2.2.1 _ hstat⟩ ⟨fun a U g mk q => ?_, fun U hU hW => ?_⟩ rfl hn hl.1 hst (lv_room hcat) hdg ⟨hks.1, hks.2⟩
  · obtain ⟨q0, q1, qP, qK, qD, qE⟩ := q
    exact ⟨q0, q1, qP, va_K.moved (u := U) (U := U.calling g mk a) (Vm.Alike.refl U.vm) qK, qD, hsam _ U (U.calling g mk a) _ rfl qE⟩
  · refine ⟨rfl, by rw [hU], by rw [hU]; exact vsubP hw hP, va_K.moved hW.alike C.2.2.2.2.2.1, vsubD hw hD, ?_⟩
    rw [hU]
    exact hmov _ s U _ hW (hnar _ _ _ _ (hkept _ _ _ _ hE0 hS.2.1) hF)
theorem vi_callSi (C : vC E p l s m args meth c A D tys cc nL own) {y : MethodName} {cd : ByteArray} {mL : Nat} {rt : Option FieldType} {fr lo : Nat} {As rest : List Value} {wc w1 w2 wd : va_W} {idx : Nat} {r : Int32} (hM : vM E l y cd mL rt fr lo D tys As wc (vQi D wd r)) (n : Nat) (hn : As.length = n) (hcode : Cond.code y cd mL rt ∈ wsL_law) (hlink : Cond.methodLink own idx y ∈ wsL_law) (hstat : Cond.static y ∈ wsL_law) (hini : Cond.initialized y.cls ∈ wsL_law) (hd : y.cls ≠ "java/lang/invoke/MethodHandle" ∧ y.cls ≠ "java/lang/invoke/VarHandle" ∧ (parseMethodDescriptor y.desc).map (fun d => d.parameters.length) = some n) (hR : fr + 1 ≤ R.frames ∧ 8 + (mL + 11) + lo ≤ R.locals) (hks : kc ≤ R.cells ∧ ks ≤ R.slots) (hw : w = w1 ++ (wc ++ w2)) (hst : st = As.reverse ++ rest) (hcat : (rest.map fun v => v.category).sum ≤ 8) (hdg : decode cc pc = .ok (.invokestatic idx, 3)) (had : wd.map Prod.fst = wc.map Prod.fst) (k : vV p l e R s m args below meth c A D nL kc ks Q (w1 ++ (wd ++ w2)) (pc + 3) lv (.int r :: rest)) : vV p l e R s m args below meth c A D nL kc ks Q w pc lv st := fun H locs ls hP hD hS hl => va_calli (vi_runS C hM n hn hcode hlink hstat hini hd hR hks hw hst hcat hdg hP hD hS hl) hS (fun q _ h => vfree hw hD hS C.2.2.2.2.2.2.1 q h) (vfree hw hD hS C.2.2.2.2.2.2.1) (fun r1 u t H1 locs1 ht hvm hr hB hz hk hS1 => by
  subst hr; rw [ht] at hB; obtain ⟨hP1, hD1⟩ := vj hw had hP hD hk hB; exact k H1 locs1 ls hP1 hD1 hS1 hl)
theorem vi_callSl (C : vC E p l s m args meth c A D tys cc nL own) {y : MethodName} {cd : ByteArray} {mL : Nat} {rt : Option FieldType} {fr lo : Nat} {As rest : List Value} {wc w1 w2 wd : va_W} {idx : Nat} {r : Int64} (hM : vM E l y cd mL rt fr lo D tys As wc (vQl D wd r)) (n : Nat) (hn : As.length = n) (hcode : Cond.code y cd mL rt ∈ wsL_law) (hlink : Cond.methodLink own idx y ∈ wsL_law) (hstat : Cond.static y ∈ wsL_law) (hini : Cond.initialized y.cls ∈ wsL_law) (hd : y.cls ≠ "java/lang/invoke/MethodHandle" ∧ y.cls ≠ "java/lang/invoke/VarHandle" ∧ (parseMethodDescriptor y.desc).map (fun d => d.parameters.length) = some n) (hR : fr + 1 ≤ R.frames ∧ 8 + (mL + 11) + lo ≤ R.locals) (hks : kc ≤ R.cells ∧ ks ≤ R.slots) (hw : w = w1 ++ (wc ++ w2)) (hst : st = As.reverse ++ rest) (hcat : (rest.map fun v => v.category).sum ≤ 8) (hdg : decode cc pc = .ok (.invokestatic idx, 3)) (had : wd.map Prod.fst = wc.map Prod.fst) (k : vV p l e R s m args below meth c A D nL kc ks Q (w1 ++ (wd ++ w2)) (pc + 3) lv (.long r :: rest)) : vV p l e R s m args below meth c A D nL kc ks Q w pc lv st := fun H locs ls hP hD hS hl => va_calll (vi_runS C hM n hn hcode hlink hstat hini hd hR hks hw hst hcat hdg hP hD hS hl) hS (fun q _ h => vfree hw hD hS C.2.2.2.2.2.2.1 q h) (vfree hw hD hS C.2.2.2.2.2.2.1) (fun r1 u t H1 locs1 ht hvm hr hB hz hk hS1 => by
  subst hr; rw [ht] at hB; obtain ⟨hP1, hD1⟩ := vj hw had hP hD hk hB; exact k H1 locs1 ls hP1 hD1 hS1 hl)
theorem vi_callSf (C : vC E p l s m args meth c A D tys cc nL own) {y : MethodName} {cd : ByteArray} {mL : Nat} {rt : Option FieldType} {fr lo : Nat} {As rest : List Value} {wc w1 w2 wd : va_W} {idx : Nat} {r : UInt32} (hM : vM E l y cd mL rt fr lo D tys As wc (vQf D wd r)) (n : Nat) (hn : As.length = n) (hcode : Cond.code y cd mL rt ∈ wsL_law) (hlink : Cond.methodLink own idx y ∈ wsL_law) (hstat : Cond.static y ∈ wsL_law) (hini : Cond.initialized y.cls ∈ wsL_law) (hd : y.cls ≠ "java/lang/invoke/MethodHandle" ∧ y.cls ≠ "java/lang/invoke/VarHandle" ∧ (parseMethodDescriptor y.desc).map (fun d => d.parameters.length) = some n) (hR : fr + 1 ≤ R.frames ∧ 8 + (mL + 11) + lo ≤ R.locals) (hks : kc ≤ R.cells ∧ ks ≤ R.slots) (hw : w = w1 ++ (wc ++ w2)) (hst : st = As.reverse ++ rest) (hcat : (rest.map fun v => v.category).sum ≤ 8) (hdg : decode cc pc = .ok (.invokestatic idx, 3)) (had : wd.map Prod.fst = wc.map Prod.fst) (k : vV p l e R s m args below meth c A D nL kc ks Q (w1 ++ (wd ++ w2)) (pc + 3) lv (.float r :: rest)) : vV p l e R s m args below meth c A D nL kc ks Q w pc lv st := fun H locs ls hP hD hS hl => va_callf (vi_runS C hM n hn hcode hlink hstat hini hd hR hks hw hst hcat hdg hP hD hS hl) hS (fun q _ h => vfree hw hD hS C.2.2.2.2.2.2.1 q h) (vfree hw hD hS C.2.2.2.2.2.2.1) (fun r1 u t H1 locs1 ht hvm hr hB hz hk hS1 => by
  subst hr; rw [ht] at hB; obtain ⟨hP1, hD1⟩ := vj hw had hP hD hk hB; exact k H1 locs1 ls hP1 hD1 hS1 hl)
theorem vi_callSd (C : vC E p l s m args meth c A D tys cc nL own) {y : MethodName} {cd : ByteArray} {mL : Nat} {rt : Option FieldType} {fr lo : Nat} {As rest : List Value} {wc w1 w2 wd : va_W} {idx : Nat} {r : UInt64} (hM : vM E l y cd mL rt fr lo D tys As wc (vQd D wd r)) (n : Nat) (hn : As.length = n) (hcode : Cond.code y cd mL rt ∈ wsL_law) (hlink : Cond.methodLink own idx y ∈ wsL_law) (hstat : Cond.static y ∈ wsL_law) (hini : Cond.initialized y.cls ∈ wsL_law) (hd : y.cls ≠ "java/lang/invoke/MethodHandle" ∧ y.cls ≠ "java/lang/invoke/VarHandle" ∧ (parseMethodDescriptor y.desc).map (fun d => d.parameters.length) = some n) (hR : fr + 1 ≤ R.frames ∧ 8 + (mL + 11) + lo ≤ R.locals) (hks : kc ≤ R.cells ∧ ks ≤ R.slots) (hw : w = w1 ++ (wc ++ w2)) (hst : st = As.reverse ++ rest) (hcat : (rest.map fun v => v.category).sum ≤ 8) (hdg : decode cc pc = .ok (.invokestatic idx, 3)) (had : wd.map Prod.fst = wc.map Prod.fst) (k : vV p l e R s m args below meth c A D nL kc ks Q (w1 ++ (wd ++ w2)) (pc + 3) lv (.double r :: rest)) : vV p l e R s m args below meth c A D nL kc ks Q w pc lv st := fun H locs ls hP hD hS hl => va_calld (vi_runS C hM n hn hcode hlink hstat hini hd hR hks hw hst hcat hdg hP hD hS hl) hS (fun q _ h => vfree hw hD hS C.2.2.2.2.2.2.1 q h) (vfree hw hD hS C.2.2.2.2.2.2.1) (fun r1 u t H1 locs1 ht hvm hr hB hz hk hS1 => by
  subst hr; rw [ht] at hB; obtain ⟨hP1, hD1⟩ := vj hw had hP hD hk hB; exact k H1 locs1 ls hP1 hD1 hS1 hl)
theorem vi_callSv (C : vC E p l s m args meth c A D tys cc nL own) {y : MethodName} {cd : ByteArray} {mL : Nat} {rt : Option FieldType} {fr lo : Nat} {As rest : List Value} {wc w1 w2 wd : va_W} {idx : Nat} (hM : vM E l y cd mL rt fr lo D tys As wc (vQv D wd)) (n : Nat) (hn : As.length = n) (hcode : Cond.code y cd mL rt ∈ wsL_law) (hlink : Cond.methodLink own idx y ∈ wsL_law) (hstat : Cond.static y ∈ wsL_law) (hini : Cond.initialized y.cls ∈ wsL_law) (hd : y.cls ≠ "java/lang/invoke/MethodHandle" ∧ y.cls ≠ "java/lang/invoke/VarHandle" ∧ (parseMethodDescriptor y.desc).map (fun d => d.parameters.length) = some n) (hR : fr + 1 ≤ R.frames ∧ 8 + (mL + 11) + lo ≤ R.locals) (hks : kc ≤ R.cells ∧ ks ≤ R.slots) (hw : w = w1 ++ (wc ++ w2)) (hst : st = As.reverse ++ rest) (hcat : (rest.map fun v => v.category).sum ≤ 8) (hdg : decode cc pc = .ok (.invokestatic idx, 3)) (had : wd.map Prod.fst = wc.map Prod.fst) (k : vV p l e R s m args below meth c A D nL kc ks Q (w1 ++ (wd ++ w2)) (pc + 3) lv rest) : vV p l e R s m args below meth c A D nL kc ks Q w pc lv st := fun H locs ls hP hD hS hl => va_callv (vi_runS C hM n hn hcode hlink hstat hini hd hR hks hw hst hcat hdg hP hD hS hl) hS (fun q _ h => vfree hw hD hS C.2.2.2.2.2.2.1 q h) (vfree hw hD hS C.2.2.2.2.2.2.1) (fun u t H1 locs1 ht hvm hr hB hz hk hS1 => by
  rw [ht] at hB; obtain ⟨hP1, hD1⟩ := vj hw had hP hD hk hB; exact k H1 locs1 ls hP1 hD1 hS1 hl)
theorem vi_reti (C : vC E p l s m args meth c A D tys cc nL own) {r : Int32} (hr : meth.sig.returnType = some .int) : ∀ (pc : Nat) (lv : List (Nat × Value)), decode cc pc = .ok (.ireturn, 1) → vV p l e R s m args below meth c A D nL kc ks (MQ below (vQi D w r A) args s kc ks A) w pc lv [.int r] := fun pc lv hd H locs ls hP hD hS hl => W.iret C.1 C.2.1 hr (fun t ht hW => ⟨⟨r, (), rfl, rfl, by show va_P D vwCl w t.heap; rw [ht]; exact hP⟩, hS.F ht⟩) hS.2.2 hd C.2.2.2.2.2.2.2.1
theorem vi_retl (C : vC E p l s m args meth c A D tys cc nL own) {r : Int64} (hr : meth.sig.returnType = some .long) : ∀ (pc : Nat) (lv : List (Nat × Value)), decode cc pc = .ok (.lreturn, 1) → vV p l e R s m args below meth c A D nL kc ks (MQ below (vQl D w r A) args s kc ks A) w pc lv [.long r] := fun pc lv hd H locs ls hP hD hS hl => W.lret C.1 C.2.1 hr (fun t ht hW => ⟨⟨r, (), rfl, rfl, by show va_P D vwCl w t.heap; rw [ht]; exact hP⟩, hS.F ht⟩) hS.2.2 hd C.2.2.2.2.2.2.2.1
theorem vi_retf (C : vC E p l s m args meth c A D tys cc nL own) {r : UInt32} (hr : meth.sig.returnType = some .float) : ∀ (pc : Nat) (lv : List (Nat × Value)), decode cc pc = .ok (.freturn, 1) → vV p l e R s m args below meth c A D nL kc ks (MQ below (vQf D w r A) args s kc ks A) w pc lv [.float r] := fun pc lv hd H locs ls hP hD hS hl => W.fret C.1 C.2.1 hr (fun t ht hW => ⟨⟨r, (), rfl, rfl, by show va_P D vwCl w t.heap; rw [ht]; exact hP⟩, hS.F ht⟩) hS.2.2 hd C.2.2.2.2.2.2.2.1
theorem vi_retd (C : vC E p l s m args meth c A D tys cc nL own) {r : UInt64} (hr : meth.sig.returnType = some .double) : ∀ (pc : Nat) (lv : List (Nat × Value)), decode cc pc = .ok (.dreturn, 1) → vV p l e R s m args below meth c A D nL kc ks (MQ below (vQd D w r A) args s kc ks A) w pc lv [.double r] := fun pc lv hd H locs ls hP hD hS hl => W.dret C.1 C.2.1 hr (fun t ht hW => ⟨⟨r, (), rfl, rfl, by show va_P D vwCl w t.heap; rw [ht]; exact hP⟩, hS.F ht⟩) hS.2.2 hd C.2.2.2.2.2.2.2.1
theorem vi_retz (C : vC E p l s m args meth c A D tys cc nL own) {r : Int32} {ty : FieldType} (hr : meth.sig.returnType = some ty) (hn : narrow ty (.int r) = .int r) : ∀ (pc : Nat) (lv : List (Nat × Value)), decode cc pc = .ok (.ireturn, 1) → vV p l e R s m args below meth c A D nL kc ks (MQ below (vQi D w r A) args s kc ks A) w pc lv [.int r] := fun pc lv hd H locs ls hP hD hS hl => W.zret C.1 C.2.1 hr hn (fun t ht hW => ⟨⟨r, (), rfl, rfl, by show va_P D vwCl w t.heap; rw [ht]; exact hP⟩, hS.F ht⟩) hS.2.2 hd C.2.2.2.2.2.2.2.1
theorem vi_retv (C : vC E p l s m args meth c A D tys cc nL own) (hr : meth.sig.returnType = none) : ∀ (pc : Nat) (lv : List (Nat × Value)), decode cc pc = .ok (.return_, 1) → vV p l e R s m args below meth c A D nL kc ks (MQ below (vQv D w A) args s kc ks A) w pc lv [] := fun pc lv hd H locs ls hP hD hS hl => W.vret C.1 C.2.1 hr (fun t ht hW => ⟨⟨(), rfl, trivial, by show va_P D vwCl w t.heap; rw [ht]; exact hP⟩, hS.F ht⟩) hS.2.2 hd C.2.2.2.2.2.2.2.1
end VB
end
section
/-- the classes of the arrays: of ints, floats, chars, ships, forms -/
def vT5 (cI cF cC cS cO : ClassId) : List (ClassId × FieldType) := [(cI, .int), (cF, .float), (cC, .char), (cS, .object "MoodSextant$Ship"), (cO, .object "MoodSextant$Form")]
/-- more rounds than any loop here has -/
def vF : Nat := 1000
abbrev vS : Type := Nat → Nat → Int32
def obp {α β γ : Type} (x : Option (α × β)) (f : α → β → Option γ) : Option γ := x.bind (fun z => f z.1 z.2)
theorem ob_p {α β γ : Type} {x : Option (α × β)} {f : α → β → Option γ} {z : γ} (h : obp x f = some z) : ∃ a b, x = some (a, b) ∧ f a b = some z := by
  cases x with
  | none => cases h
  | some a => exact ⟨a.1, a.2, rfl, h⟩
theorem vM_ofF {E : (Nat → Prop) → State → Heap → Prop} {l : Launch} {y : MethodName} {cd : ByteArray} {mL : Nat} {rt : Option FieldType} {fr lo : Nat} {D : va_G} {tys : List (ClassId × FieldType)} {av : List Value} {w : va_W} {Qk : (Nat → Prop) → Array Value → State → Outcome → State → Prop} (hE : vEok E) (hy : plainFor y = true) (hlen : (lg_sl av).length ≤ mL)
    (body : ∀ (p : Program) (e : Env) (s : State) (m : MethodId) (args : Array Value) (below : List Frame) (meth : Method) (c : Code) (A : Nat → Prop), vC E p l s m args meth c A D tys cd mL y.cls → meth.sig.returnType = rt → vV p l e { frames := fr, cells := 0, slots := 0, locals := lo } s m args below meth c A D mL 0 0 (MQ below (Qk A) args s 0 0 A) w 0 (lv_args 0 av) []) : vM E l y cd mL rt fr lo D tys av w Qk := by
  intro sz
  refine va_MetF (cc := cd) (maxL := mL) (ret := rt) hy rfl ?_
  intro p e s m args below meth c s₁ B hml hv
  obtain ⟨rfl, hsz, hP, hK, hD0, hE0⟩ := hv
  have hown : s.vm.findClass y.cls = some m.cls := findClass_of_methodNamed B.named
  subst hsz
  have hts := atoms_spec (ws := Cond.code y cd mL rt :: wsL_law) B.pre
  have hl := lv_entry av (n := mL) hlen
  rw [lg_entry_eq]
  exact body p e s m _ below meth c (va_A w s.heap.size) ⟨B.exec, B.bytes, hml, hown, fun w h => hts w (List.mem_cons_of_mem _ h), hK, fun q h => Or.inr h, B.notSynchronized, hE, hE0⟩ B.returns s.heap [] _ hP hD0.self va_S.rf hl
section VB2
variable {E : (Nat → Prop) → State → Heap → Prop} {p : Program} {l : Launch} {e : Env} {R : Room} {s : State} {m : MethodId} {args : Array Value} {below : List Frame} {meth : Method} {c : Code} {A : Nat → Prop} {D : va_G} {tys : List (ClassId × FieldType)} {cc : ByteArray} {nL : Nat} {own : String} {kc ks : Nat} {Q : State → Prop} {w : va_W} {pc : Nat} {lv lv' : List (Nat × Value)} {st : List Value}
theorem vi_nmi {x y : Int32} (h : x = y) (k : vV p l e R s m args below meth c A D nL kc ks Q w pc lv (.int x :: st)) : vV p l e R s m args below meth c A D nL kc ks Q w pc lv (.int y :: st) := by subst h; exact k
theorem vi_nml {x y : Int64} (h : x = y) (k : vV p l e R s m args below meth c A D nL kc ks Q w pc lv (.long x :: st)) : vV p l e R s m args below meth c A D nL kc ks Q w pc lv (.long y :: st) := by subst h; exact k
theorem vi_nmf {x y : UInt32} (h : x = y) (k : vV p l e R s m args below meth c A D nL kc ks Q w pc lv (.float x :: st)) : vV p l e R s m args below meth c A D nL kc ks Q w pc lv (.float y :: st) := by subst h; exact k
theorem vi_nmd {x y : UInt64} (h : x = y) (k : vV p l e R s m args below meth c A D nL kc ks Q w pc lv (.double x :: st)) : vV p l e R s m args below meth c A D nL kc ks Q w pc lv (.double y :: st) := by subst h; exact k
theorem vi_donei {σ : Type} {W : σ → va_W} {r0 x : Int32} {u u0 : σ} (RET : ∀ (pc : Nat) (lv : List (Nat × Value)), decode cc pc = .ok (.ireturn, 1) → vV p l e R s m args below meth c A D nL kc ks Q (W u0) pc lv [.int r0]) (h : some (x, u) = some (r0, u0)) (hd : decode cc pc = .ok (.ireturn, 1)) : vV p l e R s m args below meth c A D nL kc ks Q (W u) pc lv [.int x] := by cases h; exact RET pc lv hd
theorem vi_donei0 {r0 x : Int32} (RET : ∀ (pc : Nat) (lv : List (Nat × Value)), decode cc pc = .ok (.ireturn, 1) → vV p l e R s m args below meth c A D nL kc ks Q w pc lv [.int r0]) (h : some x = some r0) (hd : decode cc pc = .ok (.ireturn, 1)) : vV p l e R s m args below meth c A D nL kc ks Q w pc lv [.int x] := by cases h; exact RET pc lv hd
theorem vi_donel {σ : Type} {W : σ → va_W} {r0 x : Int64} {u u0 : σ} (RET : ∀ (pc : Nat) (lv : List (Nat × Value)), decode cc pc = .ok (.lreturn, 1) → vV p l e R s m args below meth c A D nL kc ks Q (W u0) pc lv [.long r0]) (h : some (x, u) = some (r0, u0)) (hd : decode cc pc = .ok (.lreturn, 1)) : vV p l e R s m args below meth c A D nL kc ks Q (W u) pc lv [.long x] := by cases h; exact RET pc lv hd
theorem vi_donel0 {r0 x : Int64} (RET : ∀ (pc : Nat) (lv : List (Nat × Value)), decode cc pc = .ok (.lreturn, 1) → vV p l e R s m args below meth c A D nL kc ks Q w pc lv [.long r0]) (h : some x = some r0) (hd : decode cc pc = .ok (.lreturn, 1)) : vV p l e R s m args below meth c A D nL kc ks Q w pc lv [.long x] := by cases h; exact RET pc lv hd
theorem vi_donef {σ : Type} {W : σ → va_W} {r0 x : UInt32} {u u0 : σ} (RET : ∀ (pc : Nat) (lv : List (Nat × Value)), decode cc pc = .ok (.freturn, 1) → vV p l e R s m args below meth c A D nL kc ks Q (W u0) pc lv [.float r0]) (h : some (x, u) = some (r0, u0)) (hd : decode cc pc = .ok (.freturn, 1)) : vV p l e R s m args below meth c A D nL kc ks Q (W u) pc lv [.float x] := by cases h; exact RET pc lv hd
theorem vi_donef0 {r0 x : UInt32} (RET : ∀ (pc : Nat) (lv : List (Nat × Value)), decode cc pc = .ok (.freturn, 1) → vV p l e R s m args below meth c A D nL kc ks Q w pc lv [.float r0]) (h : some x = some r0) (hd : decode cc pc = .ok (.freturn, 1)) : vV p l e R s m args below meth c A D nL kc ks Q w pc lv [.float x] := by cases h; exact RET pc lv hd
theorem vi_doned {σ : Type} {W : σ → va_W} {r0 x : UInt64} {u u0 : σ} (RET : ∀ (pc : Nat) (lv : List (Nat × Value)), decode cc pc = .ok (.dreturn, 1) → vV p l e R s m args below meth c A D nL kc ks Q (W u0) pc lv [.double r0]) (h : some (x, u) = some (r0, u0)) (hd : decode cc pc = .ok (.dreturn, 1)) : vV p l e R s m args below meth c A D nL kc ks Q (W u) pc lv [.double x] := by cases h; exact RET pc lv hd
theorem vi_doned0 {r0 x : UInt64} (RET : ∀ (pc : Nat) (lv : List (Nat × Value)), decode cc pc = .ok (.dreturn, 1) → vV p l e R s m args below meth c A D nL kc ks Q w pc lv [.double r0]) (h : some x = some r0) (hd : decode cc pc = .ok (.dreturn, 1)) : vV p l e R s m args below meth c A D nL kc ks Q w pc lv [.double x] := by cases h; exact RET pc lv hd
theorem vi_donez {σ : Type} {W : σ → va_W} {r0 x : Int32} {u u0 : σ} (RET : ∀ (pc : Nat) (lv : List (Nat × Value)), decode cc pc = .ok (.ireturn, 1) → (r0 = 0 ∨ r0 = 1) → vV p l e R s m args below meth c A D nL kc ks Q (W u0) pc lv [.int r0]) (h : some (x, u) = some (r0, u0)) (hz : (x = 0 ∨ x = 1)) (hd : decode cc pc = .ok (.ireturn, 1)) : vV p l e R s m args below meth c A D nL kc ks Q (W u) pc lv [.int x] := by cases h; exact RET pc lv hd hz
theorem vi_donez0 {r0 x : Int32} (RET : ∀ (pc : Nat) (lv : List (Nat × Value)), decode cc pc = .ok (.ireturn, 1) → (r0 = 0 ∨ r0 = 1) → vV p l e R s m args below meth c A D nL kc ks Q w pc lv [.int r0]) (h : some x = some r0) (hz : (x = 0 ∨ x = 1)) (hd : decode cc pc = .ok (.ireturn, 1)) : vV p l e R s m args below meth c A D nL kc ks Q w pc lv [.int x] := by cases h; exact RET pc lv hd hz
theorem vi_donec {σ : Type} {W : σ → va_W} {r0 x : Int32} {u u0 : σ} (RET : ∀ (pc : Nat) (lv : List (Nat × Value)), decode cc pc = .ok (.ireturn, 1) → ((r0 &&& 65535) = r0) → vV p l e R s m args below meth c A D nL kc ks Q (W u0) pc lv [.int r0]) (h : some (x, u) = some (r0, u0)) (hz : ((x &&& 65535) = x)) (hd : decode cc pc = .ok (.ireturn, 1)) : vV p l e R s m args below meth c A D nL kc ks Q (W u) pc lv [.int x] := by cases h; exact RET pc lv hd hz
theorem vi_donec0 {r0 x : Int32} (RET : ∀ (pc : Nat) (lv : List (Nat × Value)), decode cc pc = .ok (.ireturn, 1) → ((r0 &&& 65535) = r0) → vV p l e R s m args below meth c A D nL kc ks Q w pc lv [.int r0]) (h : some x = some r0) (hz : ((x &&& 65535) = x)) (hd : decode cc pc = .ok (.ireturn, 1)) : vV p l e R s m args below meth c A D nL kc ks Q w pc lv [.int x] := by cases h; exact RET pc lv hd hz
theorem vi_donev {σ : Type} {W : σ → va_W} {u u0 : σ} (RET : ∀ (pc : Nat) (lv : List (Nat × Value)), decode cc pc = .ok (.return_, 1) → vV p l e R s m args below meth c A D nL kc ks Q (W u0) pc lv []) (h : some u = some u0) (hd : decode cc pc = .ok (.return_, 1)) : vV p l e R s m args below meth c A D nL kc ks Q (W u) pc lv [] := by cases h; exact RET pc lv hd
theorem vi_retzz (C : vC E p l s m args meth c A D tys cc nL own) {r : Int32} (hr : meth.sig.returnType = some .boolean) : ∀ (pc : Nat) (lv : List (Nat × Value)), decode cc pc = .ok (.ireturn, 1) → (r = 0 ∨ r = 1) → vV p l e R s m args below meth c A D nL kc ks (MQ below (vQi D w r A) args s kc ks A) w pc lv [.int r] := fun pc lv hd hz => vi_retz C hr (by rcases hz with rfl | rfl <;> rfl) pc lv hd
theorem vi_callS0i (C : vC E p l s m args meth c A D tys cc nL own) {y : MethodName} {cd : ByteArray} {mL : Nat} {rt : Option FieldType} {fr lo : Nat} {As rest : List Value} {idx : Nat} {r : Int32} (hM : vM E l y cd mL rt fr lo D tys As [] (vQi D [] r)) (n : Nat) (hn : As.length = n) (hcode : Cond.code y cd mL rt ∈ wsL_law) (hlink : Cond.methodLink own idx y ∈ wsL_law) (hstat : Cond.static y ∈ wsL_law) (hini : Cond.initialized y.cls ∈ wsL_law) (hd : y.cls ≠ "java/lang/invoke/MethodHandle" ∧ y.cls ≠ "java/lang/invoke/VarHandle" ∧ (parseMethodDescriptor y.desc).map (fun d => d.parameters.length) = some n) (hR : fr + 1 ≤ R.frames ∧ 8 + (mL + 11) + lo ≤ R.locals) (hst : st = As.reverse ++ rest) (hcat : (rest.map fun v => v.category).sum ≤ 8) (hdg : decode cc pc = .ok (.invokestatic idx, 3)) (k : vV p l e R s m args below meth c A D nL 0 0 Q w (pc + 3) lv (.int r :: rest)) : vV p l e R s m args below meth c A D nL 0 0 Q w pc lv st := vi_callSi (w1 := []) (wc := []) (wd := []) (w2 := w) C hM n hn hcode hlink hstat hini hd hR ⟨Nat.zero_le _, Nat.zero_le _⟩ rfl hst hcat hdg rfl k
theorem vi_callS0f (C : vC E p l s m args meth c A D tys cc nL own) {y : MethodName} {cd : ByteArray} {mL : Nat} {rt : Option FieldType} {fr lo : Nat} {As rest : List Value} {idx : Nat} {r : UInt32} (hM : vM E l y cd mL rt fr lo D tys As [] (vQf D [] r)) (n : Nat) (hn : As.length = n) (hcode : Cond.code y cd mL rt ∈ wsL_law) (hlink : Cond.methodLink own idx y ∈ wsL_law) (hstat : Cond.static y ∈ wsL_law) (hini : Cond.initialized y.cls ∈ wsL_law) (hd : y.cls ≠ "java/lang/invoke/MethodHandle" ∧ y.cls ≠ "java/lang/invoke/VarHandle" ∧ (parseMethodDescriptor y.desc).map (fun d => d.parameters.length) = some n) (hR : fr + 1 ≤ R.frames ∧ 8 + (mL + 11) + lo ≤ R.locals) (hst : st = As.reverse ++ rest) (hcat : (rest.map fun v => v.category).sum ≤ 8) (hdg : decode cc pc = .ok (.invokestatic idx, 3)) (k : vV p l e R s m args below meth c A D nL 0 0 Q w (pc + 3) lv (.float r :: rest)) : vV p l e R s m args below meth c A D nL 0 0 Q w pc lv st := vi_callSf (w1 := []) (wc := []) (wd := []) (w2 := w) C hM n hn hcode hlink hstat hini hd hR ⟨Nat.zero_le _, Nat.zero_le _⟩ rfl hst hcat hdg rfl k
theorem vi_callS0d (C : vC E p l s m args meth c A D tys cc nL own) {y : MethodName} {cd : ByteArray} {mL : Nat} {rt : Option FieldType} {fr lo : Nat} {As rest : List Value} {idx : Nat} {r : UInt64} (hM : vM E l y cd mL rt fr lo D tys As [] (vQd D [] r)) (n : Nat) (hn : As.length = n) (hcode : Cond.code y cd mL rt ∈ wsL_law) (hlink : Cond.methodLink own idx y ∈ wsL_law) (hstat : Cond.static y ∈ wsL_law) (hini : Cond.initialized y.cls ∈ wsL_law) (hd : y.cls ≠ "java/lang/invoke/MethodHandle" ∧ y.cls ≠ "java/lang/invoke/VarHandle" ∧ (parseMethodDescriptor y.desc).map (fun d => d.parameters.length) = some n) (hR : fr + 1 ≤ R.frames ∧ 8 + (mL + 11) + lo ≤ R.locals) (hst : st = As.reverse ++ rest) (hcat : (rest.map fun v => v.category).sum ≤ 8) (hdg : decode cc pc = .ok (.invokestatic idx, 3)) (k : vV p l e R s m args below meth c A D nL 0 0 Q w (pc + 3) lv (.double r :: rest)) : vV p l e R s m args below meth c A D nL 0 0 Q w pc lv st := vi_callSd (w1 := []) (wc := []) (wd := []) (w2 := w) C hM n hn hcode hlink hstat hini hd hR ⟨Nat.zero_le _, Nat.zero_le _⟩ rfl hst hcat hdg rfl k
theorem vi_callS0l (C : vC E p l s m args meth c A D tys cc nL own) {y : MethodName} {cd : ByteArray} {mL : Nat} {rt : Option FieldType} {fr lo : Nat} {As rest : List Value} {idx : Nat} {r : Int64} (hM : vM E l y cd mL rt fr lo D tys As [] (vQl D [] r)) (n : Nat) (hn : As.length = n) (hcode : Cond.code y cd mL rt ∈ wsL_law) (hlink : Cond.methodLink own idx y ∈ wsL_law) (hstat : Cond.static y ∈ wsL_law) (hini : Cond.initialized y.cls ∈ wsL_law) (hd : y.cls ≠ "java/lang/invoke/MethodHandle" ∧ y.cls ≠ "java/lang/invoke/VarHandle" ∧ (parseMethodDescriptor y.desc).map (fun d => d.parameters.length) = some n) (hR : fr + 1 ≤ R.frames ∧ 8 + (mL + 11) + lo ≤ R.locals) (hst : st = As.reverse ++ rest) (hcat : (rest.map fun v => v.category).sum ≤ 8) (hdg : decode cc pc = .ok (.invokestatic idx, 3)) (k : vV p l e R s m args below meth c A D nL 0 0 Q w (pc + 3) lv (.long r :: rest)) : vV p l e R s m args below meth c A D nL 0 0 Q w pc lv st := vi_callSl (w1 := []) (wc := []) (wd := []) (w2 := w) C hM n hn hcode hlink hstat hini hd hR ⟨Nat.zero_le _, Nat.zero_le _⟩ rfl hst hcat hdg rfl k
theorem vi_f2ib (C : vC E p l s m args meth c A D tys cc nL own) {idx : Nat} {b : UInt32} (hd : decode cc pc = .ok (.invokestatic idx, 3)) (hlink : Cond.methodLink own idx ⟨"java/lang/Float", "floatToRawIntBits", "(F)I"⟩ ∈ wsL_law) (hnat : Cond.native ⟨"java/lang/Float", "floatToRawIntBits", "(F)I"⟩ ∈ wsL_law) (hstat : Cond.static ⟨"java/lang/Float", "floatToRawIntBits", "(F)I"⟩ ∈ wsL_law) (hini : Cond.initialized "java/lang/Float" ∈ wsL_law) (hfr : 1 ≤ R.frames) (hlo : (st.map fun v => v.category).sum + 15 ≤ R.locals) (k : vV p l e R s m args below meth c A D nL kc ks Q w (pc + 3) lv (.int b.toInt32 :: st)) : vV p l e R s m args below meth c A D nL kc ks Q w pc lv (.float b :: st) := fun H locs ls hP hD hS hl => vn_f2i C.1 C.2.1 (C.2.2.1.trans hl.1.symm) C.2.2.2.1 (C.2.2.2.2.1 _ hlink) (C.2.2.2.2.1 _ hnat) (C.2.2.2.2.1 _ hstat) (C.2.2.2.2.1 _ hini) hfr hlo hd (k H locs ls hP hD hS hl)
theorem vi_ib2f (C : vC E p l s m args meth c A D tys cc nL own) {idx : Nat} {b : Int32} (hv : vn_sni2f b = false) (hd : decode cc pc = .ok (.invokestatic idx, 3)) (hlink : Cond.methodLink own idx ⟨"java/lang/Float", "intBitsToFloat", "(I)F"⟩ ∈ wsL_law) (hnat : Cond.native ⟨"java/lang/Float", "intBitsToFloat", "(I)F"⟩ ∈ wsL_law) (hstat : Cond.static ⟨"java/lang/Float", "intBitsToFloat", "(I)F"⟩ ∈ wsL_law) (hini : Cond.initialized "java/lang/Float" ∈ wsL_law) (hfr : 1 ≤ R.frames) (hlo : (st.map fun v => v.category).sum + 15 ≤ R.locals) (k : vV p l e R s m args below meth c A D nL kc ks Q w (pc + 3) lv (.float b.toUInt32 :: st)) : vV p l e R s m args below meth c A D nL kc ks Q w pc lv (.int b :: st) := fun H locs ls hP hD hS hl => vn_i2f C.1 C.2.1 (C.2.2.1.trans hl.1.symm) C.2.2.2.1 (C.2.2.2.2.1 _ hlink) (C.2.2.2.2.1 _ hnat) (C.2.2.2.2.1 _ hstat) (C.2.2.2.2.1 _ hini) hv hfr hlo hd (k H locs ls hP hD hS hl)
end VB2
end
section
/-! WHAT IS NEVER WRITTEN: the constants of Form, their shapes, the table of its switches, the links between nest mates -/
def vnm : List String := ["SAIL", "SHORE", "SIGHT", "MOOD", "RUM", "WATCH", "HORIZON", "ERROR", "ERROR_BELOW", "HOUR"]
def vlen : List Nat := [9, 7, 7, 11, 7, 9, 11, 7, 8, 4]
def vbyt : List (List Int32) := [[115, 97, 105, 108, 32, 88, 88, 88, 88], [115, 104, 111, 114, 101, 32, 87], [115, 105, 103, 104, 116, 32, 87], [109, 111, 111, 100, 32, 87, 32, 88, 88, 88, 88], [114, 117, 109, 32, 87, 32, 86], [119, 97, 116, 99, 104, 32, 87, 32, 86], [104, 111, 114, 105, 122, 111, 110, 32, 87, 32, 86], [101, 114, 114, 111, 114, 32, 86], [101, 114, 114, 111, 114, 32, 45, 86], [104, 111, 117, 114]]
def vsw : List Int32 := [1, 2, 3, 4, 5, 6, 7, 8, 0, 0]
def vNestF : List (String × Nat × String × String × String × String) := [("MoodSextant", 70, "MoodSextant$Ship", "sailors", "I", "MoodSextant"), ("MoodSextant", 84, "MoodSextant$Ship", "moods", "[I", "MoodSextant"), ("MoodSextant", 94, "MoodSextant$Ship", "cups", "[I", "MoodSextant"), ("MoodSextant", 103, "MoodSextant$Ship", "watches", "[I", "MoodSextant"), ("MoodSextant", 112, "MoodSextant$Ship", "horizons", "[I", "MoodSextant"), ("MoodSextant", 121, "MoodSextant$Ship", "wrongBy", "I", "MoodSextant"), ("MoodSextant", 238, "MoodSextant$Ship", "hoursGone", "I", "MoodSextant"), ("MoodSextant", 127, "MoodSextant$Ship", "sights", "I", "MoodSextant"), ("MoodSextant", 169, "MoodSextant$Ship", "sighted", "[I", "MoodSextant"), ("MoodSextant", 172, "MoodSextant$Ship", "sightHours", "[I", "MoodSextant"), ("MoodSextant", 175, "MoodSextant$Ship", "readings", "[F", "MoodSextant"), ("MoodSextant", 241, "MoodSextant$Ship", "taken", "I", "MoodSextant"), ("MoodSextant", 244, "MoodSextant$Ship", "given", "I", "MoodSextant"), ("MoodSextant", 247, "MoodSextant$Ship", "drunk", "I", "MoodSextant"), ("MoodSextant", 250, "MoodSextant$Ship", "ashore", "I", "MoodSextant"), ("MoodSextant", 256, "MoodSextant$History", "kept", "I", "MoodSextant"), ("MoodSextant", 307, "MoodSextant$Reasons", "numbers", "[I", "MoodSextant"), ("MoodSextant", 304, "MoodSextant$Reasons", "details", "[I", "MoodSextant"), ("MoodSextant", 301, "MoodSextant$Reasons", "depth", "I", "MoodSextant"), ("MoodSextant", 253, "MoodSextant$Text", "length", "I", "MoodSextant"), ("MoodSextant", 342, "MoodSextant$Text", "forms", "[LMoodSextant$Form;", "MoodSextant"), ("MoodSextant", 346, "MoodSextant$Text", "whos", "[I", "MoodSextant"), ("MoodSextant", 349, "MoodSextant$Text", "values", "[I", "MoodSextant"), ("MoodSextant", 297, "MoodSextant$Text", "commands", "I", "MoodSextant"), ("MoodSextant", 274, "MoodSextant$Line", "signs", "[C", "MoodSextant"), ("MoodSextant", 273, "MoodSextant$Line", "length", "I", "MoodSextant"), ("MoodSextant$Text", 56, "MoodSextant", "FORMS", "[LMoodSextant$Form;", "MoodSextant"), ("MoodSextant$Text", 47, "MoodSextant$Form", "shape", "Ljava/lang/String;", "MoodSextant")]
def vNestM : List (String × Nat × MethodName × String) := [("MoodSextant", 31, ⟨"MoodSextant$Reasons", "<init>", "()V"⟩, "MoodSextant"), ("MoodSextant", 38, ⟨"MoodSextant$Text", "<init>", "()V"⟩, "MoodSextant"), ("MoodSextant", 45, ⟨"MoodSextant$Line", "<init>", "()V"⟩, "MoodSextant")]
def vNs (U : State) : Prop := (∀ q ∈ vNestF, va_Nw (.fieldLinkNest q.1 q.2.1 q.2.2.1 q.2.2.2.1 q.2.2.2.2.1 q.2.2.2.2.2) U) ∧ (∀ q ∈ vNestM, va_Nw (.methodLinkNest q.1 q.2.1 q.2.2.1 q.2.2.2) U)
/-- the constants of Form at ad 0 .. ad 9, their shapes at adK with bytes at adV, the switches' table at tS, the row of all forms at tF -/
def vE (ad adK adV : Nat → Nat) (tS tF : Nat) (A : Nat → Prop) (U : State) (H : Heap) : Prop :=
  (∀ i, i < 10 → va_Z "MoodSextant$Form" (vnm.getD i "") "LMoodSextant$Form;" (.ref (ad i)) A U H ∧ va_O "MoodSextant$Form" (ad i) A U H ∧ va_OF "java/lang/Enum" "ordinal" "I" (.int (nI i)) (ad i) A U H ∧ va_OF "MoodSextant$Form" "shape" "Ljava/lang/String;" (.ref (adK i)) (ad i) A U H) ∧
  (∀ i j, i < 10 → j < 10 → ad i = ad j → i = j) ∧
  vk_S 10 vlen vbyt adK adV A U H ∧
  (va_Z "MoodSextant$1" "$SwitchMap$MoodSextant$Form" "[I" (.ref tS) A U H ∧ va_T .int tS 10 (fun i => .int (vsw.getD i 0)) A U H) ∧
  (va_Z "MoodSextant" "FORMS" "[LMoodSextant$Form;" (.ref tF) A U H ∧ va_T (.object "MoodSextant$Form") tF 10 (fun i => .ref (ad i)) A U H) ∧
  va_Z "java/lang/String" "COMPACT_STRINGS" "Z" (.int 1) A U H ∧
  va_Zq "jdk/internal/util/Preconditions" "SIOOBE_FORMATTER" "Ljava/util/function/BiFunction;" A U H ∧
  vNs U
theorem vNs_warm {u U : State} (hW : u.WarmedH U.vm) (h : vNs u) : vNs U := ⟨fun q hq => va_Nw.warmF hW (h.1 q hq), fun q hq => va_Nw.warmM hW (h.2 q hq)⟩
theorem vNs_same {u U : State} (hv : u.vm = U.vm) (h : vNs u) : vNs U := ⟨fun q hq => va_tabs rfl hv (h.1 q hq), fun q hq => va_tabs rfl hv (h.2 q hq)⟩
theorem vE_moved {ad adK adV : Nat → Nat} {tS tF : Nat} {A : Nat → Prop} {u U : State} {H : Heap} (hvm : u.vm.Alike U.vm) (hn : vNs u → vNs U) (h : vE ad adK adV tS tF A u H) : vE ad adK adV tS tF A U H :=
  ⟨fun i hi => ⟨va_Z.moved hvm (h.1 i hi).1, va_O.moved hvm (h.1 i hi).2.1, va_OF.moved hvm (h.1 i hi).2.2.1, va_OF.moved hvm (h.1 i hi).2.2.2⟩, h.2.1, vk_S.moved hvm h.2.2.1, ⟨va_Z.moved hvm h.2.2.2.1.1, va_T.moved hvm h.2.2.2.1.2⟩, ⟨va_Z.moved hvm h.2.2.2.2.1.1, va_T.moved hvm h.2.2.2.2.1.2⟩, va_Z.moved hvm h.2.2.2.2.2.1, va_Zq.moved hvm h.2.2.2.2.2.2.1, hn h.2.2.2.2.2.2.2⟩
theorem vE_ok (ad adK adV : Nat → Nat) (tS tF : Nat) : vEok (vE ad adK adV tS tF) := by
  refine ⟨fun A U H H1 h hq => ?_, fun A B U H h hAB => ?_, fun A u U H hW h => vE_moved hW.alike (vNs_warm hW) h, fun A u U H hv h => vE_moved (by rw [hv]; exact Vm.Alike.refl _) (vNs_same hv) h⟩
  · exact ⟨fun i hi => ⟨(h.1 i hi).1.kept hq, (h.1 i hi).2.1.kept hq, (h.1 i hi).2.2.1.kept hq, (h.1 i hi).2.2.2.kept hq⟩, h.2.1, h.2.2.1.kept hq, ⟨h.2.2.2.1.1.kept hq, h.2.2.2.1.2.kept hq⟩, ⟨h.2.2.2.2.1.1.kept hq, h.2.2.2.2.1.2.kept hq⟩, h.2.2.2.2.2.1.kept hq, h.2.2.2.2.2.2.1.kept hq, h.2.2.2.2.2.2.2⟩
  · exact ⟨fun i hi => ⟨(h.1 i hi).1.narrow hAB, (h.1 i hi).2.1.narrow hAB, (h.1 i hi).2.2.1.narrow hAB, (h.1 i hi).2.2.2.narrow hAB⟩, h.2.1, h.2.2.1.narrow hAB, ⟨h.2.2.2.1.1.narrow hAB, h.2.2.2.1.2.narrow hAB⟩, ⟨h.2.2.2.2.1.1.narrow hAB, h.2.2.2.2.1.2.narrow hAB⟩, h.2.2.2.2.2.1.narrow hAB, h.2.2.2.2.2.2.1.narrow hAB, h.2.2.2.2.2.2.2⟩
section VCN
variable {p : Program} {l : Launch} {e : Env} {R : Room} {s : State} {m : MethodId} {args : Array Value} {below : List Frame} {meth : Method} {c : Code} {A : Nat → Prop} {D : va_G} {tys : List (ClassId × FieldType)} {cc : ByteArray} {nL : Nat} {own : String} {kc ks : Nat} {Q : State → Prop} {w : va_W} {pc : Nat} {lv lv' : List (Nat × Value)} {st : List Value}
variable {ad adK adV : Nat → Nat} {tS tF : Nat}
theorem vi_gets (C : vC (vE ad adK adV tS tF) p l s m args meth c A D tys cc nL own) {Cn n d ref : String} {v : Value} {idx : Nat} (hZ : va_Z Cn n d v A s s.heap) (hm : Cond.fieldLink own idx ref n d ∈ wsL_law) (hr : Cn = ref) (hd : decode cc pc = .ok (.getstatic idx, 3)) (k : vV p l e R s m args below meth c A D nL kc ks Q w (pc + 3) lv (v :: st)) : vV p l e R s m args below meth c A D nL kc ks Q w pc lv st := fun H locs ls hP hD hS hl => va_gets C.1 C.2.1 hZ hS C.2.2.2.1 (C.2.2.2.2.1 _ hm) (fun z h => by rw [← hr]; exact h) hd (k H locs ls hP hD hS hl)
theorem vi_getF (C : vC (vE ad adK adV tS tF) p l s m args meth c A D tys cc nL own) {idx : Nat} (i : Nat) (hi : i < 10) (hm : Cond.fieldLink own idx "MoodSextant$Form" (vnm.getD i "") "LMoodSextant$Form;" ∈ wsL_law) (hd : decode cc pc = .ok (.getstatic idx, 3)) (k : vV p l e R s m args below meth c A D nL kc ks Q w (pc + 3) lv (.ref (ad i) :: st)) : vV p l e R s m args below meth c A D nL kc ks Q w pc lv st := vi_gets C (C.2.2.2.2.2.2.2.2.2.1 i hi).1 hm rfl hd k
theorem vi_getSw (C : vC (vE ad adK adV tS tF) p l s m args meth c A D tys cc nL own) {idx : Nat} (hm : Cond.fieldLink own idx "MoodSextant$1" "$SwitchMap$MoodSextant$Form" "[I" ∈ wsL_law) (hd : decode cc pc = .ok (.getstatic idx, 3)) (k : vV p l e R s m args below meth c A D nL kc ks Q w (pc + 3) lv (.ref tS :: st)) : vV p l e R s m args below meth c A D nL kc ks Q w pc lv st := vi_gets C C.2.2.2.2.2.2.2.2.2.2.2.2.1.1 hm rfl hd k
theorem vi_getCo (C : vC (vE ad adK adV tS tF) p l s m args meth c A D tys cc nL own) {idx : Nat} (hm : Cond.fieldLink own idx "java/lang/String" "COMPACT_STRINGS" "Z" ∈ wsL_law) (hd : decode cc pc = .ok (.getstatic idx, 3)) (k : vV p l e R s m args below meth c A D nL kc ks Q w (pc + 3) lv (.int 1 :: st)) : vV p l e R s m args below meth c A D nL kc ks Q w pc lv st := vi_gets C C.2.2.2.2.2.2.2.2.2.2.2.2.2.2.1 hm rfl hd k
theorem vi_getFs (C : vC (vE ad adK adV tS tF) p l s m args meth c A D tys cc nL own) {idx : Nat} (hm : ("MoodSextant$Text", idx, "MoodSextant", "FORMS", "[LMoodSextant$Form;", "MoodSextant") ∈ vNestF) (hown : own = "MoodSextant$Text") (hd : decode cc pc = .ok (.getstatic idx, 3)) (k : vV p l e R s m args below meth c A D nL kc ks Q w (pc + 3) lv (.ref tF :: st)) : vV p l e R s m args below meth c A D nL kc ks Q w pc lv st := fun H locs ls hP hD hS hl => va_getsN C.1 C.2.1 C.2.2.2.2.2.2.2.2.2.2.2.2.2.1.1 hS C.2.2.2.1 (va_Nw.use (w := .fieldLinkNest own idx "MoodSextant" "FORMS" "[LMoodSextant$Form;" "MoodSextant") rfl (by rw [hown]; exact C.2.2.2.2.2.2.2.2.2.2.2.2.2.2.2.2.1 _ hm)) (fun z h => h) hd (k H locs ls hP hD hS hl)
theorem vi_ldSw (C : vC (vE ad adK adV tS tF) p l s m args meth c A D tys cc nL own) {i : Int32} {n : Nat} (hin : ¬ (i < 0 ∨ 10 ≤ i.toNatClampNeg)) (hn : i.toNatClampNeg = n) (hd : decode cc pc = .ok (.iaload, 1)) (k : vV p l e R s m args below meth c A D nL kc ks Q w (pc + 1) lv (.int (vsw.getD n 0) :: st)) : vV p l e R s m args below meth c A D nL kc ks Q w pc lv (.int i :: .ref tS :: st) := by subst hn; exact fun H locs ls hP hD hS hl => va_ti C.1 C.2.1 C.2.2.2.2.2.2.2.2.2.2.2.2.1.2 hS hin rfl hd (k H locs ls hP hD hS hl)
theorem vi_ldFo (C : vC (vE ad adK adV tS tF) p l s m args meth c A D tys cc nL own) {i : Int32} {n : Nat} (hin : ¬ (i < 0 ∨ 10 ≤ i.toNatClampNeg)) (hn : i.toNatClampNeg = n) (hd : decode cc pc = .ok (.aaload, 1)) (k : vV p l e R s m args below meth c A D nL kc ks Q w (pc + 1) lv (.ref (ad n) :: st)) : vV p l e R s m args below meth c A D nL kc ks Q w pc lv (.int i :: .ref tF :: st) := by subst hn; exact fun H locs ls hP hD hS hl => vb_tq C.1 C.2.1 C.2.2.2.2.2.2.2.2.2.2.2.2.2.1.2 hS hin rfl hd (k H locs ls hP hD hS hl)
theorem vi_lenFo (C : vC (vE ad adK adV tS tF) p l s m args meth c A D tys cc nL own) (hd : decode cc pc = .ok (.arraylength, 1)) (k : vV p l e R s m args below meth c A D nL kc ks Q w (pc + 1) lv (.int 10 :: st)) : vV p l e R s m args below meth c A D nL kc ks Q w pc lv (.ref tF :: st) := fun H locs ls hP hD hS hl => va_tlen C.1 C.2.1 C.2.2.2.2.2.2.2.2.2.2.2.2.2.1.2 hS rfl hd (k H locs ls hP hD hS hl)
theorem vi_getO (C : vC (vE ad adK adV tS tF) p l s m args meth c A D tys cc nL own) {o n d ref : String} {idx a : Nat} {v : Value} (hO : va_OF o n d v a A s s.heap) (hm : Cond.fieldLink own idx ref n d ∈ wsL_law) (hr : o = ref) (hd : decode cc pc = .ok (.getfield idx, 3)) (k : vV p l e R s m args below meth c A D nL kc ks Q w (pc + 3) lv (v :: st)) : vV p l e R s m args below meth c A D nL kc ks Q w pc lv (.ref a :: st) := fun H locs ls hP hD hS hl => vk_getf C.1 C.2.1 hO hS C.2.2.2.1 (C.2.2.2.2.1 _ hm) (fun z h => by rw [← hr]; exact h) hd (k H locs ls hP hD hS hl)
theorem vi_getOrd (C : vC (vE ad adK adV tS tF) p l s m args meth c A D tys cc nL own) {idx i : Nat} (hi : i < 10) (hm : Cond.fieldLink own idx "java/lang/Enum" "ordinal" "I" ∈ wsL_law) (hd : decode cc pc = .ok (.getfield idx, 3)) (k : vV p l e R s m args below meth c A D nL kc ks Q w (pc + 3) lv (.int (nI i) :: st)) : vV p l e R s m args below meth c A D nL kc ks Q w pc lv (.ref (ad i) :: st) := vi_getO C (C.2.2.2.2.2.2.2.2.2.1 i hi).2.2.1 hm rfl hd k
theorem vi_getShape (C : vC (vE ad adK adV tS tF) p l s m args meth c A D tys cc nL own) {idx i : Nat} (hi : i < 10) (hm : ("MoodSextant$Text", idx, "MoodSextant$Form", "shape", "Ljava/lang/String;", "MoodSextant") ∈ vNestF) (hown : own = "MoodSextant$Text") (hd : decode cc pc = .ok (.getfield idx, 3)) (k : vV p l e R s m args below meth c A D nL kc ks Q w (pc + 3) lv (.ref (adK i) :: st)) : vV p l e R s m args below meth c A D nL kc ks Q w pc lv (.ref (ad i) :: st) := fun H locs ls hP hD hS hl => by
  obtain ⟨cf, kk, fi, f, cell, h1, h2, h3, h4, h5, h6⟩ := (C.2.2.2.2.2.2.2.2.2.1 i hi).2.2.2.kept hS.2.1
  exact va_Wgetf C.1 C.2.1 C.2.2.2.1 (va_Nw.use (w := .fieldLinkNest own idx "MoodSextant$Form" "shape" "Ljava/lang/String;" "MoodSextant") rfl (by rw [hown]; exact C.2.2.2.2.2.2.2.2.2.2.2.2.2.2.2.2.1 _ hm)) h1 h2 h3 h4 (v := .ref (adK i)) h5 rfl rfl hd (k H locs ls hP hD hS hl)
theorem vi_getCoder (C : vC (vE ad adK adV tS tF) p l s m args meth c A D tys cc nL own) {idx i : Nat} (hi : i < 10) (hm : Cond.fieldLink own idx "java/lang/String" "coder" "B" ∈ wsL_law) (hd : decode cc pc = .ok (.getfield idx, 3)) (k : vV p l e R s m args below meth c A D nL kc ks Q w (pc + 3) lv (.int 0 :: st)) : vV p l e R s m args below meth c A D nL kc ks Q w pc lv (.ref (adK i) :: st) := vi_getO C (C.2.2.2.2.2.2.2.2.2.2.2.1.1 i hi).2.1 hm rfl hd k
theorem vi_getValue (C : vC (vE ad adK adV tS tF) p l s m args meth c A D tys cc nL own) {idx i : Nat} (hi : i < 10) (hm : Cond.fieldLink own idx "java/lang/String" "value" "[B" ∈ wsL_law) (hd : decode cc pc = .ok (.getfield idx, 3)) (k : vV p l e R s m args below meth c A D nL kc ks Q w (pc + 3) lv (.ref (adV i) :: st)) : vV p l e R s m args below meth c A D nL kc ks Q w pc lv (.ref (adK i) :: st) := vi_getO C (C.2.2.2.2.2.2.2.2.2.2.2.1.1 i hi).2.2.1 hm rfl hd k
theorem vi_lenB (C : vC (vE ad adK adV tS tF) p l s m args meth c A D tys cc nL own) {i : Nat} (hi : i < 10) (hd : decode cc pc = .ok (.arraylength, 1)) (k : vV p l e R s m args below meth c A D nL kc ks Q w (pc + 1) lv (.int (Int32.ofNat (vlen.getD i 0)) :: st)) : vV p l e R s m args below meth c A D nL kc ks Q w pc lv (.ref (adV i) :: st) := fun H locs ls hP hD hS hl => va_tlen C.1 C.2.1 (C.2.2.2.2.2.2.2.2.2.2.2.1.1 i hi).2.2.2 hS rfl hd (k H locs ls hP hD hS hl)
theorem vi_ldB (C : vC (vE ad adK adV tS tF) p l s m args meth c A D tys cc nL own) {j : Nat} {i : Int32} {n : Nat} (hj : j < 10) (hin : ¬ (i < 0 ∨ vlen.getD j 0 ≤ i.toNatClampNeg)) (hn : i.toNatClampNeg = n) (hd : decode cc pc = .ok (.baload, 1)) (k : vV p l e R s m args below meth c A D nL kc ks Q w (pc + 1) lv (.int ((vbyt.getD j []).getD n 0) :: st)) : vV p l e R s m args below meth c A D nL kc ks Q w pc lv (.int i :: .ref (adV j) :: st) := by subst hn; exact fun H locs ls hP hD hS hl => va_tb C.1 C.2.1 (C.2.2.2.2.2.2.2.2.2.2.2.1.1 j hj).2.2.2 hS hin rfl hd (k H locs ls hP hD hS hl)
theorem vE_recvF (C : vC (vE ad adK adV tS tF) p l s m args meth c A D tys cc nL own) {i : Nat} (hi : i < 10) {H : Heap} {locs : List Loc} (hS : va_S A s.heap H locs) : ∃ cell : Cell, H[ad i]? = some cell ∧ cell.vm.isStatics = false ∧ s.vm.findClass "MoodSextant$Form" = some cell.cls := by
  obtain ⟨cell, h1, h2, h3, -⟩ := ((C.2.2.2.2.2.2.2.2.2.1 i hi).2.1).kept hS.2.1
  exact ⟨cell, h1, h2, h3⟩
theorem vE_recvK (C : vC (vE ad adK adV tS tF) p l s m args meth c A D tys cc nL own) {i : Nat} (hi : i < 10) {H : Heap} {locs : List Loc} (hS : va_S A s.heap H locs) : ∃ cell : Cell, H[adK i]? = some cell ∧ cell.vm.isStatics = false ∧ s.vm.findClass "java/lang/String" = some cell.cls := by
  obtain ⟨cell, h1, h2, h3, -⟩ := ((C.2.2.2.2.2.2.2.2.2.2.2.1.1 i hi).1).kept hS.2.1
  exact ⟨cell, h1, h2, h3⟩
theorem vE_nestF (C : vC (vE ad adK adV tS tF) p l s m args meth c A D tys cc nL own) {q : String × Nat × String × String × String × String} (h : q ∈ vNestF) : va_Nw (.fieldLinkNest q.1 q.2.1 q.2.2.1 q.2.2.2.1 q.2.2.2.2.1 q.2.2.2.2.2) s := C.2.2.2.2.2.2.2.2.2.2.2.2.2.2.2.2.1 q h
theorem vi_getN (C : vC (vE ad adK adV tS tF) p l s m args meth c A D tys cc nL own) {a : Nat} {ref Cn host : String} {T : u_T} {N ci idx : Nat} {fs : List Value} {v : Value} (q0 f : Nat) (hin : ∀ z ∈ u_ws Cn T N, z ∈ wsL_law) (he : w[q0]? = some (a, .inr (ci, fs))) (hc : vwCl[ci]? = some (Cn, T, N)) (hf : f < N) (hm : va_Nw (.fieldLinkNest own idx ref (T f).2.1 (T f).2.2.1 host) s) (hr : (T f).1 = ref) (hv : fs[f]? = some v) (hd : decode cc pc = .ok (.getfield idx, 3)) (k : vV p l e R s m args below meth c A D nL kc ks Q w (pc + 3) lv (v :: st)) : vV p l e R s m args below meth c A D nL kc ks Q w pc lv (.ref a :: st) := fun H locs ls hP hD hS hl => va_getN C.1 C.2.1 C.2.2.2.2.1 hin C.2.2.2.1 C.2.2.2.2.2.1 hP q0 he hc f hf (va_Nw.use rfl hm) (fun z h => by rw [← hr]; exact h) hv hd (k H locs ls hP hD hS hl)
theorem vi_pick {w' : va_W} (is : List Nat) (hn : va_nd is = true) (hs : is.map (fun i => w[i]?) = w'.map some) (k : vV p l e R s m args below meth c A D nL kc ks Q w' pc lv st) : vV p l e R s m args below meth c A D nL kc ks Q w pc lv st := fun H locs ls hP hD hS hl => k H locs ls (hP.sub is (by
    have h := congrArg (fun l : List (Option (Nat × va_E)) => l.filterMap id) hs
    simpa [List.filterMap_map] using h)) (hD.sub is hn hs) hS hl
end VCN
end
