section
-- ===== PART A: goes FIRST, ahead of the names: the tables' words, and 'selects' of the private methods out of them =====
/-- a private method of a class that the tables say can be made, by its rows of tables_1 -/
def lw_okq (q : MethodName × Nat) : Prop := (q.1.cls ≠ "java/lang/invoke/MethodHandle" ∧ q.1.cls ≠ "java/lang/invoke/VarHandle") ∧ Cond.instantiable q.1.cls q.2 ∈ tables_1 ∧ Cond.privateMethod q.1 ∈ tables_1 ∧ Cond.instanceMethod q.1 ∈ tables_1
theorem lw_p0 : lw_okq (⟨"MoodSextant", "isRefused", "(LMoodSextant$Form;II)Z"⟩, 10) := ⟨⟨by decide +kernel, by decide +kernel⟩, List.mem_of_getElem? (i := 20) (by decide +kernel), List.mem_of_getElem? (i := 226) (by decide +kernel), List.mem_of_getElem? (i := 227) (by decide +kernel)⟩
theorem lw_p1 : lw_okq (⟨"MoodSextant$Ship", "isSightedNow", "(I)Z"⟩, 15) := ⟨⟨by decide +kernel, by decide +kernel⟩, List.mem_of_getElem? (i := 28) (by decide +kernel), List.mem_of_getElem? (i := 242) (by decide +kernel), List.mem_of_getElem? (i := 243) (by decide +kernel)⟩
theorem lw_p2 : lw_okq (⟨"MoodSextant$Ship", "sightFrom", "(II)I"⟩, 15) := ⟨⟨by decide +kernel, by decide +kernel⟩, List.mem_of_getElem? (i := 28) (by decide +kernel), List.mem_of_getElem? (i := 246) (by decide +kernel), List.mem_of_getElem? (i := 247) (by decide +kernel)⟩
theorem lw_p3 : lw_okq (⟨"MoodSextant", "change", "(LMoodSextant$Form;II)V"⟩, 10) := ⟨⟨by decide +kernel, by decide +kernel⟩, List.mem_of_getElem? (i := 20) (by decide +kernel), List.mem_of_getElem? (i := 259) (by decide +kernel), List.mem_of_getElem? (i := 260) (by decide +kernel)⟩
theorem lw_p4 : lw_okq (⟨"MoodSextant$Ship", "addSailor", "(I)V"⟩, 15) := ⟨⟨by decide +kernel, by decide +kernel⟩, List.mem_of_getElem? (i := 28) (by decide +kernel), List.mem_of_getElem? (i := 278) (by decide +kernel), List.mem_of_getElem? (i := 279) (by decide +kernel)⟩
theorem lw_p5 : lw_okq (⟨"MoodSextant$Ship", "removeSailor", "(I)V"⟩, 15) := ⟨⟨by decide +kernel, by decide +kernel⟩, List.mem_of_getElem? (i := 28) (by decide +kernel), List.mem_of_getElem? (i := 282) (by decide +kernel), List.mem_of_getElem? (i := 283) (by decide +kernel)⟩
theorem lw_p6 : lw_okq (⟨"MoodSextant$Ship", "forgetSightsOf", "(I)V"⟩, 15) := ⟨⟨by decide +kernel, by decide +kernel⟩, List.mem_of_getElem? (i := 28) (by decide +kernel), List.mem_of_getElem? (i := 286) (by decide +kernel), List.mem_of_getElem? (i := 287) (by decide +kernel)⟩
theorem lw_p7 : lw_okq (⟨"MoodSextant$Ship", "addSight", "(I)V"⟩, 15) := ⟨⟨by decide +kernel, by decide +kernel⟩, List.mem_of_getElem? (i := 28) (by decide +kernel), List.mem_of_getElem? (i := 290) (by decide +kernel), List.mem_of_getElem? (i := 291) (by decide +kernel)⟩
theorem lw_p8 : lw_okq (⟨"MoodSextant$Ship", "give", "(II)V"⟩, 15) := ⟨⟨by decide +kernel, by decide +kernel⟩, List.mem_of_getElem? (i := 28) (by decide +kernel), List.mem_of_getElem? (i := 329) (by decide +kernel), List.mem_of_getElem? (i := 330) (by decide +kernel)⟩
theorem lw_p9 : lw_okq (⟨"MoodSextant$Ship", "passHour", "()V"⟩, 15) := ⟨⟨by decide +kernel, by decide +kernel⟩, List.mem_of_getElem? (i := 28) (by decide +kernel), List.mem_of_getElem? (i := 333) (by decide +kernel), List.mem_of_getElem? (i := 334) (by decide +kernel)⟩
theorem lw_p10 : lw_okq (⟨"MoodSextant$Ship", "mateSet", "(I)I"⟩, 15) := ⟨⟨by decide +kernel, by decide +kernel⟩, List.mem_of_getElem? (i := 28) (by decide +kernel), List.mem_of_getElem? (i := 421) (by decide +kernel), List.mem_of_getElem? (i := 422) (by decide +kernel)⟩
theorem lw_p11 : lw_okq (⟨"MoodSextant$Ship", "areMates", "(II)Z"⟩, 15) := ⟨⟨by decide +kernel, by decide +kernel⟩, List.mem_of_getElem? (i := 28) (by decide +kernel), List.mem_of_getElem? (i := 425) (by decide +kernel), List.mem_of_getElem? (i := 426) (by decide +kernel)⟩
theorem lw_p12 : lw_okq (⟨"MoodSextant$Ship", "latestReading", "(I)F"⟩, 15) := ⟨⟨by decide +kernel, by decide +kernel⟩, List.mem_of_getElem? (i := 28) (by decide +kernel), List.mem_of_getElem? (i := 488) (by decide +kernel), List.mem_of_getElem? (i := 489) (by decide +kernel)⟩
theorem lw_p13 : lw_okq (⟨"MoodSextant$Ship", "secondReading", "(I)F"⟩, 15) := ⟨⟨by decide +kernel, by decide +kernel⟩, List.mem_of_getElem? (i := 28) (by decide +kernel), List.mem_of_getElem? (i := 492) (by decide +kernel), List.mem_of_getElem? (i := 493) (by decide +kernel)⟩
theorem lw_p14 : lw_okq (⟨"MoodSextant$Ship", "isHigher", "(II)Z"⟩, 15) := ⟨⟨by decide +kernel, by decide +kernel⟩, List.mem_of_getElem? (i := 28) (by decide +kernel), List.mem_of_getElem? (i := 561) (by decide +kernel), List.mem_of_getElem? (i := 562) (by decide +kernel)⟩
theorem lw_p15 : lw_okq (⟨"MoodSextant$Ship", "isSightHigher", "(II)Z"⟩, 15) := ⟨⟨by decide +kernel, by decide +kernel⟩, List.mem_of_getElem? (i := 28) (by decide +kernel), List.mem_of_getElem? (i := 573) (by decide +kernel), List.mem_of_getElem? (i := 574) (by decide +kernel)⟩
def lw_privs_1 : List (MethodName × Nat) := [(⟨"MoodSextant", "isRefused", "(LMoodSextant$Form;II)Z"⟩, 10), (⟨"MoodSextant$Ship", "isSightedNow", "(I)Z"⟩, 15), (⟨"MoodSextant$Ship", "sightFrom", "(II)I"⟩, 15), (⟨"MoodSextant", "change", "(LMoodSextant$Form;II)V"⟩, 10), (⟨"MoodSextant$Ship", "addSailor", "(I)V"⟩, 15), (⟨"MoodSextant$Ship", "removeSailor", "(I)V"⟩, 15), (⟨"MoodSextant$Ship", "forgetSightsOf", "(I)V"⟩, 15), (⟨"MoodSextant$Ship", "addSight", "(I)V"⟩, 15), (⟨"MoodSextant$Ship", "give", "(II)V"⟩, 15), (⟨"MoodSextant$Ship", "passHour", "()V"⟩, 15), (⟨"MoodSextant$Ship", "mateSet", "(I)I"⟩, 15), (⟨"MoodSextant$Ship", "areMates", "(II)Z"⟩, 15), (⟨"MoodSextant$Ship", "latestReading", "(I)F"⟩, 15), (⟨"MoodSextant$Ship", "secondReading", "(I)F"⟩, 15), (⟨"MoodSextant$Ship", "isHigher", "(II)Z"⟩, 15), (⟨"MoodSextant$Ship", "isSightHigher", "(II)Z"⟩, 15)]
theorem lw_r1 : ∀ q ∈ lw_privs_1, lw_okq q := List.forall_mem_cons.mpr ⟨lw_p0, List.forall_mem_cons.mpr ⟨lw_p1, List.forall_mem_cons.mpr ⟨lw_p2, List.forall_mem_cons.mpr ⟨lw_p3, List.forall_mem_cons.mpr ⟨lw_p4, List.forall_mem_cons.mpr ⟨lw_p5, List.forall_mem_cons.mpr ⟨lw_p6, List.forall_mem_cons.mpr ⟨lw_p7, List.forall_mem_cons.mpr ⟨lw_p8, List.forall_mem_cons.mpr ⟨lw_p9, List.forall_mem_cons.mpr ⟨lw_p10, List.forall_mem_cons.mpr ⟨lw_p11, List.forall_mem_cons.mpr ⟨lw_p12, List.forall_mem_cons.mpr ⟨lw_p13, List.forall_mem_cons.mpr ⟨lw_p14, List.forall_mem_cons.mpr ⟨lw_p15, fun _ h => absurd h List.not_mem_nil⟩⟩⟩⟩⟩⟩⟩⟩⟩⟩⟩⟩⟩⟩⟩⟩
theorem lw_p16 : lw_okq (⟨"MoodSextant$Text", "formAt", "(I)LMoodSextant$Form;"⟩, 6) := ⟨⟨by decide +kernel, by decide +kernel⟩, List.mem_of_getElem? (i := 136) (by decide +kernel), List.mem_of_getElem? (i := 666) (by decide +kernel), List.mem_of_getElem? (i := 667) (by decide +kernel)⟩
theorem lw_p17 : lw_okq (⟨"MoodSextant$Text", "matchedAt", "(Ljava/lang/String;I)I"⟩, 6) := ⟨⟨by decide +kernel, by decide +kernel⟩, List.mem_of_getElem? (i := 136) (by decide +kernel), List.mem_of_getElem? (i := 672) (by decide +kernel), List.mem_of_getElem? (i := 673) (by decide +kernel)⟩
theorem lw_p18 : lw_okq (⟨"MoodSextant$Text", "farthestAt", "(I)I"⟩, 6) := ⟨⟨by decide +kernel, by decide +kernel⟩, List.mem_of_getElem? (i := 136) (by decide +kernel), List.mem_of_getElem? (i := 730) (by decide +kernel), List.mem_of_getElem? (i := 731) (by decide +kernel)⟩
theorem lw_p19 : lw_okq (⟨"MoodSextant$Text", "keep", "(LMoodSextant$Form;I)V"⟩, 6) := ⟨⟨by decide +kernel, by decide +kernel⟩, List.mem_of_getElem? (i := 136) (by decide +kernel), List.mem_of_getElem? (i := 735) (by decide +kernel), List.mem_of_getElem? (i := 736) (by decide +kernel)⟩
theorem lw_p20 : lw_okq (⟨"MoodSextant", "isTextDone", "()Z"⟩, 10) := ⟨⟨by decide +kernel, by decide +kernel⟩, List.mem_of_getElem? (i := 20) (by decide +kernel), List.mem_of_getElem? (i := 749) (by decide +kernel), List.mem_of_getElem? (i := 750) (by decide +kernel)⟩
theorem lw_p21 : lw_okq (⟨"MoodSextantModel", "begins", "()V"⟩, 24) := ⟨⟨by decide +kernel, by decide +kernel⟩, List.mem_of_getElem? (i := 796) (by decide +kernel), List.mem_of_getElem? (i := 879) (by decide +kernel), List.mem_of_getElem? (i := 880) (by decide +kernel)⟩
theorem lw_p22 : lw_okq (⟨"MoodSextantModel", "comes", "(I)I"⟩, 24) := ⟨⟨by decide +kernel, by decide +kernel⟩, List.mem_of_getElem? (i := 796) (by decide +kernel), List.mem_of_getElem? (i := 886) (by decide +kernel), List.mem_of_getElem? (i := 887) (by decide +kernel)⟩
theorem lw_p23 : lw_okq (⟨"MoodSextantModel", "fail", "(I)I"⟩, 24) := ⟨⟨by decide +kernel, by decide +kernel⟩, List.mem_of_getElem? (i := 796) (by decide +kernel), List.mem_of_getElem? (i := 898) (by decide +kernel), List.mem_of_getElem? (i := 899) (by decide +kernel)⟩
theorem lw_p24 : lw_okq (⟨"MoodSextantModel", "refuses", "(II)I"⟩, 24) := ⟨⟨by decide +kernel, by decide +kernel⟩, List.mem_of_getElem? (i := 796) (by decide +kernel), List.mem_of_getElem? (i := 902) (by decide +kernel), List.mem_of_getElem? (i := 903) (by decide +kernel)⟩
theorem lw_p25 : lw_okq (⟨"MoodSextantModel", "ends", "(I)I"⟩, 24) := ⟨⟨by decide +kernel, by decide +kernel⟩, List.mem_of_getElem? (i := 796) (by decide +kernel), List.mem_of_getElem? (i := 910) (by decide +kernel), List.mem_of_getElem? (i := 911) (by decide +kernel)⟩
theorem lw_p26 : lw_okq (⟨"MoodSextantModel", "goes", "(I)I"⟩, 24) := ⟨⟨by decide +kernel, by decide +kernel⟩, List.mem_of_getElem? (i := 796) (by decide +kernel), List.mem_of_getElem? (i := 918) (by decide +kernel), List.mem_of_getElem? (i := 919) (by decide +kernel)⟩
theorem lw_p27 : lw_okq (⟨"MoodSextantModel", "isSailor", "(I)Z"⟩, 24) := ⟨⟨by decide +kernel, by decide +kernel⟩, List.mem_of_getElem? (i := 796) (by decide +kernel), List.mem_of_getElem? (i := 922) (by decide +kernel), List.mem_of_getElem? (i := 923) (by decide +kernel)⟩
theorem lw_p28 : lw_okq (⟨"MoodSextantModel", "forgets", "(I)V"⟩, 24) := ⟨⟨by decide +kernel, by decide +kernel⟩, List.mem_of_getElem? (i := 796) (by decide +kernel), List.mem_of_getElem? (i := 927) (by decide +kernel), List.mem_of_getElem? (i := 928) (by decide +kernel)⟩
theorem lw_p29 : lw_okq (⟨"MoodSextantModel", "moods", "(II)I"⟩, 24) := ⟨⟨by decide +kernel, by decide +kernel⟩, List.mem_of_getElem? (i := 796) (by decide +kernel), List.mem_of_getElem? (i := 935) (by decide +kernel), List.mem_of_getElem? (i := 936) (by decide +kernel)⟩
theorem lw_p30 : lw_okq (⟨"MoodSextantModel", "sets", "(II)I"⟩, 24) := ⟨⟨by decide +kernel, by decide +kernel⟩, List.mem_of_getElem? (i := 796) (by decide +kernel), List.mem_of_getElem? (i := 939) (by decide +kernel), List.mem_of_getElem? (i := 940) (by decide +kernel)⟩
theorem lw_p31 : lw_okq (⟨"MoodSextantModel", "drinks", "(II)I"⟩, 24) := ⟨⟨by decide +kernel, by decide +kernel⟩, List.mem_of_getElem? (i := 796) (by decide +kernel), List.mem_of_getElem? (i := 947) (by decide +kernel), List.mem_of_getElem? (i := 948) (by decide +kernel)⟩
def lw_privs_2 : List (MethodName × Nat) := [(⟨"MoodSextant$Text", "formAt", "(I)LMoodSextant$Form;"⟩, 6), (⟨"MoodSextant$Text", "matchedAt", "(Ljava/lang/String;I)I"⟩, 6), (⟨"MoodSextant$Text", "farthestAt", "(I)I"⟩, 6), (⟨"MoodSextant$Text", "keep", "(LMoodSextant$Form;I)V"⟩, 6), (⟨"MoodSextant", "isTextDone", "()Z"⟩, 10), (⟨"MoodSextantModel", "begins", "()V"⟩, 24), (⟨"MoodSextantModel", "comes", "(I)I"⟩, 24), (⟨"MoodSextantModel", "fail", "(I)I"⟩, 24), (⟨"MoodSextantModel", "refuses", "(II)I"⟩, 24), (⟨"MoodSextantModel", "ends", "(I)I"⟩, 24), (⟨"MoodSextantModel", "goes", "(I)I"⟩, 24), (⟨"MoodSextantModel", "isSailor", "(I)Z"⟩, 24), (⟨"MoodSextantModel", "forgets", "(I)V"⟩, 24), (⟨"MoodSextantModel", "moods", "(II)I"⟩, 24), (⟨"MoodSextantModel", "sets", "(II)I"⟩, 24), (⟨"MoodSextantModel", "drinks", "(II)I"⟩, 24)]
theorem lw_r2 : ∀ q ∈ lw_privs_2, lw_okq q := List.forall_mem_cons.mpr ⟨lw_p16, List.forall_mem_cons.mpr ⟨lw_p17, List.forall_mem_cons.mpr ⟨lw_p18, List.forall_mem_cons.mpr ⟨lw_p19, List.forall_mem_cons.mpr ⟨lw_p20, List.forall_mem_cons.mpr ⟨lw_p21, List.forall_mem_cons.mpr ⟨lw_p22, List.forall_mem_cons.mpr ⟨lw_p23, List.forall_mem_cons.mpr ⟨lw_p24, List.forall_mem_cons.mpr ⟨lw_p25, List.forall_mem_cons.mpr ⟨lw_p26, List.forall_mem_cons.mpr ⟨lw_p27, List.forall_mem_cons.mpr ⟨lw_p28, List.forall_mem_cons.mpr ⟨lw_p29, List.forall_mem_cons.mpr ⟨lw_p30, List.forall_mem_cons.mpr ⟨lw_p31, fun _ h => absurd h List.not_mem_nil⟩⟩⟩⟩⟩⟩⟩⟩⟩⟩⟩⟩⟩⟩⟩⟩
theorem lw_p32 : lw_okq (⟨"MoodSextantModel", "stands", "(II)I"⟩, 24) := ⟨⟨by decide +kernel, by decide +kernel⟩, List.mem_of_getElem? (i := 796) (by decide +kernel), List.mem_of_getElem? (i := 955) (by decide +kernel), List.mem_of_getElem? (i := 956) (by decide +kernel)⟩
theorem lw_p33 : lw_okq (⟨"MoodSextantModel", "horizons", "(II)I"⟩, 24) := ⟨⟨by decide +kernel, by decide +kernel⟩, List.mem_of_getElem? (i := 796) (by decide +kernel), List.mem_of_getElem? (i := 966) (by decide +kernel), List.mem_of_getElem? (i := 967) (by decide +kernel)⟩
theorem lw_p34 : lw_okq (⟨"MoodSextantModel", "errs", "(I)I"⟩, 24) := ⟨⟨by decide +kernel, by decide +kernel⟩, List.mem_of_getElem? (i := 796) (by decide +kernel), List.mem_of_getElem? (i := 974) (by decide +kernel), List.mem_of_getElem? (i := 975) (by decide +kernel)⟩
theorem lw_p35 : lw_okq (⟨"MoodSextantModel", "takes", "(I)I"⟩, 24) := ⟨⟨by decide +kernel, by decide +kernel⟩, List.mem_of_getElem? (i := 796) (by decide +kernel), List.mem_of_getElem? (i := 982) (by decide +kernel), List.mem_of_getElem? (i := 983) (by decide +kernel)⟩
theorem lw_p36 : lw_okq (⟨"MoodSextantModel", "reads", "(I)F"⟩, 24) := ⟨⟨by decide +kernel, by decide +kernel⟩, List.mem_of_getElem? (i := 796) (by decide +kernel), List.mem_of_getElem? (i := 986) (by decide +kernel), List.mem_of_getElem? (i := 987) (by decide +kernel)⟩
theorem lw_p37 : lw_okq (⟨"MoodSextantModel", "angled", "(I)I"⟩, 24) := ⟨⟨by decide +kernel, by decide +kernel⟩, List.mem_of_getElem? (i := 796) (by decide +kernel), List.mem_of_getElem? (i := 990) (by decide +kernel), List.mem_of_getElem? (i := 991) (by decide +kernel)⟩
theorem lw_p38 : lw_okq (⟨"MoodSextantModel", "cheer", "(I)I"⟩, 24) := ⟨⟨by decide +kernel, by decide +kernel⟩, List.mem_of_getElem? (i := 796) (by decide +kernel), List.mem_of_getElem? (i := 994) (by decide +kernel), List.mem_of_getElem? (i := 995) (by decide +kernel)⟩
theorem lw_p39 : lw_okq (⟨"MoodSextantModel", "dread", "(I)I"⟩, 24) := ⟨⟨by decide +kernel, by decide +kernel⟩, List.mem_of_getElem? (i := 796) (by decide +kernel), List.mem_of_getElem? (i := 1001) (by decide +kernel), List.mem_of_getElem? (i := 1002) (by decide +kernel)⟩
theorem lw_p40 : lw_okq (⟨"MoodSextantModel", "passes", "()I"⟩, 24) := ⟨⟨by decide +kernel, by decide +kernel⟩, List.mem_of_getElem? (i := 796) (by decide +kernel), List.mem_of_getElem? (i := 1021) (by decide +kernel), List.mem_of_getElem? (i := 1022) (by decide +kernel)⟩
theorem lw_p41 : lw_okq (⟨"MoodSextantModel", "allRum", "()I"⟩, 24) := ⟨⟨by decide +kernel, by decide +kernel⟩, List.mem_of_getElem? (i := 796) (by decide +kernel), List.mem_of_getElem? (i := 1028) (by decide +kernel), List.mem_of_getElem? (i := 1029) (by decide +kernel)⟩
theorem lw_p42 : lw_okq (⟨"MoodSextantModel", "sights", "(I)I"⟩, 24) := ⟨⟨by decide +kernel, by decide +kernel⟩, List.mem_of_getElem? (i := 796) (by decide +kernel), List.mem_of_getElem? (i := 1036) (by decide +kernel), List.mem_of_getElem? (i := 1037) (by decide +kernel)⟩
theorem lw_p43 : lw_okq (⟨"MoodSextantModel", "mates", "(I)I"⟩, 24) := ⟨⟨by decide +kernel, by decide +kernel⟩, List.mem_of_getElem? (i := 796) (by decide +kernel), List.mem_of_getElem? (i := 1040) (by decide +kernel), List.mem_of_getElem? (i := 1041) (by decide +kernel)⟩
theorem lw_p44 : lw_okq (⟨"MoodSextantModel", "differs", "(II)I"⟩, 24) := ⟨⟨by decide +kernel, by decide +kernel⟩, List.mem_of_getElem? (i := 796) (by decide +kernel), List.mem_of_getElem? (i := 1044) (by decide +kernel), List.mem_of_getElem? (i := 1045) (by decide +kernel)⟩
theorem lw_p45 : lw_okq (⟨"MoodSextantModel", "mess", "(I)I"⟩, 24) := ⟨⟨by decide +kernel, by decide +kernel⟩, List.mem_of_getElem? (i := 796) (by decide +kernel), List.mem_of_getElem? (i := 1048) (by decide +kernel), List.mem_of_getElem? (i := 1049) (by decide +kernel)⟩
theorem lw_p46 : lw_okq (⟨"MoodSextantModel", "fixed", "(I)F"⟩, 24) := ⟨⟨by decide +kernel, by decide +kernel⟩, List.mem_of_getElem? (i := 796) (by decide +kernel), List.mem_of_getElem? (i := 1073) (by decide +kernel), List.mem_of_getElem? (i := 1074) (by decide +kernel)⟩
theorem lw_p47 : lw_okq (⟨"MoodSextantModel", "value", "(I)F"⟩, 24) := ⟨⟨by decide +kernel, by decide +kernel⟩, List.mem_of_getElem? (i := 796) (by decide +kernel), List.mem_of_getElem? (i := 1077) (by decide +kernel), List.mem_of_getElem? (i := 1078) (by decide +kernel)⟩
def lw_privs_3 : List (MethodName × Nat) := [(⟨"MoodSextantModel", "stands", "(II)I"⟩, 24), (⟨"MoodSextantModel", "horizons", "(II)I"⟩, 24), (⟨"MoodSextantModel", "errs", "(I)I"⟩, 24), (⟨"MoodSextantModel", "takes", "(I)I"⟩, 24), (⟨"MoodSextantModel", "reads", "(I)F"⟩, 24), (⟨"MoodSextantModel", "angled", "(I)I"⟩, 24), (⟨"MoodSextantModel", "cheer", "(I)I"⟩, 24), (⟨"MoodSextantModel", "dread", "(I)I"⟩, 24), (⟨"MoodSextantModel", "passes", "()I"⟩, 24), (⟨"MoodSextantModel", "allRum", "()I"⟩, 24), (⟨"MoodSextantModel", "sights", "(I)I"⟩, 24), (⟨"MoodSextantModel", "mates", "(I)I"⟩, 24), (⟨"MoodSextantModel", "differs", "(II)I"⟩, 24), (⟨"MoodSextantModel", "mess", "(I)I"⟩, 24), (⟨"MoodSextantModel", "fixed", "(I)F"⟩, 24), (⟨"MoodSextantModel", "value", "(I)F"⟩, 24)]
theorem lw_r3 : ∀ q ∈ lw_privs_3, lw_okq q := List.forall_mem_cons.mpr ⟨lw_p32, List.forall_mem_cons.mpr ⟨lw_p33, List.forall_mem_cons.mpr ⟨lw_p34, List.forall_mem_cons.mpr ⟨lw_p35, List.forall_mem_cons.mpr ⟨lw_p36, List.forall_mem_cons.mpr ⟨lw_p37, List.forall_mem_cons.mpr ⟨lw_p38, List.forall_mem_cons.mpr ⟨lw_p39, List.forall_mem_cons.mpr ⟨lw_p40, List.forall_mem_cons.mpr ⟨lw_p41, List.forall_mem_cons.mpr ⟨lw_p42, List.forall_mem_cons.mpr ⟨lw_p43, List.forall_mem_cons.mpr ⟨lw_p44, List.forall_mem_cons.mpr ⟨lw_p45, List.forall_mem_cons.mpr ⟨lw_p46, List.forall_mem_cons.mpr ⟨lw_p47, fun _ h => absurd h List.not_mem_nil⟩⟩⟩⟩⟩⟩⟩⟩⟩⟩⟩⟩⟩⟩⟩⟩
theorem lw_p48 : lw_okq (⟨"MoodSextantModel", "writes", "(I)V"⟩, 24) := ⟨⟨by decide +kernel, by decide +kernel⟩, List.mem_of_getElem? (i := 796) (by decide +kernel), List.mem_of_getElem? (i := 1149) (by decide +kernel), List.mem_of_getElem? (i := 1150) (by decide +kernel)⟩
theorem lw_p49 : lw_okq (⟨"MoodSextantModel", "writesNumber", "(I)V"⟩, 24) := ⟨⟨by decide +kernel, by decide +kernel⟩, List.mem_of_getElem? (i := 796) (by decide +kernel), List.mem_of_getElem? (i := 1153) (by decide +kernel), List.mem_of_getElem? (i := 1154) (by decide +kernel)⟩
theorem lw_p50 : lw_okq (⟨"MoodSextantModel", "commands", "()I"⟩, 24) := ⟨⟨by decide +kernel, by decide +kernel⟩, List.mem_of_getElem? (i := 796) (by decide +kernel), List.mem_of_getElem? (i := 1174) (by decide +kernel), List.mem_of_getElem? (i := 1175) (by decide +kernel)⟩
theorem lw_p51 : lw_okq (⟨"MoodSextantModel", "command", "()V"⟩, 24) := ⟨⟨by decide +kernel, by decide +kernel⟩, List.mem_of_getElem? (i := 796) (by decide +kernel), List.mem_of_getElem? (i := 1178) (by decide +kernel), List.mem_of_getElem? (i := 1179) (by decide +kernel)⟩
theorem lw_p52 : lw_okq (⟨"MoodSextantModel", "word", "()I"⟩, 24) := ⟨⟨by decide +kernel, by decide +kernel⟩, List.mem_of_getElem? (i := 796) (by decide +kernel), List.mem_of_getElem? (i := 1182) (by decide +kernel), List.mem_of_getElem? (i := 1183) (by decide +kernel)⟩
theorem lw_p53 : lw_okq (⟨"MoodSextantModel", "sign", "()I"⟩, 24) := ⟨⟨by decide +kernel, by decide +kernel⟩, List.mem_of_getElem? (i := 796) (by decide +kernel), List.mem_of_getElem? (i := 1186) (by decide +kernel), List.mem_of_getElem? (i := 1187) (by decide +kernel)⟩
theorem lw_p54 : lw_okq (⟨"MoodSextantModel", "hexes", "()I"⟩, 24) := ⟨⟨by decide +kernel, by decide +kernel⟩, List.mem_of_getElem? (i := 796) (by decide +kernel), List.mem_of_getElem? (i := 1190) (by decide +kernel), List.mem_of_getElem? (i := 1191) (by decide +kernel)⟩
theorem lw_p55 : lw_okq (⟨"MoodSextantModel", "digit", "()I"⟩, 24) := ⟨⟨by decide +kernel, by decide +kernel⟩, List.mem_of_getElem? (i := 796) (by decide +kernel), List.mem_of_getElem? (i := 1194) (by decide +kernel), List.mem_of_getElem? (i := 1195) (by decide +kernel)⟩
theorem lw_p56 : lw_okq (⟨"MoodSextantModel", "mark", "(I)V"⟩, 24) := ⟨⟨by decide +kernel, by decide +kernel⟩, List.mem_of_getElem? (i := 796) (by decide +kernel), List.mem_of_getElem? (i := 1198) (by decide +kernel), List.mem_of_getElem? (i := 1199) (by decide +kernel)⟩
theorem lw_p57 : lw_okq (⟨"MoodSextantModel", "does", "(III)I"⟩, 24) := ⟨⟨by decide +kernel, by decide +kernel⟩, List.mem_of_getElem? (i := 796) (by decide +kernel), List.mem_of_getElem? (i := 1202) (by decide +kernel), List.mem_of_getElem? (i := 1203) (by decide +kernel)⟩
def lw_privs_4 : List (MethodName × Nat) := [(⟨"MoodSextantModel", "writes", "(I)V"⟩, 24), (⟨"MoodSextantModel", "writesNumber", "(I)V"⟩, 24), (⟨"MoodSextantModel", "commands", "()I"⟩, 24), (⟨"MoodSextantModel", "command", "()V"⟩, 24), (⟨"MoodSextantModel", "word", "()I"⟩, 24), (⟨"MoodSextantModel", "sign", "()I"⟩, 24), (⟨"MoodSextantModel", "hexes", "()I"⟩, 24), (⟨"MoodSextantModel", "digit", "()I"⟩, 24), (⟨"MoodSextantModel", "mark", "(I)V"⟩, 24), (⟨"MoodSextantModel", "does", "(III)I"⟩, 24)]
theorem lw_r4 : ∀ q ∈ lw_privs_4, lw_okq q := List.forall_mem_cons.mpr ⟨lw_p48, List.forall_mem_cons.mpr ⟨lw_p49, List.forall_mem_cons.mpr ⟨lw_p50, List.forall_mem_cons.mpr ⟨lw_p51, List.forall_mem_cons.mpr ⟨lw_p52, List.forall_mem_cons.mpr ⟨lw_p53, List.forall_mem_cons.mpr ⟨lw_p54, List.forall_mem_cons.mpr ⟨lw_p55, List.forall_mem_cons.mpr ⟨lw_p56, List.forall_mem_cons.mpr ⟨lw_p57, fun _ h => absurd h List.not_mem_nil⟩⟩⟩⟩⟩⟩⟩⟩⟩⟩
def lw_privs : List (MethodName × Nat) := lw_privs_1 ++ (lw_privs_2 ++ (lw_privs_3 ++ (lw_privs_4)))
def lw_tbl : List Cond := k2_sels lw_privs ++ tables_1
theorem lw_privs_ok : ∀ q ∈ lw_privs, lw_okq q := by
  show ∀ q ∈ lw_privs_1 ++ (lw_privs_2 ++ (lw_privs_3 ++ (lw_privs_4))), lw_okq q
  exact List.forall_mem_append.mpr ⟨lw_r1, List.forall_mem_append.mpr ⟨lw_r2, List.forall_mem_append.mpr ⟨lw_r3, lw_r4⟩⟩⟩
/-- the streams that the claim lets the run draw from -/
abbrev lw_cs : List Choice := [Jvm.Choice.named "NaN.bits", Jvm.Choice.named "NaN.copy"]
theorem lw_bits : nanBits ∈ lw_cs := by first | decide | exact List.mem_cons_self | simp [lw_cs, nanBits]
-- ===== end of PART A; then your names; then what follows =====
def RX0 : String := "MoodSextant$1"
def TX0 : u_T := fun k => match k with
  | _ => ("", "", "", false)
def tyX0 : Nat → FieldType := fun k => match k with
  | _ => .int
abbrev wsX00 : List Cond := u_ws RX0 TX0 0
theorem nmX0 : ∀ a, a < 0 → ∀ b, b < 0 → a ≠ b → (TX0 a).2.1 ≠ (TX0 b).2.1 := by decide +kernel
theorem tyX0_ok : ∀ k, k < 0 → parseFieldDescriptor (TX0 k).2.2.1 = some (tyX0 k) := by decide +kernel
def RX1 : String := "MoodSextant$Form"
def TX1 : u_T := fun k => match k with
  | _ => ("", "", "", false)
def tyX1 : Nat → FieldType := fun k => match k with
  | _ => .int
abbrev wsX10 : List Cond := u_ws RX1 TX1 0
theorem nmX1 : ∀ a, a < 0 → ∀ b, b < 0 → a ≠ b → (TX1 a).2.1 ≠ (TX1 b).2.1 := by decide +kernel
theorem tyX1_ok : ∀ k, k < 0 → parseFieldDescriptor (TX1 k).2.2.1 = some (tyX1 k) := by decide +kernel
def RX2 : String := "MoodSextant$History"
def TX2 : u_T := fun k => match k with
  | 0 => ("MoodSextant$History", "ships", "[LMoodSextant$Ship;", true)
  | 1 => ("MoodSextant$History", "next", "I", false)
  | _ => ("MoodSextant$History", "kept", "I", false)
def tyX2 : Nat → FieldType := fun k => match k with
  | 0 => .array (.object "MoodSextant$Ship")
  | 1 => .int
  | _ => .int
abbrev wsX20 : List Cond := u_ws RX2 TX2 3
theorem nmX2 : ∀ a, a < 3 → ∀ b, b < 3 → a ≠ b → (TX2 a).2.1 ≠ (TX2 b).2.1 := by decide +kernel
theorem tyX2_ok : ∀ k, k < 3 → parseFieldDescriptor (TX2 k).2.2.1 = some (tyX2 k) := by decide +kernel
abbrev cX2_init : ByteArray := prog_4_method_1_code
def yX2_init : MethodName := ⟨RX2, "<init>", "()V"⟩
abbrev cX2_remember : ByteArray := prog_4_method_2_code
def yX2_remember : MethodName := ⟨RX2, "remember", "(LMoodSextant$Ship;)V"⟩
abbrev cX2_takeBack : ByteArray := prog_4_method_3_code
def yX2_takeBack : MethodName := ⟨RX2, "takeBack", "(LMoodSextant$Ship;)Z"⟩
abbrev cX2_forget : ByteArray := prog_4_method_4_code
def yX2_forget : MethodName := ⟨RX2, "forget", "()V"⟩
def RX3 : String := "MoodSextant$Line"
def TX3 : u_T := fun k => match k with
  | 0 => ("MoodSextant$Line", "signs", "[C", true)
  | _ => ("MoodSextant$Line", "length", "I", false)
def tyX3 : Nat → FieldType := fun k => match k with
  | 0 => .array .char
  | _ => .int
abbrev wsX30 : List Cond := u_ws RX3 TX3 2
theorem nmX3 : ∀ a, a < 2 → ∀ b, b < 2 → a ≠ b → (TX3 a).2.1 ≠ (TX3 b).2.1 := by decide +kernel
theorem tyX3_ok : ∀ k, k < 2 → parseFieldDescriptor (TX3 k).2.2.1 = some (tyX3 k) := by decide +kernel
abbrev cX3_init : ByteArray := prog_5_method_1_code
def yX3_init : MethodName := ⟨RX3, "<init>", "()V"⟩
abbrev cX3_clear : ByteArray := prog_5_method_2_code
def yX3_clear : MethodName := ⟨RX3, "clear", "()V"⟩
abbrev cX3_put : ByteArray := prog_5_method_3_code
def yX3_put : MethodName := ⟨RX3, "put", "(C)V"⟩
abbrev cX3_putMood : ByteArray := prog_5_method_4_code
def yX3_putMood : MethodName := ⟨RX3, "putMood", "(I)V"⟩
abbrev cX3_putNumber : ByteArray := prog_5_method_5_code
def yX3_putNumber : MethodName := ⟨RX3, "putNumber", "(I)V"⟩
def RX4 : String := "MoodSextant$Reasons"
def TX4 : u_T := fun k => match k with
  | 0 => ("MoodSextant$Reasons", "numbers", "[I", true)
  | 1 => ("MoodSextant$Reasons", "details", "[I", true)
  | _ => ("MoodSextant$Reasons", "depth", "I", false)
def tyX4 : Nat → FieldType := fun k => match k with
  | 0 => .array .int
  | 1 => .array .int
  | _ => .int
abbrev wsX40 : List Cond := u_ws RX4 TX4 3
theorem nmX4 : ∀ a, a < 3 → ∀ b, b < 3 → a ≠ b → (TX4 a).2.1 ≠ (TX4 b).2.1 := by decide +kernel
theorem tyX4_ok : ∀ k, k < 3 → parseFieldDescriptor (TX4 k).2.2.1 = some (tyX4 k) := by decide +kernel
abbrev cX4_init : ByteArray := prog_6_method_1_code
def yX4_init : MethodName := ⟨RX4, "<init>", "()V"⟩
abbrev cX4_keep : ByteArray := prog_6_method_2_code
def yX4_keep : MethodName := ⟨RX4, "keep", "(II)V"⟩
abbrev cX4_keepBehind : ByteArray := prog_6_method_3_code
def yX4_keepBehind : MethodName := ⟨RX4, "keepBehind", "(II)V"⟩
def RX5 : String := "MoodSextant$Ship"
def TX5 : u_T := fun k => match k with
  | 0 => ("MoodSextant$Ship", "sailors", "I", false)
  | 1 => ("MoodSextant$Ship", "moods", "[I", true)
  | 2 => ("MoodSextant$Ship", "cups", "[I", true)
  | 3 => ("MoodSextant$Ship", "watches", "[I", true)
  | 4 => ("MoodSextant$Ship", "horizons", "[I", true)
  | 5 => ("MoodSextant$Ship", "wrongBy", "I", false)
  | 6 => ("MoodSextant$Ship", "hoursGone", "I", false)
  | 7 => ("MoodSextant$Ship", "sights", "I", false)
  | 8 => ("MoodSextant$Ship", "sighted", "[I", true)
  | 9 => ("MoodSextant$Ship", "sightHours", "[I", true)
  | 10 => ("MoodSextant$Ship", "readings", "[F", true)
  | 11 => ("MoodSextant$Ship", "taken", "I", false)
  | 12 => ("MoodSextant$Ship", "given", "I", false)
  | 13 => ("MoodSextant$Ship", "drunk", "I", false)
  | _ => ("MoodSextant$Ship", "ashore", "I", false)
def tyX5 : Nat → FieldType := fun k => match k with
  | 0 => .int
  | 1 => .array .int
  | 2 => .array .int
  | 3 => .array .int
  | 4 => .array .int
  | 5 => .int
  | 6 => .int
  | 7 => .int
  | 8 => .array .int
  | 9 => .array .int
  | 10 => .array .float
  | 11 => .int
  | 12 => .int
  | 13 => .int
  | _ => .int
abbrev wsX50 : List Cond := u_ws RX5 TX5 15
theorem nmX5 : ∀ a, a < 15 → ∀ b, b < 15 → a ≠ b → (TX5 a).2.1 ≠ (TX5 b).2.1 := by decide +kernel
theorem tyX5_ok : ∀ k, k < 15 → parseFieldDescriptor (TX5 k).2.2.1 = some (tyX5 k) := by decide +kernel
abbrev cX5_init : ByteArray := prog_7_method_1_code
def yX5_init : MethodName := ⟨RX5, "<init>", "()V"⟩
abbrev cX5_copyFrom : ByteArray := prog_7_method_2_code
def yX5_copyFrom : MethodName := ⟨RX5, "copyFrom", "(LMoodSextant$Ship;)V"⟩
abbrev cX5_isMood : ByteArray := prog_7_method_3_code
def yX5_isMood : MethodName := ⟨RX5, "isMood", "(I)Z"⟩
abbrev cX5_isGift : ByteArray := prog_7_method_4_code
def yX5_isGift : MethodName := ⟨RX5, "isGift", "(I)Z"⟩
abbrev cX5_isWatch : ByteArray := prog_7_method_5_code
def yX5_isWatch : MethodName := ⟨RX5, "isWatch", "(I)Z"⟩
abbrev cX5_isHorizon : ByteArray := prog_7_method_6_code
def yX5_isHorizon : MethodName := ⟨RX5, "isHorizon", "(I)Z"⟩
abbrev cX5_isError : ByteArray := prog_7_method_7_code
def yX5_isError : MethodName := ⟨RX5, "isError", "(I)Z"⟩
abbrev cX5_hasSailor : ByteArray := prog_7_method_8_code
def yX5_hasSailor : MethodName := ⟨RX5, "hasSailor", "(I)Z"⟩
abbrev cX5_hasBoth : ByteArray := prog_7_method_9_code
def yX5_hasBoth : MethodName := ⟨RX5, "hasBoth", "(II)Z"⟩
abbrev cX5_hasSight : ByteArray := prog_7_method_10_code
def yX5_hasSight : MethodName := ⟨RX5, "hasSight", "(I)Z"⟩
abbrev cX5_isInRange : ByteArray := prog_7_method_11_code
def yX5_isInRange : MethodName := ⟨RX5, "isInRange", "(LMoodSextant$Form;II)Z"⟩
abbrev cX5_reasonAgainst : ByteArray := prog_7_method_12_code
def yX5_reasonAgainst : MethodName := ⟨RX5, "reasonAgainst", "(LMoodSextant$Form;II)I"⟩
abbrev cX5_detailOf : ByteArray := prog_7_method_13_code
def yX5_detailOf : MethodName := ⟨RX5, "detailOf", "(III)I"⟩
abbrev cX5_carryOut : ByteArray := prog_7_method_14_code
def yX5_carryOut : MethodName := ⟨RX5, "carryOut", "(LMoodSextant$Form;II)V"⟩
abbrev cX5_addSailor : ByteArray := prog_7_method_15_code
def yX5_addSailor : MethodName := ⟨RX5, "addSailor", "(I)V"⟩
abbrev cX5_removeSailor : ByteArray := prog_7_method_16_code
def yX5_removeSailor : MethodName := ⟨RX5, "removeSailor", "(I)V"⟩
abbrev cX5_forgetSightsOf : ByteArray := prog_7_method_17_code
def yX5_forgetSightsOf : MethodName := ⟨RX5, "forgetSightsOf", "(I)V"⟩
abbrev cX5_give : ByteArray := prog_7_method_18_code
def yX5_give : MethodName := ⟨RX5, "give", "(II)V"⟩
abbrev cX5_addSight : ByteArray := prog_7_method_19_code
def yX5_addSight : MethodName := ⟨RX5, "addSight", "(I)V"⟩
abbrev cX5_passHour : ByteArray := prog_7_method_20_code
def yX5_passHour : MethodName := ⟨RX5, "passHour", "()V"⟩
abbrev cX5_isSightedNow : ByteArray := prog_7_method_21_code
def yX5_isSightedNow : MethodName := ⟨RX5, "isSightedNow", "(I)Z"⟩
abbrev cX5_turned : ByteArray := prog_7_method_22_code
def yX5_turned : MethodName := ⟨RX5, "turned", "(II)I"⟩
abbrev cX5_cheerIn : ByteArray := prog_7_method_23_code
def yX5_cheerIn : MethodName := ⟨RX5, "cheerIn", "(I)I"⟩
abbrev cX5_dreadIn : ByteArray := prog_7_method_24_code
def yX5_dreadIn : MethodName := ⟨RX5, "dreadIn", "(I)I"⟩
abbrev cX5_angleAfter : ByteArray := prog_7_method_25_code
def yX5_angleAfter : MethodName := ⟨RX5, "angleAfter", "(II)I"⟩
abbrev cX5_readingOf : ByteArray := prog_7_method_26_code
def yX5_readingOf : MethodName := ⟨RX5, "readingOf", "(I)F"⟩
abbrev cX5_sightFrom : ByteArray := prog_7_method_27_code
def yX5_sightFrom : MethodName := ⟨RX5, "sightFrom", "(II)I"⟩
abbrev cX5_sightsOf : ByteArray := prog_7_method_28_code
def yX5_sightsOf : MethodName := ⟨RX5, "sightsOf", "(I)I"⟩
abbrev cX5_hasFix : ByteArray := prog_7_method_29_code
def yX5_hasFix : MethodName := ⟨RX5, "hasFix", "(I)Z"⟩
abbrev cX5_latestReading : ByteArray := prog_7_method_30_code
def yX5_latestReading : MethodName := ⟨RX5, "latestReading", "(I)F"⟩
abbrev cX5_secondReading : ByteArray := prog_7_method_31_code
def yX5_secondReading : MethodName := ⟨RX5, "secondReading", "(I)F"⟩
abbrev cX5_fixOf : ByteArray := prog_7_method_32_code
def yX5_fixOf : MethodName := ⟨RX5, "fixOf", "(I)F"⟩
abbrev cX5_fixFromLatest : ByteArray := prog_7_method_33_code
def yX5_fixFromLatest : MethodName := ⟨RX5, "fixFromLatest", "(I)F"⟩
abbrev cX5_unlikeBits : ByteArray := prog_7_method_34_code
def yX5_unlikeBits : MethodName := ⟨RX5, "unlikeBits", "(II)I"⟩
abbrev cX5_unlikeByCounts : ByteArray := prog_7_method_35_code
def yX5_unlikeByCounts : MethodName := ⟨RX5, "unlikeByCounts", "(II)I"⟩
abbrev cX5_closestTurn : ByteArray := prog_7_method_36_code
def yX5_closestTurn : MethodName := ⟨RX5, "closestTurn", "(II)I"⟩
abbrev cX5_areMates : ByteArray := prog_7_method_37_code
def yX5_areMates : MethodName := ⟨RX5, "areMates", "(II)Z"⟩
abbrev cX5_mateSet : ByteArray := prog_7_method_38_code
def yX5_mateSet : MethodName := ⟨RX5, "mateSet", "(I)I"⟩
abbrev cX5_matesOf : ByteArray := prog_7_method_39_code
def yX5_matesOf : MethodName := ⟨RX5, "matesOf", "(I)I"⟩
abbrev cX5_messOf : ByteArray := prog_7_method_40_code
def yX5_messOf : MethodName := ⟨RX5, "messOf", "(I)I"⟩
abbrev cX5_allMesses : ByteArray := prog_7_method_41_code
def yX5_allMesses : MethodName := ⟨RX5, "allMesses", "()I"⟩
abbrev cX5_sailorsIn : ByteArray := prog_7_method_42_code
def yX5_sailorsIn : MethodName := ⟨RX5, "sailorsIn", "(I)I"⟩
abbrev cX5_watchCheer : ByteArray := prog_7_method_43_code
def yX5_watchCheer : MethodName := ⟨RX5, "watchCheer", "(I)I"⟩
abbrev cX5_watchDread : ByteArray := prog_7_method_44_code
def yX5_watchDread : MethodName := ⟨RX5, "watchDread", "(I)I"⟩
abbrev cX5_allCups : ByteArray := prog_7_method_45_code
def yX5_allCups : MethodName := ⟨RX5, "allCups", "()I"⟩
abbrev cX5_allAngles : ByteArray := prog_7_method_46_code
def yX5_allAngles : MethodName := ⟨RX5, "allAngles", "()I"⟩
abbrev cX5_isHigher : ByteArray := prog_7_method_47_code
def yX5_isHigher : MethodName := ⟨RX5, "isHigher", "(II)Z"⟩
abbrev cX5_placeOfSailor : ByteArray := prog_7_method_48_code
def yX5_placeOfSailor : MethodName := ⟨RX5, "placeOfSailor", "(I)I"⟩
abbrev cX5_isSightHigher : ByteArray := prog_7_method_49_code
def yX5_isSightHigher : MethodName := ⟨RX5, "isSightHigher", "(II)Z"⟩
abbrev cX5_placeOfSight : ByteArray := prog_7_method_50_code
def yX5_placeOfSight : MethodName := ⟨RX5, "placeOfSight", "(I)I"⟩
abbrev cX5_isUnlikeAlike : ByteArray := prog_7_method_51_code
def yX5_isUnlikeAlike : MethodName := ⟨RX5, "isUnlikeAlike", "()Z"⟩
abbrev cX5_isFixAlike : ByteArray := prog_7_method_52_code
def yX5_isFixAlike : MethodName := ⟨RX5, "isFixAlike", "()Z"⟩
abbrev cX5_isLogOfCrew : ByteArray := prog_7_method_53_code
def yX5_isLogOfCrew : MethodName := ⟨RX5, "isLogOfCrew", "()Z"⟩
abbrev cX5_isRumCounted : ByteArray := prog_7_method_54_code
def yX5_isRumCounted : MethodName := ⟨RX5, "isRumCounted", "()Z"⟩
def RX6 : String := "MoodSextant$Text"
def TX6 : u_T := fun k => match k with
  | 0 => ("MoodSextant$Text", "signs", "[C", true)
  | 1 => ("MoodSextant$Text", "length", "I", false)
  | 2 => ("MoodSextant$Text", "forms", "[LMoodSextant$Form;", true)
  | 3 => ("MoodSextant$Text", "whos", "[I", true)
  | 4 => ("MoodSextant$Text", "values", "[I", true)
  | _ => ("MoodSextant$Text", "commands", "I", false)
def tyX6 : Nat → FieldType := fun k => match k with
  | 0 => .array .char
  | 1 => .int
  | 2 => .array (.object "MoodSextant$Form")
  | 3 => .array .int
  | 4 => .array .int
  | _ => .int
abbrev wsX60 : List Cond := u_ws RX6 TX6 6
theorem nmX6 : ∀ a, a < 6 → ∀ b, b < 6 → a ≠ b → (TX6 a).2.1 ≠ (TX6 b).2.1 := by decide +kernel
theorem tyX6_ok : ∀ k, k < 6 → parseFieldDescriptor (TX6 k).2.2.1 = some (tyX6 k) := by decide +kernel
abbrev cX6_init : ByteArray := prog_8_method_1_code
def yX6_init : MethodName := ⟨RX6, "<init>", "()V"⟩
abbrev cX6_add : ByteArray := prog_8_method_2_code
def yX6_add : MethodName := ⟨RX6, "add", "(C)Z"⟩
abbrev cX6_clear : ByteArray := prog_8_method_3_code
def yX6_clear : MethodName := ⟨RX6, "clear", "()V"⟩
abbrev cX6_parse : ByteArray := prog_8_method_4_code
def yX6_parse : MethodName := ⟨RX6, "parse", "()I"⟩
abbrev cX6_formAt : ByteArray := prog_8_method_5_code
def yX6_formAt : MethodName := ⟨RX6, "formAt", "(I)LMoodSextant$Form;"⟩
abbrev cX6_farthestAt : ByteArray := prog_8_method_6_code
def yX6_farthestAt : MethodName := ⟨RX6, "farthestAt", "(I)I"⟩
abbrev cX6_matchedAt : ByteArray := prog_8_method_7_code
def yX6_matchedAt : MethodName := ⟨RX6, "matchedAt", "(Ljava/lang/String;I)I"⟩
abbrev cX6_isFit : ByteArray := prog_8_method_8_code
def yX6_isFit : MethodName := ⟨RX6, "isFit", "(CC)Z"⟩
abbrev cX6_isDigit : ByteArray := prog_8_method_9_code
def yX6_isDigit : MethodName := ⟨RX6, "isDigit", "(C)Z"⟩
abbrev cX6_hexOf : ByteArray := prog_8_method_10_code
def yX6_hexOf : MethodName := ⟨RX6, "hexOf", "(C)I"⟩
abbrev cX6_keep : ByteArray := prog_8_method_11_code
def yX6_keep : MethodName := ⟨RX6, "keep", "(LMoodSextant$Form;I)V"⟩
def RX7 : String := "MoodSextant"
def TX7 : u_T := fun k => match k with
  | 0 => ("MoodSextant", "ship", "LMoodSextant$Ship;", true)
  | 1 => ("MoodSextant", "trial", "LMoodSextant$Ship;", true)
  | 2 => ("MoodSextant", "saved", "LMoodSextant$Ship;", true)
  | 3 => ("MoodSextant", "history", "LMoodSextant$History;", true)
  | 4 => ("MoodSextant", "reasons", "LMoodSextant$Reasons;", true)
  | 5 => ("MoodSextant", "text", "LMoodSextant$Text;", true)
  | 6 => ("MoodSextant", "line", "LMoodSextant$Line;", true)
  | 7 => ("MoodSextant", "isSaved", "Z", false)
  | 8 => ("MoodSextant", "isFaultKept", "Z", false)
  | _ => ("MoodSextant", "faultPosition", "I", false)
def tyX7 : Nat → FieldType := fun k => match k with
  | 0 => .object "MoodSextant$Ship"
  | 1 => .object "MoodSextant$Ship"
  | 2 => .object "MoodSextant$Ship"
  | 3 => .object "MoodSextant$History"
  | 4 => .object "MoodSextant$Reasons"
  | 5 => .object "MoodSextant$Text"
  | 6 => .object "MoodSextant$Line"
  | 7 => .boolean
  | 8 => .boolean
  | _ => .int
abbrev wsX70 : List Cond := u_ws RX7 TX7 10
theorem nmX7 : ∀ a, a < 10 → ∀ b, b < 10 → a ≠ b → (TX7 a).2.1 ≠ (TX7 b).2.1 := by decide +kernel
theorem tyX7_ok : ∀ k, k < 10 → parseFieldDescriptor (TX7 k).2.2.1 = some (tyX7 k) := by decide +kernel
abbrev cX7_init : ByteArray := prog_1_method_1_code
def yX7_init : MethodName := ⟨RX7, "<init>", "()V"⟩
abbrev cX7_sail : ByteArray := prog_1_method_2_code
def yX7_sail : MethodName := ⟨RX7, "sail", "(I)I"⟩
abbrev cX7_shore : ByteArray := prog_1_method_3_code
def yX7_shore : MethodName := ⟨RX7, "shore", "(I)I"⟩
abbrev cX7_mood : ByteArray := prog_1_method_4_code
def yX7_mood : MethodName := ⟨RX7, "mood", "(II)I"⟩
abbrev cX7_rum : ByteArray := prog_1_method_5_code
def yX7_rum : MethodName := ⟨RX7, "rum", "(II)I"⟩
abbrev cX7_watch : ByteArray := prog_1_method_6_code
def yX7_watch : MethodName := ⟨RX7, "watch", "(II)I"⟩
abbrev cX7_horizon : ByteArray := prog_1_method_7_code
def yX7_horizon : MethodName := ⟨RX7, "horizon", "(II)I"⟩
abbrev cX7_error : ByteArray := prog_1_method_8_code
def yX7_error : MethodName := ⟨RX7, "error", "(I)I"⟩
abbrev cX7_sight : ByteArray := prog_1_method_9_code
def yX7_sight : MethodName := ⟨RX7, "sight", "(I)I"⟩
abbrev cX7_hour : ByteArray := prog_1_method_10_code
def yX7_hour : MethodName := ⟨RX7, "hour", "()I"⟩
abbrev cX7_sailorOf : ByteArray := prog_1_method_11_code
def yX7_sailorOf : MethodName := ⟨RX7, "sailorOf", "(II)I"⟩
abbrev cX7_watchOf : ByteArray := prog_1_method_12_code
def yX7_watchOf : MethodName := ⟨RX7, "watchOf", "(II)I"⟩
abbrev cX7_sightOf : ByteArray := prog_1_method_13_code
def yX7_sightOf : MethodName := ⟨RX7, "sightOf", "(II)I"⟩
abbrev cX7_angle : ByteArray := prog_1_method_14_code
def yX7_angle : MethodName := ⟨RX7, "angle", "(I)F"⟩
abbrev cX7_readBits : ByteArray := prog_1_method_15_code
def yX7_readBits : MethodName := ⟨RX7, "readBits", "(I)I"⟩
abbrev cX7_fixBits : ByteArray := prog_1_method_16_code
def yX7_fixBits : MethodName := ⟨RX7, "fixBits", "(I)I"⟩
abbrev cX7_fixAgain : ByteArray := prog_1_method_17_code
def yX7_fixAgain : MethodName := ⟨RX7, "fixAgain", "(I)I"⟩
abbrev cX7_meet : ByteArray := prog_1_method_18_code
def yX7_meet : MethodName := ⟨RX7, "meet", "(II)I"⟩
abbrev cX7_unlike : ByteArray := prog_1_method_19_code
def yX7_unlike : MethodName := ⟨RX7, "unlike", "(II)I"⟩
abbrev cX7_unlikeAgain : ByteArray := prog_1_method_20_code
def yX7_unlikeAgain : MethodName := ⟨RX7, "unlikeAgain", "(II)I"⟩
abbrev cX7_closest : ByteArray := prog_1_method_21_code
def yX7_closest : MethodName := ⟨RX7, "closest", "(II)I"⟩
abbrev cX7_would : ByteArray := prog_1_method_22_code
def yX7_would : MethodName := ⟨RX7, "would", "(II)I"⟩
abbrev cX7_sinks : ByteArray := prog_1_method_23_code
def yX7_sinks : MethodName := ⟨RX7, "sinks", "(I)I"⟩
abbrev cX7_messes : ByteArray := prog_1_method_24_code
def yX7_messes : MethodName := ⟨RX7, "messes", "()I"⟩
abbrev cX7_highest : ByteArray := prog_1_method_25_code
def yX7_highest : MethodName := ⟨RX7, "highest", "(I)I"⟩
abbrev cX7_ranked : ByteArray := prog_1_method_26_code
def yX7_ranked : MethodName := ⟨RX7, "ranked", "(I)I"⟩
abbrev cX7_packed : ByteArray := prog_1_method_27_code
def yX7_packed : MethodName := ⟨RX7, "packed", "()J"⟩
abbrev cX7_isCounted : ByteArray := prog_1_method_28_code
def yX7_isCounted : MethodName := ⟨RX7, "isCounted", "()Z"⟩
abbrev cX7_meanAngle : ByteArray := prog_1_method_29_code
def yX7_meanAngle : MethodName := ⟨RX7, "meanAngle", "()D"⟩
abbrev cX7_account : ByteArray := prog_1_method_30_code
def yX7_account : MethodName := ⟨RX7, "account", "(I)I"⟩
abbrev cX7_write : ByteArray := prog_1_method_31_code
def yX7_write : MethodName := ⟨RX7, "write", "(I)I"⟩
abbrev cX7_writeLog : ByteArray := prog_1_method_32_code
def yX7_writeLog : MethodName := ⟨RX7, "writeLog", "()I"⟩
abbrev cX7_written : ByteArray := prog_1_method_33_code
def yX7_written : MethodName := ⟨RX7, "written", "(I)I"⟩
abbrev cX7_append : ByteArray := prog_1_method_34_code
def yX7_append : MethodName := ⟨RX7, "append", "(C)I"⟩
abbrev cX7_read : ByteArray := prog_1_method_35_code
def yX7_read : MethodName := ⟨RX7, "read", "()I"⟩
abbrev cX7_fault : ByteArray := prog_1_method_36_code
def yX7_fault : MethodName := ⟨RX7, "fault", "()I"⟩
abbrev cX7_reason : ByteArray := prog_1_method_37_code
def yX7_reason : MethodName := ⟨RX7, "reason", "(IZ)I"⟩
abbrev cX7_undo : ByteArray := prog_1_method_38_code
def yX7_undo : MethodName := ⟨RX7, "undo", "()I"⟩
abbrev cX7_save : ByteArray := prog_1_method_39_code
def yX7_save : MethodName := ⟨RX7, "save", "()I"⟩
abbrev cX7_restore : ByteArray := prog_1_method_40_code
def yX7_restore : MethodName := ⟨RX7, "restore", "()I"⟩
abbrev cX7_isRefused : ByteArray := prog_1_method_41_code
def yX7_isRefused : MethodName := ⟨RX7, "isRefused", "(LMoodSextant$Form;II)Z"⟩
abbrev cX7_change : ByteArray := prog_1_method_42_code
def yX7_change : MethodName := ⟨RX7, "change", "(LMoodSextant$Form;II)V"⟩
abbrev cX7_isTextDone : ByteArray := prog_1_method_43_code
def yX7_isTextDone : MethodName := ⟨RX7, "isTextDone", "()Z"⟩
abbrev cX7_bitsOf : ByteArray := prog_1_method_44_code
def yX7_bitsOf : MethodName := ⟨RX7, "bitsOf", "(F)I"⟩
def RX8 : String := "MoodSextantModel"
def TX8 : u_T := fun k => match k with
  | 0 => ("MoodSextantModel", "fails", "I", false)
  | 1 => ("MoodSextantModel", "changes", "I", false)
  | 2 => ("MoodSextantModel", "why", "I", false)
  | 3 => ("MoodSextantModel", "detail", "I", false)
  | 4 => ("MoodSextantModel", "behindWhy", "I", false)
  | 5 => ("MoodSextantModel", "behindDetail", "I", false)
  | 6 => ("MoodSextantModel", "faultAt", "I", false)
  | 7 => ("MoodSextantModel", "isSaved", "Z", false)
  | 8 => ("MoodSextantModel", "v", "[I", true)
  | 9 => ("MoodSextantModel", "before", "[I", true)
  | 10 => ("MoodSextantModel", "saved", "[I", true)
  | 11 => ("MoodSextantModel", "kept", "[I", true)
  | 12 => ("MoodSextantModel", "past", "[I", true)
  | 13 => ("MoodSextantModel", "text", "[I", true)
  | 14 => ("MoodSextantModel", "line", "[I", true)
  | 15 => ("MoodSextantModel", "isLeft", "[I", true)
  | 16 => ("MoodSextantModel", "words", "[I", true)
  | 17 => ("MoodSextantModel", "wordAt", "[I", true)
  | 18 => ("MoodSextantModel", "textN", "I", false)
  | 19 => ("MoodSextantModel", "here", "I", false)
  | 20 => ("MoodSextantModel", "end", "I", false)
  | 21 => ("MoodSextantModel", "lineN", "I", false)
  | 22 => ("MoodSextantModel", "isWrong", "Z", false)
  | _ => ("MoodSextantModel", "isDoing", "Z", false)
def tyX8 : Nat → FieldType := fun k => match k with
  | 0 => .int
  | 1 => .int
  | 2 => .int
  | 3 => .int
  | 4 => .int
  | 5 => .int
  | 6 => .int
  | 7 => .boolean
  | 8 => .array .int
  | 9 => .array .int
  | 10 => .array .int
  | 11 => .array .int
  | 12 => .array .int
  | 13 => .array .int
  | 14 => .array .int
  | 15 => .array .int
  | 16 => .array .int
  | 17 => .array .int
  | 18 => .int
  | 19 => .int
  | 20 => .int
  | 21 => .int
  | 22 => .boolean
  | _ => .boolean
abbrev wsX80 : List Cond := u_ws RX8 TX8 24
theorem nmX8 : ∀ a, a < 24 → ∀ b, b < 24 → a ≠ b → (TX8 a).2.1 ≠ (TX8 b).2.1 := by decide +kernel
theorem tyX8_ok : ∀ k, k < 24 → parseFieldDescriptor (TX8 k).2.2.1 = some (tyX8 k) := by decide +kernel
abbrev cX8_init : ByteArray := prog_10_method_1_code
def yX8_init : MethodName := ⟨RX8, "<init>", "()V"⟩
abbrev cX8_fail : ByteArray := prog_10_method_2_code
def yX8_fail : MethodName := ⟨RX8, "fail", "(I)I"⟩
abbrev cX8_refuses : ByteArray := prog_10_method_3_code
def yX8_refuses : MethodName := ⟨RX8, "refuses", "(II)I"⟩
abbrev cX8_isIn : ByteArray := prog_10_method_4_code
def yX8_isIn : MethodName := ⟨RX8, "isIn", "(III)Z"⟩
abbrev cX8_lays : ByteArray := prog_10_method_5_code
def yX8_lays : MethodName := ⟨RX8, "lays", "([I[I)V"⟩
abbrev cX8_begins : ByteArray := prog_10_method_6_code
def yX8_begins : MethodName := ⟨RX8, "begins", "()V"⟩
abbrev cX8_ends : ByteArray := prog_10_method_7_code
def yX8_ends : MethodName := ⟨RX8, "ends", "(I)I"⟩
abbrev cX8_at : ByteArray := prog_10_method_8_code
def yX8_at : MethodName := ⟨RX8, "at", "(II)I"⟩
abbrev cX8_isSailor : ByteArray := prog_10_method_9_code
def yX8_isSailor : MethodName := ⟨RX8, "isSailor", "(I)Z"⟩
abbrev cX8_isWatch : ByteArray := prog_10_method_10_code
def yX8_isWatch : MethodName := ⟨RX8, "isWatch", "(I)Z"⟩
abbrev cX8_isMood : ByteArray := prog_10_method_11_code
def yX8_isMood : MethodName := ⟨RX8, "isMood", "(I)Z"⟩
abbrev cX8_bits : ByteArray := prog_10_method_12_code
def yX8_bits : MethodName := ⟨RX8, "bits", "(I)I"⟩
abbrev cX8_cheer : ByteArray := prog_10_method_13_code
def yX8_cheer : MethodName := ⟨RX8, "cheer", "(I)I"⟩
abbrev cX8_dread : ByteArray := prog_10_method_14_code
def yX8_dread : MethodName := ⟨RX8, "dread", "(I)I"⟩
abbrev cX8_angled : ByteArray := prog_10_method_15_code
def yX8_angled : MethodName := ⟨RX8, "angled", "(I)I"⟩
abbrev cX8_reads : ByteArray := prog_10_method_16_code
def yX8_reads : MethodName := ⟨RX8, "reads", "(I)F"⟩
abbrev cX8_comes : ByteArray := prog_10_method_17_code
def yX8_comes : MethodName := ⟨RX8, "comes", "(I)I"⟩
abbrev cX8_sail : ByteArray := prog_10_method_18_code
def yX8_sail : MethodName := ⟨RX8, "sail", "(I)I"⟩
abbrev cX8_forgets : ByteArray := prog_10_method_19_code
def yX8_forgets : MethodName := ⟨RX8, "forgets", "(I)V"⟩
abbrev cX8_goes : ByteArray := prog_10_method_20_code
def yX8_goes : MethodName := ⟨RX8, "goes", "(I)I"⟩
abbrev cX8_shore : ByteArray := prog_10_method_21_code
def yX8_shore : MethodName := ⟨RX8, "shore", "(I)I"⟩
abbrev cX8_sets : ByteArray := prog_10_method_22_code
def yX8_sets : MethodName := ⟨RX8, "sets", "(II)I"⟩
abbrev cX8_moods : ByteArray := prog_10_method_23_code
def yX8_moods : MethodName := ⟨RX8, "moods", "(II)I"⟩
abbrev cX8_mood : ByteArray := prog_10_method_24_code
def yX8_mood : MethodName := ⟨RX8, "mood", "(II)I"⟩
abbrev cX8_drinks : ByteArray := prog_10_method_25_code
def yX8_drinks : MethodName := ⟨RX8, "drinks", "(II)I"⟩
abbrev cX8_rum : ByteArray := prog_10_method_26_code
def yX8_rum : MethodName := ⟨RX8, "rum", "(II)I"⟩
abbrev cX8_stands : ByteArray := prog_10_method_27_code
def yX8_stands : MethodName := ⟨RX8, "stands", "(II)I"⟩
abbrev cX8_watch : ByteArray := prog_10_method_28_code
def yX8_watch : MethodName := ⟨RX8, "watch", "(II)I"⟩
abbrev cX8_horizons : ByteArray := prog_10_method_29_code
def yX8_horizons : MethodName := ⟨RX8, "horizons", "(II)I"⟩
abbrev cX8_horizon : ByteArray := prog_10_method_30_code
def yX8_horizon : MethodName := ⟨RX8, "horizon", "(II)I"⟩
abbrev cX8_errs : ByteArray := prog_10_method_31_code
def yX8_errs : MethodName := ⟨RX8, "errs", "(I)I"⟩
abbrev cX8_error : ByteArray := prog_10_method_32_code
def yX8_error : MethodName := ⟨RX8, "error", "(I)I"⟩
abbrev cX8_takes : ByteArray := prog_10_method_33_code
def yX8_takes : MethodName := ⟨RX8, "takes", "(I)I"⟩
abbrev cX8_sight : ByteArray := prog_10_method_34_code
def yX8_sight : MethodName := ⟨RX8, "sight", "(I)I"⟩
abbrev cX8_turned : ByteArray := prog_10_method_35_code
def yX8_turned : MethodName := ⟨RX8, "turned", "(I)I"⟩
abbrev cX8_allRum : ByteArray := prog_10_method_36_code
def yX8_allRum : MethodName := ⟨RX8, "allRum", "()I"⟩
abbrev cX8_passes : ByteArray := prog_10_method_37_code
def yX8_passes : MethodName := ⟨RX8, "passes", "()I"⟩
abbrev cX8_hour : ByteArray := prog_10_method_38_code
def yX8_hour : MethodName := ⟨RX8, "hour", "()I"⟩
abbrev cX8_sights : ByteArray := prog_10_method_39_code
def yX8_sights : MethodName := ⟨RX8, "sights", "(I)I"⟩
abbrev cX8_differs : ByteArray := prog_10_method_40_code
def yX8_differs : MethodName := ⟨RX8, "differs", "(II)I"⟩
abbrev cX8_mates : ByteArray := prog_10_method_41_code
def yX8_mates : MethodName := ⟨RX8, "mates", "(I)I"⟩
abbrev cX8_mess : ByteArray := prog_10_method_42_code
def yX8_mess : MethodName := ⟨RX8, "mess", "(I)I"⟩
abbrev cX8_sailorOf : ByteArray := prog_10_method_43_code
def yX8_sailorOf : MethodName := ⟨RX8, "sailorOf", "(II)I"⟩
abbrev cX8_watchOf : ByteArray := prog_10_method_44_code
def yX8_watchOf : MethodName := ⟨RX8, "watchOf", "(II)I"⟩
abbrev cX8_sightOf : ByteArray := prog_10_method_45_code
def yX8_sightOf : MethodName := ⟨RX8, "sightOf", "(II)I"⟩
abbrev cX8_angle : ByteArray := prog_10_method_46_code
def yX8_angle : MethodName := ⟨RX8, "angle", "(I)F"⟩
abbrev cX8_readBits : ByteArray := prog_10_method_47_code
def yX8_readBits : MethodName := ⟨RX8, "readBits", "(I)I"⟩
abbrev cX8_value : ByteArray := prog_10_method_48_code
def yX8_value : MethodName := ⟨RX8, "value", "(I)F"⟩
abbrev cX8_fixed : ByteArray := prog_10_method_49_code
def yX8_fixed : MethodName := ⟨RX8, "fixed", "(I)F"⟩
abbrev cX8_fixBits : ByteArray := prog_10_method_50_code
def yX8_fixBits : MethodName := ⟨RX8, "fixBits", "(I)I"⟩
abbrev cX8_fixAgain : ByteArray := prog_10_method_51_code
def yX8_fixAgain : MethodName := ⟨RX8, "fixAgain", "(I)I"⟩
abbrev cX8_meet : ByteArray := prog_10_method_52_code
def yX8_meet : MethodName := ⟨RX8, "meet", "(II)I"⟩
abbrev cX8_unlike : ByteArray := prog_10_method_53_code
def yX8_unlike : MethodName := ⟨RX8, "unlike", "(II)I"⟩
abbrev cX8_unlikeAgain : ByteArray := prog_10_method_54_code
def yX8_unlikeAgain : MethodName := ⟨RX8, "unlikeAgain", "(II)I"⟩
abbrev cX8_closest : ByteArray := prog_10_method_55_code
def yX8_closest : MethodName := ⟨RX8, "closest", "(II)I"⟩
abbrev cX8_would : ByteArray := prog_10_method_56_code
def yX8_would : MethodName := ⟨RX8, "would", "(II)I"⟩
abbrev cX8_sinks : ByteArray := prog_10_method_57_code
def yX8_sinks : MethodName := ⟨RX8, "sinks", "(I)I"⟩
abbrev cX8_messes : ByteArray := prog_10_method_58_code
def yX8_messes : MethodName := ⟨RX8, "messes", "()I"⟩
abbrev cX8_highest : ByteArray := prog_10_method_59_code
def yX8_highest : MethodName := ⟨RX8, "highest", "(I)I"⟩
abbrev cX8_ranked : ByteArray := prog_10_method_60_code
def yX8_ranked : MethodName := ⟨RX8, "ranked", "(I)I"⟩
abbrev cX8_packed : ByteArray := prog_10_method_61_code
def yX8_packed : MethodName := ⟨RX8, "packed", "()J"⟩
abbrev cX8_isCounted : ByteArray := prog_10_method_62_code
def yX8_isCounted : MethodName := ⟨RX8, "isCounted", "()Z"⟩
abbrev cX8_meanAngle : ByteArray := prog_10_method_63_code
def yX8_meanAngle : MethodName := ⟨RX8, "meanAngle", "()D"⟩
abbrev cX8_account : ByteArray := prog_10_method_64_code
def yX8_account : MethodName := ⟨RX8, "account", "(I)I"⟩
abbrev cX8_writes : ByteArray := prog_10_method_65_code
def yX8_writes : MethodName := ⟨RX8, "writes", "(I)V"⟩
abbrev cX8_writesNumber : ByteArray := prog_10_method_66_code
def yX8_writesNumber : MethodName := ⟨RX8, "writesNumber", "(I)V"⟩
abbrev cX8_write : ByteArray := prog_10_method_67_code
def yX8_write : MethodName := ⟨RX8, "write", "(I)I"⟩
abbrev cX8_writeLog : ByteArray := prog_10_method_68_code
def yX8_writeLog : MethodName := ⟨RX8, "writeLog", "()I"⟩
abbrev cX8_written : ByteArray := prog_10_method_69_code
def yX8_written : MethodName := ⟨RX8, "written", "(I)I"⟩
abbrev cX8_append : ByteArray := prog_10_method_70_code
def yX8_append : MethodName := ⟨RX8, "append", "(C)I"⟩
abbrev cX8_sign : ByteArray := prog_10_method_71_code
def yX8_sign : MethodName := ⟨RX8, "sign", "()I"⟩
abbrev cX8_mark : ByteArray := prog_10_method_72_code
def yX8_mark : MethodName := ⟨RX8, "mark", "(I)V"⟩
abbrev cX8_digit : ByteArray := prog_10_method_73_code
def yX8_digit : MethodName := ⟨RX8, "digit", "()I"⟩
abbrev cX8_hexes : ByteArray := prog_10_method_74_code
def yX8_hexes : MethodName := ⟨RX8, "hexes", "()I"⟩
abbrev cX8_word : ByteArray := prog_10_method_75_code
def yX8_word : MethodName := ⟨RX8, "word", "()I"⟩
abbrev cX8_does : ByteArray := prog_10_method_76_code
def yX8_does : MethodName := ⟨RX8, "does", "(III)I"⟩
abbrev cX8_command : ByteArray := prog_10_method_77_code
def yX8_command : MethodName := ⟨RX8, "command", "()V"⟩
abbrev cX8_commands : ByteArray := prog_10_method_78_code
def yX8_commands : MethodName := ⟨RX8, "commands", "()I"⟩
abbrev cX8_read : ByteArray := prog_10_method_79_code
def yX8_read : MethodName := ⟨RX8, "read", "()I"⟩
abbrev cX8_fault : ByteArray := prog_10_method_80_code
def yX8_fault : MethodName := ⟨RX8, "fault", "()I"⟩
abbrev cX8_reason : ByteArray := prog_10_method_81_code
def yX8_reason : MethodName := ⟨RX8, "reason", "(IZ)I"⟩
abbrev cX8_undo : ByteArray := prog_10_method_82_code
def yX8_undo : MethodName := ⟨RX8, "undo", "()I"⟩
abbrev cX8_save : ByteArray := prog_10_method_83_code
def yX8_save : MethodName := ⟨RX8, "save", "()I"⟩
abbrev cX8_restore : ByteArray := prog_10_method_84_code
def yX8_restore : MethodName := ⟨RX8, "restore", "()I"⟩
def RJx29ce0 : String := "java/lang/Enum"
def TJx29ce0 : u_T := fun k => match k with
  | _ => ("", "", "", false)
def tyJx29ce0 : Nat → FieldType := fun k => match k with
  | _ => .int
abbrev wsJx29ce00 : List Cond := u_ws RJx29ce0 TJx29ce0 0
theorem nmJx29ce0 : ∀ a, a < 0 → ∀ b, b < 0 → a ≠ b → (TJx29ce0 a).2.1 ≠ (TJx29ce0 b).2.1 := by decide +kernel
theorem tyJx29ce0_ok : ∀ k, k < 0 → parseFieldDescriptor (TJx29ce0 k).2.2.1 = some (tyJx29ce0 k) := by decide +kernel
abbrev cJx29ce0_ordinal_8abf5 : ByteArray := prog_11_method_2_code
def yJx29ce0_ordinal_8abf5 : MethodName := ⟨RJx29ce0, "ordinal", "()I"⟩
def RJxf58ca : String := "java/lang/Float"
def TJxf58ca : u_T := fun k => match k with
  | _ => ("", "", "", false)
def tyJxf58ca : Nat → FieldType := fun k => match k with
  | _ => .int
abbrev wsJxf58ca0 : List Cond := u_ws RJxf58ca TJxf58ca 0
theorem nmJxf58ca : ∀ a, a < 0 → ∀ b, b < 0 → a ≠ b → (TJxf58ca a).2.1 ≠ (TJxf58ca b).2.1 := by decide +kernel
theorem tyJxf58ca_ok : ∀ k, k < 0 → parseFieldDescriptor (TJxf58ca k).2.2.1 = some (tyJxf58ca k) := by decide +kernel
abbrev cJxf58ca_isNaN_12338 : ByteArray := prog_12_method_6_code
def yJxf58ca_isNaN_12338 : MethodName := ⟨RJxf58ca, "isNaN", "(F)Z"⟩
abbrev cJxf58ca_floatToIntBits_5c35a : ByteArray := prog_12_method_24_code
def yJxf58ca_floatToIntBits_5c35a : MethodName := ⟨RJxf58ca, "floatToIntBits", "(F)I"⟩
def RJ6 : String := "java/lang/Integer"
def TJ6 : u_T := fun k => match k with
  | _ => ("", "", "", false)
def tyJ6 : Nat → FieldType := fun k => match k with
  | _ => .int
abbrev wsJ60 : List Cond := u_ws RJ6 TJ6 0
theorem nmJ6 : ∀ a, a < 0 → ∀ b, b < 0 → a ≠ b → (TJ6 a).2.1 ≠ (TJ6 b).2.1 := by decide +kernel
theorem tyJ6_ok : ∀ k, k < 0 → parseFieldDescriptor (TJ6 k).2.2.1 = some (tyJ6 k) := by decide +kernel
abbrev cJ6_bitCount_0f7a4 : ByteArray := prog_13_method_49_code
def yJ6_bitCount_0f7a4 : MethodName := ⟨RJ6, "bitCount", "(I)I"⟩
def RJ9 : String := "java/lang/Math"
def TJ9 : u_T := fun k => match k with
  | _ => ("", "", "", false)
def tyJ9 : Nat → FieldType := fun k => match k with
  | _ => .int
abbrev wsJ90 : List Cond := u_ws RJ9 TJ9 0
theorem nmJ9 : ∀ a, a < 0 → ∀ b, b < 0 → a ≠ b → (TJ9 a).2.1 ≠ (TJ9 b).2.1 := by decide +kernel
theorem tyJ9_ok : ∀ k, k < 0 → parseFieldDescriptor (TJ9 k).2.2.1 = some (tyJ9 k) := by decide +kernel
abbrev cJ9_floorDiv_7cf53 : ByteArray := prog_14_method_47_code
def yJ9_floorDiv_7cf53 : MethodName := ⟨RJ9, "floorDiv", "(II)I"⟩
abbrev cJ9_floorMod_7cf53 : ByteArray := prog_14_method_50_code
def yJ9_floorMod_7cf53 : MethodName := ⟨RJ9, "floorMod", "(II)I"⟩
abbrev cJ9_max_7cf53 : ByteArray := prog_14_method_65_code
def yJ9_max_7cf53 : MethodName := ⟨RJ9, "max", "(II)I"⟩
def RJ0 : String := "java/lang/String"
def TJ0 : u_T := fun k => match k with
  | _ => ("", "", "", false)
def tyJ0 : Nat → FieldType := fun k => match k with
  | _ => .int
abbrev wsJ00 : List Cond := u_ws RJ0 TJ0 0
theorem nmJ0 : ∀ a, a < 0 → ∀ b, b < 0 → a ≠ b → (TJ0 a).2.1 ≠ (TJ0 b).2.1 := by decide +kernel
theorem tyJ0_ok : ∀ k, k < 0 → parseFieldDescriptor (TJ0 k).2.2.1 = some (tyJ0 k) := by decide +kernel
abbrev cJ0_length_8abf5 : ByteArray := prog_15_method_54_code
def yJ0_length_8abf5 : MethodName := ⟨RJ0, "length", "()I"⟩
abbrev cJ0_charAt_5068e : ByteArray := prog_15_method_56_code
def yJ0_charAt_5068e : MethodName := ⟨RJ0, "charAt", "(I)C"⟩
abbrev cJ0_coder_7d493 : ByteArray := prog_15_method_152_code
def yJ0_coder_7d493 : MethodName := ⟨RJ0, "coder", "()B"⟩
abbrev cJ0_isLatin1_aae02 : ByteArray := prog_15_method_154_code
def yJ0_isLatin1_aae02 : MethodName := ⟨RJ0, "isLatin1", "()Z"⟩
abbrev cJ0_checkIndex_df160 : ByteArray := prog_15_method_155_code
def yJ0_checkIndex_df160 : MethodName := ⟨RJ0, "checkIndex", "(II)V"⟩
def RJ1 : String := "java/lang/StringLatin1"
def TJ1 : u_T := fun k => match k with
  | _ => ("", "", "", false)
def tyJ1 : Nat → FieldType := fun k => match k with
  | _ => .int
abbrev wsJ10 : List Cond := u_ws RJ1 TJ1 0
theorem nmJ1 : ∀ a, a < 0 → ∀ b, b < 0 → a ≠ b → (TJ1 a).2.1 ≠ (TJ1 b).2.1 := by decide +kernel
theorem tyJ1_ok : ∀ k, k < 0 → parseFieldDescriptor (TJ1 k).2.2.1 = some (tyJ1 k) := by decide +kernel
abbrev cJ1_charAt_3b067 : ByteArray := prog_16_method_2_code
def yJ1_charAt_3b067 : MethodName := ⟨RJ1, "charAt", "([BI)C"⟩
def RJ2 : String := "java/lang/StringUTF16"
def TJ2 : u_T := fun k => match k with
  | _ => ("", "", "", false)
def tyJ2 : Nat → FieldType := fun k => match k with
  | _ => .int
abbrev wsJ20 : List Cond := u_ws RJ2 TJ2 0
theorem nmJ2 : ∀ a, a < 0 → ∀ b, b < 0 → a ≠ b → (TJ2 a).2.1 ≠ (TJ2 b).2.1 := by decide +kernel
theorem tyJ2_ok : ∀ k, k < 0 → parseFieldDescriptor (TJ2 k).2.2.1 = some (tyJ2 k) := by decide +kernel
abbrev cJ2_getChar_3b067 : ByteArray := prog_17_method_5_code
def yJ2_getChar_3b067 : MethodName := ⟨RJ2, "getChar", "([BI)C"⟩
abbrev cJ2_length_9d52b : ByteArray := prog_17_method_6_code
def yJ2_length_9d52b : MethodName := ⟨RJ2, "length", "([B)I"⟩
abbrev cJ2_charAt_3b067 : ByteArray := prog_17_method_83_code
def yJ2_charAt_3b067 : MethodName := ⟨RJ2, "charAt", "([BI)C"⟩
abbrev cJ2_checkIndex_2214a : ByteArray := prog_17_method_91_code
def yJ2_checkIndex_2214a : MethodName := ⟨RJ2, "checkIndex", "(I[B)V"⟩
def RJ10 : String := "java/lang/System"
def TJ10 : u_T := fun k => match k with
  | _ => ("", "", "", false)
def tyJ10 : Nat → FieldType := fun k => match k with
  | _ => .int
abbrev wsJ100 : List Cond := u_ws RJ10 TJ10 0
theorem nmJ10 : ∀ a, a < 0 → ∀ b, b < 0 → a ≠ b → (TJ10 a).2.1 ≠ (TJ10 b).2.1 := by decide +kernel
theorem tyJ10_ok : ∀ k, k < 0 → parseFieldDescriptor (TJ10 k).2.2.1 = some (tyJ10 k) := by decide +kernel
def RJ3 : String := "jdk/internal/util/Preconditions"
def TJ3 : u_T := fun k => match k with
  | _ => ("", "", "", false)
def tyJ3 : Nat → FieldType := fun k => match k with
  | _ => .int
abbrev wsJ30 : List Cond := u_ws RJ3 TJ3 0
theorem nmJ3 : ∀ a, a < 0 → ∀ b, b < 0 → a ≠ b → (TJ3 a).2.1 ≠ (TJ3 b).2.1 := by decide +kernel
theorem tyJ3_ok : ∀ k, k < 0 → parseFieldDescriptor (TJ3 k).2.2.1 = some (tyJ3 k) := by decide +kernel
abbrev cJ3_checkIndex_8e157 : ByteArray := prog_19_method_11_code
def yJ3_checkIndex_8e157 : MethodName := ⟨RJ3, "checkIndex", "(IILjava/util/function/BiFunction;)I"⟩
def RL : String := "MoodSextantLaw"
abbrev cL_law : ByteArray := code
abbrev vwCl : List vw_C := [(RX2, TX2, 3), (RX3, TX3, 2), (RX4, TX4, 3), (RX5, TX5, 15), (RX6, TX6, 6), (RX7, TX7, 10), (RX8, TX8, 24)]
/-- the words that all contracts here have: of the law's, those that every call keeps -/
def wsL_law : List Cond := lw_tbl.filter goodWord
theorem wT_of {w : Cond} (h : w ∈ lw_tbl) (g : goodWord w = true) : w ∈ wsL_law := List.mem_filter.mpr ⟨h, g⟩
theorem wT_at {w : Cond} (k : Nat) (h : lw_tbl[k]? = some w) (g : goodWord w = true) : w ∈ wsL_law := wT_of (List.mem_of_getElem? h) g
end
section
/-! THE WALK OVER A WORLD: a row an instruction, as the kit has them, over the world alone (no heap, no locals' array is named); a method's contract where it makes nothing: its world before and behind. -/
def vEok (E : (Nat → Prop) → State → Heap → Prop) : Prop := (∀ (A : Nat → Prop) (U : State) (H H1 : Heap), E A U H → (∀ a : Nat, a < H.size → ¬ A a → H1[a]? = H[a]?) → E A U H1) ∧ (∀ (A B : Nat → Prop) (U : State) (H : Heap), E A U H → (∀ q, B q → A q) → E B U H) ∧ (∀ (A : Nat → Prop) (u U : State) (H : Heap), u.vm.Alike U.vm → E A u H → E A U H)
def vC (E : (Nat → Prop) → State → Heap → Prop) (p : Program) (l : Launch) (s : State) (m : MethodId) (args : Array Value) (meth : Method) (c : Code) (A : Nat → Prop) (D : va_G) (tys : List (ClassId × FieldType)) (cc : ByteArray) (nL : Nat) (own : String) : Prop :=
  p.tables.exec = Jvm.exec ∧ c.code = cc ∧ c.maxLocals = nL ∧ s.vm.findClass own = some m.cls ∧ (∀ w ∈ wsL_law, w.before args s = true) ∧ va_K D vwCl tys s ∧ (∀ q : Nat, s.heap.size ≤ q → A q) ∧ meth.locks = false ∧ vEok E ∧ E A s s.heap
def vV (p : Program) (l : Launch) (e : Env) (R : Room) (s : State) (m : MethodId) (args : Array Value) (below : List Frame) (meth : Method) (c : Code) (A : Nat → Prop) (D : va_G) (nL kc ks : Nat) (Q : State → Prop) (w : va_W) (pc : Nat) (lv : List (Nat × Value)) (st : List Value) : Prop :=
  ∀ (H : Heap) (locs : List Loc) (ls : Array Slot), va_P D vwCl w H → va_D A w → va_S A s.heap H locs → lv_has ls nL lv → W p l e R s m args below meth c H locs kc ks Q (F0 m pc ls st)
theorem vT_good : wsL_law.all goodWord = true := by decide +kernel
theorem vT_in {y : MethodName} {cd : ByteArray} {mL : Nat} {rt : Option FieldType} (h : Cond.code y cd mL rt ∈ wsL_law) : GoodIn wsL_law (Cond.code y cd mL rt :: wsL_law) := by
  intro w hw
  have hm : w ∈ wsL_law := by
    rcases List.mem_cons.mp hw with h1 | h1
    · rw [h1]; exact h
    · exact h1
  exact ⟨hm, good_of_word (List.all_eq_true.mp vT_good w hm)⟩
/-- a method that makes nothing: from the world w, anything else alike, it ends as Qk says -/
def vM (E : (Nat → Prop) → State → Heap → Prop) (l : Launch) (y : MethodName) (cd : ByteArray) (mL : Nat) (rt : Option FieldType) (fr lo : Nat) (D : va_G) (tys : List (ClassId × FieldType)) (av : List Value) (w : va_W) (Qk : (Nat → Prop) → Array Value → State → Outcome → State → Prop) : Prop :=
  ∀ sz : Nat, Met l y (Cond.code y cd mL rt :: wsL_law) ({ frames := fr, cells := 0, slots := 0, locals := lo }) (va_Pc av (fun U => U.heap.size = sz ∧ va_P D vwCl w U.heap ∧ va_K D vwCl tys U ∧ va_D (fun _ => True) w ∧ E (va_A w sz) U U.heap)) (Qk (va_A w sz)) 0 0 (va_A w sz)
abbrev vQi (D : va_G) (w : va_W) (r : Int32) (A : Nat → Prop) : Array Value → State → Outcome → State → Prop := va_Qi (fun (r2 : Int32) (_ : Unit) => r2 = r) (fun _ t => va_P D vwCl w t.heap) A
abbrev vQl (D : va_G) (w : va_W) (r : Int64) (A : Nat → Prop) : Array Value → State → Outcome → State → Prop := va_Ql (fun (r2 : Int64) (_ : Unit) => r2 = r) (fun _ t => va_P D vwCl w t.heap) A
abbrev vQf (D : va_G) (w : va_W) (r : UInt32) (A : Nat → Prop) : Array Value → State → Outcome → State → Prop := va_Qf (fun (r2 : UInt32) (_ : Unit) => r2 = r) (fun _ t => va_P D vwCl w t.heap) A
abbrev vQd (D : va_G) (w : va_W) (r : UInt64) (A : Nat → Prop) : Array Value → State → Outcome → State → Prop := va_Qd (fun (r2 : UInt64) (_ : Unit) => r2 = r) (fun _ t => va_P D vwCl w t.heap) A
abbrev vQv (D : va_G) (w : va_W) (A : Nat → Prop) : Array Value → State → Outcome → State → Prop := va_Qv (fun (_ : Unit) => True) (fun _ t => va_P D vwCl w t.heap) A
theorem vM_of {E : (Nat → Prop) → State → Heap → Prop} {l : Launch} {y : MethodName} {cd : ByteArray} {mL : Nat} {rt : Option FieldType} {fr lo : Nat} {D : va_G} {tys : List (ClassId × FieldType)} {av : List Value} {w : va_W} {Qk : (Nat → Prop) → Array Value → State → Outcome → State → Prop} (hE : vEok E) (hy : plainName y.cls = true) (hlen : (lg_sl av).length ≤ mL)
    (body : ∀ (p : Program) (e : Env) (s : State) (m : MethodId) (args : Array Value) (below : List Frame) (meth : Method) (c : Code) (A : Nat → Prop), vC E p l s m args meth c A D tys cd mL y.cls → meth.sig.returnType = rt → vV p l e { frames := fr, cells := 0, slots := 0, locals := lo } s m args below meth c A D mL 0 0 (MQ below (Qk A) args s 0 0 A) w 0 (lv_args 0 av) []) : vM E l y cd mL rt fr lo D tys av w Qk := by
  intro sz
  refine Met.ofW (cc := cd) (maxL := mL) (ret := rt) hy rfl ?_
  intro p e s m args below meth c s₁ B hml hv
  obtain ⟨rfl, hsz, hP, hK, hD0, hE0⟩ := hv
  have hown : s.vm.findClass y.cls = some m.cls := findClass_of_methodNamed B.named
  subst hsz
  have hts := atoms_spec (ws := Cond.code y cd mL rt :: wsL_law) B.pre
  have hl := lv_entry av (n := mL) hlen
  rw [lg_entry_eq]
  exact body p e s m _ below meth c (va_A w s.heap.size) ⟨B.exec, B.bytes, hml, hown, fun w h => hts w (List.mem_cons_of_mem _ h), hK, fun q h => Or.inr h, B.notSynchronized, hE, hE0⟩ B.returns s.heap [] _ hP hD0.self va_S.rf hl
/-- the caller's world behind a call: the callee's part is the new one, all else stands -/
theorem vj {A : Nat → Prop} {D : va_G} {cl : List vw_C} {w w1 wc w2 wd : va_W} {H H1 : Heap} (hw : w = w1 ++ (wc ++ w2)) (had : wd.map Prod.fst = wc.map Prod.fst) (hP : va_P D cl w H) (hD : va_D A w) (hk : ∀ q : Nat, q < H.size → ¬ va_A wc H.size q → H1[q]? = H[q]?) (hP1 : va_P D cl wd H1) : va_P D cl (w1 ++ (wd ++ w2)) H1 ∧ va_D A (w1 ++ (wd ++ w2)) := by
  subst hw
  have hlen : wd.length = wc.length := by have h := congrArg List.length had; simpa using h
  have hfst : ∀ k : Nat, (wd[k]?).map Prod.fst = (wc[k]?).map Prod.fst := fun k => by rw [← List.getElem?_map, ← List.getElem?_map, had]
  have key : ∀ (k : Nat) (q : Nat × va_E), (w1 ++ (wd ++ w2))[k]? = some q → ∃ q0, (w1 ++ (wc ++ w2))[k]? = some q0 ∧ q0.1 = q.1 ∧ ((∃ j : Nat, wd[j]? = some q) ∨ (q0 = q ∧ ¬ ∃ (j : Nat) (e : va_E), wc[j]? = some (q.1, e))) := by
    intro k q hq
    by_cases h1 : k < w1.length
    · rw [List.getElem?_append_left h1] at hq
      refine ⟨q, by rw [List.getElem?_append_left h1]; exact hq, rfl, Or.inr ⟨rfl, ?_⟩⟩
      rintro ⟨j, e, hj⟩
      have hjl : j < wc.length := (List.getElem?_eq_some_iff.mp hj).1
      have h2 : (w1 ++ (wc ++ w2))[w1.length + j]? = some (q.1, e) := by
        rw [List.getElem?_append_right (by omega), List.getElem?_append_left (by omega)]
        rw [show w1.length + j - w1.length = j by omega]; exact hj
      have h3 : (w1 ++ (wc ++ w2))[k]? = some q := by rw [List.getElem?_append_left h1]; exact hq
      have := hD.1 _ _ _ _ h3 h2 rfl
      omega
    · rw [List.getElem?_append_right (by omega)] at hq
      by_cases h2 : k - w1.length < wd.length
      · rw [List.getElem?_append_left h2] at hq
        have h4 : k - w1.length < wc.length := by omega
        refine ⟨wc[k - w1.length], ?_, ?_, Or.inl ⟨_, hq⟩⟩
        · rw [List.getElem?_append_right (by omega), List.getElem?_append_left h4]
          exact List.getElem?_eq_getElem h4
        · have h5 := hfst (k - w1.length)
          rw [hq, List.getElem?_eq_getElem h4] at h5
          exact (Option.some.inj h5).symm
      · rw [List.getElem?_append_right (by omega)] at hq
        have h3 : (w1 ++ (wc ++ w2))[k]? = some q := by
          rw [List.getElem?_append_right (by omega), List.getElem?_append_right (by omega), ← hlen]; exact hq
        refine ⟨q, h3, rfl, Or.inr ⟨rfl, ?_⟩⟩
        rintro ⟨j, e, hj⟩
        have hjl : j < wc.length := (List.getElem?_eq_some_iff.mp hj).1
        have h6 : (w1 ++ (wc ++ w2))[w1.length + j]? = some (q.1, e) := by
          rw [List.getElem?_append_right (by omega), List.getElem?_append_left (by omega)]
          rw [show w1.length + j - w1.length = j by omega]; exact hj
        have := hD.1 _ _ _ _ h3 h6 rfl
        omega
  refine ⟨fun k q hq => ?_, fun i j x y hi hj hxy => ?_, fun k q hq => ?_⟩
  · obtain ⟨q0, h0, hf, h⟩ := key k q hq
    rcases h with ⟨j, hj⟩ | ⟨he, hn⟩
    · exact hP1 j q hj
    · subst he
      have hlt : q0.1 < H.size := (hP k q0 h0).lt
      refine (hP k q0 h0).kept (hk q0.1 hlt ?_)
      rintro (⟨j, e, hj⟩ | h)
      · exact hn ⟨j, e, hj⟩
      · omega
  · obtain ⟨x0, h1, e1, -⟩ := key i x hi
    obtain ⟨y0, h2, e2, -⟩ := key j y hj
    exact hD.1 i j x0 y0 h1 h2 (by rw [e1, e2]; exact hxy)
  · obtain ⟨q0, h1, e1, -⟩ := key k q hq
    rw [← e1]
    exact hD.2 k q0 h1
theorem vfree {A : Nat → Prop} {s : State} {H : Heap} {locs : List Loc} {w w1 wc w2 : va_W} (hw : w = w1 ++ (wc ++ w2)) (hD : va_D A w) (hS : va_S A s.heap H locs) (hA : ∀ q : Nat, s.heap.size ≤ q → A q) : ∀ q, va_A wc H.size q → A q := by
  subst hw
  rintro q (⟨k, e, h⟩ | h)
  · have hl : k < wc.length := (List.getElem?_eq_some_iff.mp h).1
    have h2 : (w1 ++ (wc ++ w2))[w1.length + k]? = some (q, e) := by
      rw [List.getElem?_append_right (by omega), List.getElem?_append_left (by omega)]
      rw [show w1.length + k - w1.length = k by omega]; exact h
    exact hD.2 _ _ h2
  · exact hA q (Nat.le_trans hS.1 h)
theorem vsubP {D : va_G} {cl : List vw_C} {w w1 wc w2 : va_W} {H : Heap} (hw : w = w1 ++ (wc ++ w2)) (hP : va_P D cl w H) : va_P D cl wc H := by
  subst hw
  intro k q h
  have hl : k < wc.length := (List.getElem?_eq_some_iff.mp h).1
  refine hP (w1.length + k) q ?_
  rw [List.getElem?_append_right (by omega), List.getElem?_append_left (by omega)]
  rw [show w1.length + k - w1.length = k by omega]; exact h
theorem vsubD {A : Nat → Prop} {w w1 wc w2 : va_W} (hw : w = w1 ++ (wc ++ w2)) (hD : va_D A w) : va_D (fun _ => True) wc := by
  subst hw
  have key : ∀ (k : Nat) (q : Nat × va_E), wc[k]? = some q → (w1 ++ (wc ++ w2))[w1.length + k]? = some q := by
    intro k q h
    have hl : k < wc.length := (List.getElem?_eq_some_iff.mp h).1
    rw [List.getElem?_append_right (by omega), List.getElem?_append_left (by omega)]
    rw [show w1.length + k - w1.length = k by omega]; exact h
  refine ⟨fun i j x y hi hj hxy => ?_, fun _ _ _ => trivial⟩
  have := hD.1 _ _ x y (key i x hi) (key j y hj) hxy
  omega
/-- options: what comes out, came through each step -/
theorem ob_if {α : Type} {c : Prop} [Decidable c] {a : Option α} {z : α} (h : (if c then none else a) = some z) : ¬ c ∧ a = some z := by
  by_cases hc : c
  · rw [if_pos hc] at h; cases h
  · rw [if_neg hc] at h; exact ⟨hc, h⟩
theorem ob_ok {α : Type} {c : Prop} [Decidable c] {a : Option α} {z : α} (h : (if c then a else none) = some z) : c ∧ a = some z := by
  by_cases hc : c
  · rw [if_pos hc] at h; exact ⟨hc, h⟩
  · rw [if_neg hc] at h; cases h
theorem ob_bd {α β : Type} {x : Option α} {f : α → Option β} {z : β} (h : x.bind f = some z) : ∃ a, x = some a ∧ f a = some z := by
  cases x with
  | none => cases h
  | some a => exact ⟨a, rfl, h⟩
/-- a named value -/
def bd {α β : Type} (a : α) (f : α → β) : β := f a
theorem ob_nm {α β : Type} {a : α} {f : α → Option β} {z : β} (h : bd a f = some z) : ∃ x, x = a ∧ f x = some z := ⟨a, rfl, h⟩
theorem ob_t {α : Type} {c : Prop} [Decidable c] {a b : Option α} {z : α} (h : (if c then a else b) = some z) (hc : c) : a = some z := by rw [if_pos hc] at h; exact h
theorem ob_f {α : Type} {c : Prop} [Decidable c] {a b : Option α} {z : α} (h : (if c then a else b) = some z) (hc : ¬ c) : b = some z := by rw [if_neg hc] at h; exact h
/-- a table of rows: a place of one row anew -/
def up2 (u : Nat → Nat → Int32) (a i : Nat) (x : Int32) : Nat → Nat → Int32 := fun b => if b = a then upd (u a) i x else u b
section VB
variable {E : (Nat → Prop) → State → Heap → Prop} {p : Program} {l : Launch} {e : Env} {R : Room} {s : State} {m : MethodId} {args : Array Value} {below : List Frame} {meth : Method} {c : Code} {A : Nat → Prop} {D : va_G} {tys : List (ClassId × FieldType)} {cc : ByteArray} {nL : Nat} {own : String} {kc ks : Nat} {Q : State → Prop} {w : va_W} {pc : Nat} {lv lv' : List (Nat × Value)} {st : List Value}
theorem vi_iconst (C : vC E p l s m args meth c A D tys cc nL own) {n : Int} {v : Int32} (hd : decode cc pc = .ok (.iconst n, 1)) (hv : Int32.ofInt n = v) (k : vV p l e R s m args below meth c A D nL kc ks Q w (pc + 1) lv (.int v :: st)) : vV p l e R s m args below meth c A D nL kc ks Q w pc lv st := fun H locs ls hP hD hS hl => lv_iconst C.1 C.2.1 hd hv (k H locs ls hP hD hS hl)
theorem vi_bipush (C : vC E p l s m args meth c A D tys cc nL own) {n : Int} {v : Int32} (hd : decode cc pc = .ok (.bipush n, 2)) (hv : (Int8.ofInt n).toInt32 = v) (k : vV p l e R s m args below meth c A D nL kc ks Q w (pc + 2) lv (.int v :: st)) : vV p l e R s m args below meth c A D nL kc ks Q w pc lv st := fun H locs ls hP hD hS hl => lv_bipush C.1 C.2.1 hd hv (k H locs ls hP hD hS hl)
theorem vi_sipush (C : vC E p l s m args meth c A D tys cc nL own) {n : Int} {v : Int32} (hd : decode cc pc = .ok (.sipush n, 3)) (hv : (Int16.ofInt n).toInt32 = v) (k : vV p l e R s m args below meth c A D nL kc ks Q w (pc + 3) lv (.int v :: st)) : vV p l e R s m args below meth c A D nL kc ks Q w pc lv st := fun H locs ls hP hD hS hl => lv_sipush C.1 C.2.1 hd hv (k H locs ls hP hD hS hl)
theorem vi_ldc (C : vC E p l s m args meth c A D tys cc nL own) {idx : Nat} {v : Int32} (hd : decode cc pc = .ok (.ldc idx, 2)) (hm : Cond.constant own idx v ∈ wsL_law) (k : vV p l e R s m args below meth c A D nL kc ks Q w (pc + 2) lv (.int v :: st)) : vV p l e R s m args below meth c A D nL kc ks Q w pc lv st := fun H locs ls hP hD hS hl => lv_ldc C.1 C.2.1 C.2.2.2.1 (C.2.2.2.2.1 _ hm) hd (k H locs ls hP hD hS hl)
theorem vi_ldcw (C : vC E p l s m args meth c A D tys cc nL own) {idx : Nat} {v : Int32} (hd : decode cc pc = .ok (.ldc_w idx, 3)) (hm : Cond.constant own idx v ∈ wsL_law) (k : vV p l e R s m args below meth c A D nL kc ks Q w (pc + 3) lv (.int v :: st)) : vV p l e R s m args below meth c A D nL kc ks Q w pc lv st := fun H locs ls hP hD hS hl => lv_ldcw C.1 C.2.1 C.2.2.2.1 (C.2.2.2.2.1 _ hm) hd (k H locs ls hP hD hS hl)
theorem vi_ldcf (C : vC E p l s m args meth c A D tys cc nL own) {idx : Nat} {v : UInt32} (hd : decode cc pc = .ok (.ldc idx, 2)) (hm : Cond.constantFloat own idx v ∈ wsL_law) (k : vV p l e R s m args below meth c A D nL kc ks Q w (pc + 2) lv (.float v :: st)) : vV p l e R s m args below meth c A D nL kc ks Q w pc lv st := fun H locs ls hP hD hS hl => lv_ldcf C.1 C.2.1 C.2.2.2.1 (C.2.2.2.2.1 _ hm) hd (k H locs ls hP hD hS hl)
theorem vi_ldc2 (C : vC E p l s m args meth c A D tys cc nL own) {idx : Nat} {v : Int64} (hd : decode cc pc = .ok (.ldc2_w idx, 3)) (hm : Cond.constantLong own idx v ∈ wsL_law) (k : vV p l e R s m args below meth c A D nL kc ks Q w (pc + 3) lv (.long v :: st)) : vV p l e R s m args below meth c A D nL kc ks Q w pc lv st := fun H locs ls hP hD hS hl => lv_ldc2 C.1 C.2.1 C.2.2.2.1 (C.2.2.2.2.1 _ hm) hd (k H locs ls hP hD hS hl)
theorem vi_lconst (C : vC E p l s m args meth c A D tys cc nL own) {n : Fin 2} {v : Int64} (hd : decode cc pc = .ok (.lconst n, 1)) (hv : Int64.ofNat (n : Nat) = v) (k : vV p l e R s m args below meth c A D nL kc ks Q w (pc + 1) lv (.long v :: st)) : vV p l e R s m args below meth c A D nL kc ks Q w pc lv st := fun H locs ls hP hD hS hl => lv_lconst C.1 C.2.1 hd hv (k H locs ls hP hD hS hl)
theorem vi_fconst0 (C : vC E p l s m args meth c A D tys cc nL own) (hd : decode cc pc = .ok (.fconst 0, 1)) (k : vV p l e R s m args below meth c A D nL kc ks Q w (pc + 1) lv (.float FP.fconst0 :: st)) : vV p l e R s m args below meth c A D nL kc ks Q w pc lv st := fun H locs ls hP hD hS hl => lv_fconst0 C.1 C.2.1 hd (k H locs ls hP hD hS hl)
theorem vi_fconst1 (C : vC E p l s m args meth c A D tys cc nL own) (hd : decode cc pc = .ok (.fconst 1, 1)) (k : vV p l e R s m args below meth c A D nL kc ks Q w (pc + 1) lv (.float FP.fconst1 :: st)) : vV p l e R s m args below meth c A D nL kc ks Q w pc lv st := fun H locs ls hP hD hS hl => lv_fconst1 C.1 C.2.1 hd (k H locs ls hP hD hS hl)
theorem vi_fconst2 (C : vC E p l s m args meth c A D tys cc nL own) (hd : decode cc pc = .ok (.fconst 2, 1)) (k : vV p l e R s m args below meth c A D nL kc ks Q w (pc + 1) lv (.float FP.fconst2 :: st)) : vV p l e R s m args below meth c A D nL kc ks Q w pc lv st := fun H locs ls hP hD hS hl => lv_fconst2 C.1 C.2.1 hd (k H locs ls hP hD hS hl)
theorem vi_dconst0 (C : vC E p l s m args meth c A D tys cc nL own) (hd : decode cc pc = .ok (.dconst 0, 1)) (k : vV p l e R s m args below meth c A D nL kc ks Q w (pc + 1) lv (.double FP.dconst0 :: st)) : vV p l e R s m args below meth c A D nL kc ks Q w pc lv st := fun H locs ls hP hD hS hl => lv_dconst0 C.1 C.2.1 hd (k H locs ls hP hD hS hl)
theorem vi_null (C : vC E p l s m args meth c A D tys cc nL own) (hd : decode cc pc = .ok (.aconst_null, 1)) (k : vV p l e R s m args below meth c A D nL kc ks Q w (pc + 1) lv (.null :: st)) : vV p l e R s m args below meth c A D nL kc ks Q w pc lv st := fun H locs ls hP hD hS hl => lv_null C.1 C.2.1 hd (k H locs ls hP hD hS hl)
theorem vi_iload_n (C : vC E p l s m args meth c A D tys cc nL own) {i : Fin 4} {x : Int32} (j : Nat) (hd : decode cc pc = .ok (.iload_n i, 1)) (hj : lv[j]? = some ((i : Nat), Value.int x)) (k : vV p l e R s m args below meth c A D nL kc ks Q w (pc + 1) lv (.int x :: st)) : vV p l e R s m args below meth c A D nL kc ks Q w pc lv st := fun H locs ls hP hD hS hl => lv_iload_n C.1 C.2.1 hd rfl (lv_at hl j hj) (k H locs ls hP hD hS hl)
theorem vi_iload (C : vC E p l s m args meth c A D tys cc nL own) {i : Nat} {x : Int32} (j : Nat) (hd : decode cc pc = .ok (.iload i, 2)) (hj : lv[j]? = some (i, Value.int x)) (k : vV p l e R s m args below meth c A D nL kc ks Q w (pc + 2) lv (.int x :: st)) : vV p l e R s m args below meth c A D nL kc ks Q w pc lv st := fun H locs ls hP hD hS hl => lv_iload C.1 C.2.1 hd (lv_at hl j hj) (k H locs ls hP hD hS hl)
theorem vi_istore_n (C : vC E p l s m args meth c A D tys cc nL own) {f : Fin 4} {i : Nat} {x : Int32} (hd : decode cc pc = .ok (.istore_n f, 1)) (hi : (f : Nat) = i) (hn : i < nL) (hf : (i, Value.int x) :: lv.filter (fun q => !(q.1 == i) && !(q.1 + 1 == i && q.2.category == 2)) = lv') (k : vV p l e R s m args below meth c A D nL kc ks Q w (pc + 1) lv' st) : vV p l e R s m args below meth c A D nL kc ks Q w pc lv (.int x :: st) := fun H locs ls hP hD hS hl => lv_istore_n C.1 C.2.1 hd hi hl hn hf (fun ls' hl' => k H locs ls' hP hD hS hl')
theorem vi_istore (C : vC E p l s m args meth c A D tys cc nL own) {i : Nat} {x : Int32} (hd : decode cc pc = .ok (.istore i, 2)) (hn : i < nL) (hf : (i, Value.int x) :: lv.filter (fun q => !(q.1 == i) && !(q.1 + 1 == i && q.2.category == 2)) = lv') (k : vV p l e R s m args below meth c A D nL kc ks Q w (pc + 2) lv' st) : vV p l e R s m args below meth c A D nL kc ks Q w pc lv (.int x :: st) := fun H locs ls hP hD hS hl => lv_istore C.1 C.2.1 hd hl hn hf (fun ls' hl' => k H locs ls' hP hD hS hl')
theorem vi_lload_n (C : vC E p l s m args meth c A D tys cc nL own) {i : Fin 4} {x : Int64} (j : Nat) (hd : decode cc pc = .ok (.lload_n i, 1)) (hj : lv[j]? = some ((i : Nat), Value.long x)) (k : vV p l e R s m args below meth c A D nL kc ks Q w (pc + 1) lv (.long x :: st)) : vV p l e R s m args below meth c A D nL kc ks Q w pc lv st := fun H locs ls hP hD hS hl => lv_lload_n C.1 C.2.1 hd rfl (lv_at hl j hj) (k H locs ls hP hD hS hl)
theorem vi_lload (C : vC E p l s m args meth c A D tys cc nL own) {i : Nat} {x : Int64} (j : Nat) (hd : decode cc pc = .ok (.lload i, 2)) (hj : lv[j]? = some (i, Value.long x)) (k : vV p l e R s m args below meth c A D nL kc ks Q w (pc + 2) lv (.long x :: st)) : vV p l e R s m args below meth c A D nL kc ks Q w pc lv st := fun H locs ls hP hD hS hl => lv_lload C.1 C.2.1 hd (lv_at hl j hj) (k H locs ls hP hD hS hl)
theorem vi_lstore_n (C : vC E p l s m args meth c A D tys cc nL own) {f : Fin 4} {i : Nat} {x : Int64} (hd : decode cc pc = .ok (.lstore_n f, 1)) (hi : (f : Nat) = i) (hn : i + 1 < nL) (hf : (i, Value.long x) :: lv.filter (fun q => !(q.1 == i) && (!(q.1 == i + 1) && !(q.1 + 1 == i && q.2.category == 2))) = lv') (k : vV p l e R s m args below meth c A D nL kc ks Q w (pc + 1) lv' st) : vV p l e R s m args below meth c A D nL kc ks Q w pc lv (.long x :: st) := fun H locs ls hP hD hS hl => lv_lstore_n C.1 C.2.1 hd hi hl hn hf (fun ls' hl' => k H locs ls' hP hD hS hl')
theorem vi_lstore (C : vC E p l s m args meth c A D tys cc nL own) {i : Nat} {x : Int64} (hd : decode cc pc = .ok (.lstore i, 2)) (hn : i + 1 < nL) (hf : (i, Value.long x) :: lv.filter (fun q => !(q.1 == i) && (!(q.1 == i + 1) && !(q.1 + 1 == i && q.2.category == 2))) = lv') (k : vV p l e R s m args below meth c A D nL kc ks Q w (pc + 2) lv' st) : vV p l e R s m args below meth c A D nL kc ks Q w pc lv (.long x :: st) := fun H locs ls hP hD hS hl => lv_lstore C.1 C.2.1 hd hl hn hf (fun ls' hl' => k H locs ls' hP hD hS hl')
theorem vi_fload_n (C : vC E p l s m args meth c A D tys cc nL own) {i : Fin 4} {x : UInt32} (j : Nat) (hd : decode cc pc = .ok (.fload_n i, 1)) (hj : lv[j]? = some ((i : Nat), Value.float x)) (k : vV p l e R s m args below meth c A D nL kc ks Q w (pc + 1) lv (.float x :: st)) : vV p l e R s m args below meth c A D nL kc ks Q w pc lv st := fun H locs ls hP hD hS hl => lv_fload_n C.1 C.2.1 hd rfl (lv_at hl j hj) (k H locs ls hP hD hS hl)
theorem vi_fload (C : vC E p l s m args meth c A D tys cc nL own) {i : Nat} {x : UInt32} (j : Nat) (hd : decode cc pc = .ok (.fload i, 2)) (hj : lv[j]? = some (i, Value.float x)) (k : vV p l e R s m args below meth c A D nL kc ks Q w (pc + 2) lv (.float x :: st)) : vV p l e R s m args below meth c A D nL kc ks Q w pc lv st := fun H locs ls hP hD hS hl => lv_fload C.1 C.2.1 hd (lv_at hl j hj) (k H locs ls hP hD hS hl)
theorem vi_fstore_n (C : vC E p l s m args meth c A D tys cc nL own) {f : Fin 4} {i : Nat} {x : UInt32} (hd : decode cc pc = .ok (.fstore_n f, 1)) (hi : (f : Nat) = i) (hn : i < nL) (hf : (i, Value.float x) :: lv.filter (fun q => !(q.1 == i) && !(q.1 + 1 == i && q.2.category == 2)) = lv') (k : vV p l e R s m args below meth c A D nL kc ks Q w (pc + 1) lv' st) : vV p l e R s m args below meth c A D nL kc ks Q w pc lv (.float x :: st) := fun H locs ls hP hD hS hl => lv_fstore_n C.1 C.2.1 hd hi hl hn hf (fun ls' hl' => k H locs ls' hP hD hS hl')
theorem vi_fstore (C : vC E p l s m args meth c A D tys cc nL own) {i : Nat} {x : UInt32} (hd : decode cc pc = .ok (.fstore i, 2)) (hn : i < nL) (hf : (i, Value.float x) :: lv.filter (fun q => !(q.1 == i) && !(q.1 + 1 == i && q.2.category == 2)) = lv') (k : vV p l e R s m args below meth c A D nL kc ks Q w (pc + 2) lv' st) : vV p l e R s m args below meth c A D nL kc ks Q w pc lv (.float x :: st) := fun H locs ls hP hD hS hl => lv_fstore C.1 C.2.1 hd hl hn hf (fun ls' hl' => k H locs ls' hP hD hS hl')
theorem vi_dload_n (C : vC E p l s m args meth c A D tys cc nL own) {i : Fin 4} {x : UInt64} (j : Nat) (hd : decode cc pc = .ok (.dload_n i, 1)) (hj : lv[j]? = some ((i : Nat), Value.double x)) (k : vV p l e R s m args below meth c A D nL kc ks Q w (pc + 1) lv (.double x :: st)) : vV p l e R s m args below meth c A D nL kc ks Q w pc lv st := fun H locs ls hP hD hS hl => lv_dload_n C.1 C.2.1 hd rfl (lv_at hl j hj) (k H locs ls hP hD hS hl)
theorem vi_dload (C : vC E p l s m args meth c A D tys cc nL own) {i : Nat} {x : UInt64} (j : Nat) (hd : decode cc pc = .ok (.dload i, 2)) (hj : lv[j]? = some (i, Value.double x)) (k : vV p l e R s m args below meth c A D nL kc ks Q w (pc + 2) lv (.double x :: st)) : vV p l e R s m args below meth c A D nL kc ks Q w pc lv st := fun H locs ls hP hD hS hl => lv_dload C.1 C.2.1 hd (lv_at hl j hj) (k H locs ls hP hD hS hl)
theorem vi_dstore_n (C : vC E p l s m args meth c A D tys cc nL own) {f : Fin 4} {i : Nat} {x : UInt64} (hd : decode cc pc = .ok (.dstore_n f, 1)) (hi : (f : Nat) = i) (hn : i + 1 < nL) (hf : (i, Value.double x) :: lv.filter (fun q => !(q.1 == i) && (!(q.1 == i + 1) && !(q.1 + 1 == i && q.2.category == 2))) = lv') (k : vV p l e R s m args below meth c A D nL kc ks Q w (pc + 1) lv' st) : vV p l e R s m args below meth c A D nL kc ks Q w pc lv (.double x :: st) := fun H locs ls hP hD hS hl => lv_dstore_n C.1 C.2.1 hd hi hl hn hf (fun ls' hl' => k H locs ls' hP hD hS hl')
theorem vi_dstore (C : vC E p l s m args meth c A D tys cc nL own) {i : Nat} {x : UInt64} (hd : decode cc pc = .ok (.dstore i, 2)) (hn : i + 1 < nL) (hf : (i, Value.double x) :: lv.filter (fun q => !(q.1 == i) && (!(q.1 == i + 1) && !(q.1 + 1 == i && q.2.category == 2))) = lv') (k : vV p l e R s m args below meth c A D nL kc ks Q w (pc + 2) lv' st) : vV p l e R s m args below meth c A D nL kc ks Q w pc lv (.double x :: st) := fun H locs ls hP hD hS hl => lv_dstore C.1 C.2.1 hd hl hn hf (fun ls' hl' => k H locs ls' hP hD hS hl')
theorem vi_aload_n (C : vC E p l s m args meth c A D tys cc nL own) {i : Fin 4} {x : Nat} (j : Nat) (hd : decode cc pc = .ok (.aload_n i, 1)) (hj : lv[j]? = some ((i : Nat), Value.ref x)) (k : vV p l e R s m args below meth c A D nL kc ks Q w (pc + 1) lv (.ref x :: st)) : vV p l e R s m args below meth c A D nL kc ks Q w pc lv st := fun H locs ls hP hD hS hl => lv_aload_n C.1 C.2.1 hd rfl (lv_at hl j hj) (k H locs ls hP hD hS hl)
theorem vi_aload (C : vC E p l s m args meth c A D tys cc nL own) {i : Nat} {x : Nat} (j : Nat) (hd : decode cc pc = .ok (.aload i, 2)) (hj : lv[j]? = some (i, Value.ref x)) (k : vV p l e R s m args below meth c A D nL kc ks Q w (pc + 2) lv (.ref x :: st)) : vV p l e R s m args below meth c A D nL kc ks Q w pc lv st := fun H locs ls hP hD hS hl => lv_aload C.1 C.2.1 hd (lv_at hl j hj) (k H locs ls hP hD hS hl)
theorem vi_astore_n (C : vC E p l s m args meth c A D tys cc nL own) {f : Fin 4} {i : Nat} {x : Nat} (hd : decode cc pc = .ok (.astore_n f, 1)) (hi : (f : Nat) = i) (hn : i < nL) (hf : (i, Value.ref x) :: lv.filter (fun q => !(q.1 == i) && !(q.1 + 1 == i && q.2.category == 2)) = lv') (k : vV p l e R s m args below meth c A D nL kc ks Q w (pc + 1) lv' st) : vV p l e R s m args below meth c A D nL kc ks Q w pc lv (.ref x :: st) := fun H locs ls hP hD hS hl => lv_astore_n C.1 C.2.1 hd hi hl hn hf (fun ls' hl' => k H locs ls' hP hD hS hl')
theorem vi_astore (C : vC E p l s m args meth c A D tys cc nL own) {i : Nat} {x : Nat} (hd : decode cc pc = .ok (.astore i, 2)) (hn : i < nL) (hf : (i, Value.ref x) :: lv.filter (fun q => !(q.1 == i) && !(q.1 + 1 == i && q.2.category == 2)) = lv') (k : vV p l e R s m args below meth c A D nL kc ks Q w (pc + 2) lv' st) : vV p l e R s m args below meth c A D nL kc ks Q w pc lv (.ref x :: st) := fun H locs ls hP hD hS hl => lv_astore C.1 C.2.1 hd hl hn hf (fun ls' hl' => k H locs ls' hP hD hS hl')
theorem vi_iinc (C : vC E p l s m args meth c A D tys cc nL own) {i : Nat} {n : Int} {x v : Int32} (j : Nat) (hd : decode cc pc = .ok (.iinc i n, 3)) (hj : lv[j]? = some (i, .int x)) (hv : x + Int32.ofInt n = v) (hn : i < nL) (hf : (i, Value.int v) :: lv.filter (fun q => !(q.1 == i) && !(q.1 + 1 == i && q.2.category == 2)) = lv') (k : vV p l e R s m args below meth c A D nL kc ks Q w (pc + 3) lv' st) : vV p l e R s m args below meth c A D nL kc ks Q w pc lv st := fun H locs ls hP hD hS hl => lv_iinc C.1 C.2.1 hd hl hj hv hn hf (fun ls' hl' => k H locs ls' hP hD hS hl')
theorem vi_iadd (C : vC E p l s m args meth c A D tys cc nL own) {x y : Int32} (hd : decode cc pc = .ok (.iadd, 1)) (k : vV p l e R s m args below meth c A D nL kc ks Q w (pc + 1) lv (.int (x + y) :: st)) : vV p l e R s m args below meth c A D nL kc ks Q w pc lv (.int y :: .int x :: st) := fun H locs ls hP hD hS hl => lv_iadd C.1 C.2.1 hd (k H locs ls hP hD hS hl)
theorem vi_isub (C : vC E p l s m args meth c A D tys cc nL own) {x y : Int32} (hd : decode cc pc = .ok (.isub, 1)) (k : vV p l e R s m args below meth c A D nL kc ks Q w (pc + 1) lv (.int (x - y) :: st)) : vV p l e R s m args below meth c A D nL kc ks Q w pc lv (.int y :: .int x :: st) := fun H locs ls hP hD hS hl => lv_isub C.1 C.2.1 hd (k H locs ls hP hD hS hl)
theorem vi_imul (C : vC E p l s m args meth c A D tys cc nL own) {x y : Int32} (hd : decode cc pc = .ok (.imul, 1)) (k : vV p l e R s m args below meth c A D nL kc ks Q w (pc + 1) lv (.int (x * y) :: st)) : vV p l e R s m args below meth c A D nL kc ks Q w pc lv (.int y :: .int x :: st) := fun H locs ls hP hD hS hl => lv_imul C.1 C.2.1 hd (k H locs ls hP hD hS hl)
theorem vi_iand (C : vC E p l s m args meth c A D tys cc nL own) {x y : Int32} (hd : decode cc pc = .ok (.iand, 1)) (k : vV p l e R s m args below meth c A D nL kc ks Q w (pc + 1) lv (.int (x &&& y) :: st)) : vV p l e R s m args below meth c A D nL kc ks Q w pc lv (.int y :: .int x :: st) := fun H locs ls hP hD hS hl => lv_iand C.1 C.2.1 hd (k H locs ls hP hD hS hl)
theorem vi_ior (C : vC E p l s m args meth c A D tys cc nL own) {x y : Int32} (hd : decode cc pc = .ok (.ior, 1)) (k : vV p l e R s m args below meth c A D nL kc ks Q w (pc + 1) lv (.int (x ||| y) :: st)) : vV p l e R s m args below meth c A D nL kc ks Q w pc lv (.int y :: .int x :: st) := fun H locs ls hP hD hS hl => lv_ior C.1 C.2.1 hd (k H locs ls hP hD hS hl)
theorem vi_ixor (C : vC E p l s m args meth c A D tys cc nL own) {x y : Int32} (hd : decode cc pc = .ok (.ixor, 1)) (k : vV p l e R s m args below meth c A D nL kc ks Q w (pc + 1) lv (.int (x ^^^ y) :: st)) : vV p l e R s m args below meth c A D nL kc ks Q w pc lv (.int y :: .int x :: st) := fun H locs ls hP hD hS hl => lv_ixor C.1 C.2.1 hd (k H locs ls hP hD hS hl)
theorem vi_ishl (C : vC E p l s m args meth c A D tys cc nL own) {x y : Int32} (hd : decode cc pc = .ok (.ishl, 1)) (k : vV p l e R s m args below meth c A D nL kc ks Q w (pc + 1) lv (.int (x <<< (y &&& 31)) :: st)) : vV p l e R s m args below meth c A D nL kc ks Q w pc lv (.int y :: .int x :: st) := fun H locs ls hP hD hS hl => lv_ishl C.1 C.2.1 hd (k H locs ls hP hD hS hl)
theorem vi_ishr (C : vC E p l s m args meth c A D tys cc nL own) {x y : Int32} (hd : decode cc pc = .ok (.ishr, 1)) (k : vV p l e R s m args below meth c A D nL kc ks Q w (pc + 1) lv (.int (x >>> (y &&& 31)) :: st)) : vV p l e R s m args below meth c A D nL kc ks Q w pc lv (.int y :: .int x :: st) := fun H locs ls hP hD hS hl => lv_ishr C.1 C.2.1 hd (k H locs ls hP hD hS hl)
theorem vi_idiv (C : vC E p l s m args meth c A D tys cc nL own) {x y : Int32} (hd : decode cc pc = .ok (.idiv, 1)) (hne : ¬ y = 0) (k : vV p l e R s m args below meth c A D nL kc ks Q w (pc + 1) lv (.int (x / y) :: st)) : vV p l e R s m args below meth c A D nL kc ks Q w pc lv (.int y :: .int x :: st) := fun H locs ls hP hD hS hl => lv_idiv C.1 C.2.1 hd hne (k H locs ls hP hD hS hl)
theorem vi_irem (C : vC E p l s m args meth c A D tys cc nL own) {x y : Int32} (hd : decode cc pc = .ok (.irem, 1)) (hne : ¬ y = 0) (k : vV p l e R s m args below meth c A D nL kc ks Q w (pc + 1) lv (.int (x - x / y * y) :: st)) : vV p l e R s m args below meth c A D nL kc ks Q w pc lv (.int y :: .int x :: st) := fun H locs ls hP hD hS hl => lv_irem C.1 C.2.1 hd hne (k H locs ls hP hD hS hl)
theorem vi_ladd (C : vC E p l s m args meth c A D tys cc nL own) {x y : Int64} (hd : decode cc pc = .ok (.ladd, 1)) (k : vV p l e R s m args below meth c A D nL kc ks Q w (pc + 1) lv (.long (x + y) :: st)) : vV p l e R s m args below meth c A D nL kc ks Q w pc lv (.long y :: .long x :: st) := fun H locs ls hP hD hS hl => lv_ladd C.1 C.2.1 hd (k H locs ls hP hD hS hl)
theorem vi_lsub (C : vC E p l s m args meth c A D tys cc nL own) {x y : Int64} (hd : decode cc pc = .ok (.lsub, 1)) (k : vV p l e R s m args below meth c A D nL kc ks Q w (pc + 1) lv (.long (x - y) :: st)) : vV p l e R s m args below meth c A D nL kc ks Q w pc lv (.long y :: .long x :: st) := fun H locs ls hP hD hS hl => lv_lsub C.1 C.2.1 hd (k H locs ls hP hD hS hl)
theorem vi_lor (C : vC E p l s m args meth c A D tys cc nL own) {x y : Int64} (hd : decode cc pc = .ok (.lor, 1)) (k : vV p l e R s m args below meth c A D nL kc ks Q w (pc + 1) lv (.long (x ||| y) :: st)) : vV p l e R s m args below meth c A D nL kc ks Q w pc lv (.long y :: .long x :: st) := fun H locs ls hP hD hS hl => lv_lor C.1 C.2.1 hd (k H locs ls hP hD hS hl)
theorem vi_ldiv (C : vC E p l s m args meth c A D tys cc nL own) {x y : Int64} (hd : decode cc pc = .ok (.ldiv, 1)) (hne : ¬ y = 0) (k : vV p l e R s m args below meth c A D nL kc ks Q w (pc + 1) lv (.long (x / y) :: st)) : vV p l e R s m args below meth c A D nL kc ks Q w pc lv (.long y :: .long x :: st) := fun H locs ls hP hD hS hl => lv_ldiv C.1 C.2.1 hd hne (k H locs ls hP hD hS hl)
theorem vi_lrem (C : vC E p l s m args meth c A D tys cc nL own) {x y : Int64} (hd : decode cc pc = .ok (.lrem, 1)) (hne : ¬ y = 0) (k : vV p l e R s m args below meth c A D nL kc ks Q w (pc + 1) lv (.long (x - x / y * y) :: st)) : vV p l e R s m args below meth c A D nL kc ks Q w pc lv (.long y :: .long x :: st) := fun H locs ls hP hD hS hl => lv_lrem C.1 C.2.1 hd hne (k H locs ls hP hD hS hl)
theorem vi_fadd (C : vC E p l s m args meth c A D tys cc nL own) {x y : UInt32} (hd : decode cc pc = .ok (.fadd, 1)) (hne : vf_n32 (FP.fadd x y)) (k : vV p l e R s m args below meth c A D nL kc ks Q w (pc + 1) lv (.float (FP.fadd x y) :: st)) : vV p l e R s m args below meth c A D nL kc ks Q w pc lv (.float y :: .float x :: st) := fun H locs ls hP hD hS hl => lv_fadd C.1 C.2.1 hd hne (k H locs ls hP hD hS hl)
theorem vi_fsub (C : vC E p l s m args meth c A D tys cc nL own) {x y : UInt32} (hd : decode cc pc = .ok (.fsub, 1)) (hne : vf_n32 (FP.fsub x y)) (k : vV p l e R s m args below meth c A D nL kc ks Q w (pc + 1) lv (.float (FP.fsub x y) :: st)) : vV p l e R s m args below meth c A D nL kc ks Q w pc lv (.float y :: .float x :: st) := fun H locs ls hP hD hS hl => lv_fsub C.1 C.2.1 hd hne (k H locs ls hP hD hS hl)
theorem vi_fmul (C : vC E p l s m args meth c A D tys cc nL own) {x y : UInt32} (hd : decode cc pc = .ok (.fmul, 1)) (hne : vf_n32 (FP.fmul x y)) (k : vV p l e R s m args below meth c A D nL kc ks Q w (pc + 1) lv (.float (FP.fmul x y) :: st)) : vV p l e R s m args below meth c A D nL kc ks Q w pc lv (.float y :: .float x :: st) := fun H locs ls hP hD hS hl => lv_fmul C.1 C.2.1 hd hne (k H locs ls hP hD hS hl)
theorem vi_fdiv (C : vC E p l s m args meth c A D tys cc nL own) {x y : UInt32} (hd : decode cc pc = .ok (.fdiv, 1)) (hne : vf_n32 (FP.fdiv x y)) (k : vV p l e R s m args below meth c A D nL kc ks Q w (pc + 1) lv (.float (FP.fdiv x y) :: st)) : vV p l e R s m args below meth c A D nL kc ks Q w pc lv (.float y :: .float x :: st) := fun H locs ls hP hD hS hl => lv_fdiv C.1 C.2.1 hd hne (k H locs ls hP hD hS hl)
theorem vi_ddiv (C : vC E p l s m args meth c A D tys cc nL own) {x y : UInt64} (hd : decode cc pc = .ok (.ddiv, 1)) (hne : vf_n64 (FP.ddiv x y)) (k : vV p l e R s m args below meth c A D nL kc ks Q w (pc + 1) lv (.double (FP.ddiv x y) :: st)) : vV p l e R s m args below meth c A D nL kc ks Q w pc lv (.double y :: .double x :: st) := fun H locs ls hP hD hS hl => lv_ddiv C.1 C.2.1 hd hne (k H locs ls hP hD hS hl)
theorem vi_lshl (C : vC E p l s m args meth c A D tys cc nL own) {x : Int64} {y : Int32} (hd : decode cc pc = .ok (.lshl, 1)) (k : vV p l e R s m args below meth c A D nL kc ks Q w (pc + 1) lv (.long (x <<< (y.toInt64 &&& 63)) :: st)) : vV p l e R s m args below meth c A D nL kc ks Q w pc lv (.int y :: .long x :: st) := fun H locs ls hP hD hS hl => lv_lshl C.1 C.2.1 hd rfl (k H locs ls hP hD hS hl)
theorem vi_lcmp (C : vC E p l s m args meth c A D tys cc nL own) {x y : Int64} (hd : decode cc pc = .ok (.lcmp, 1)) (k : vV p l e R s m args below meth c A D nL kc ks Q w (pc + 1) lv (.int (lg_cmp x y) :: st)) : vV p l e R s m args below meth c A D nL kc ks Q w pc lv (.long y :: .long x :: st) := fun H locs ls hP hD hS hl => W.lcmp C.1 C.2.1 hd (k H locs ls hP hD hS hl)
theorem vi_ineg (C : vC E p l s m args meth c A D tys cc nL own) {x : Int32} (hd : decode cc pc = .ok (.ineg, 1)) (k : vV p l e R s m args below meth c A D nL kc ks Q w (pc + 1) lv (.int (-x) :: st)) : vV p l e R s m args below meth c A D nL kc ks Q w pc lv (.int x :: st) := fun H locs ls hP hD hS hl => lv_ineg C.1 C.2.1 hd (k H locs ls hP hD hS hl)
theorem vi_lneg (C : vC E p l s m args meth c A D tys cc nL own) {x : Int64} (hd : decode cc pc = .ok (.lneg, 1)) (k : vV p l e R s m args below meth c A D nL kc ks Q w (pc + 1) lv (.long (-x) :: st)) : vV p l e R s m args below meth c A D nL kc ks Q w pc lv (.long x :: st) := fun H locs ls hP hD hS hl => lv_lneg C.1 C.2.1 hd (k H locs ls hP hD hS hl)
theorem vi_fneg (C : vC E p l s m args meth c A D tys cc nL own) {x : UInt32} (hd : decode cc pc = .ok (.fneg, 1)) (k : vV p l e R s m args below meth c A D nL kc ks Q w (pc + 1) lv (.float (FP.fneg x) :: st)) : vV p l e R s m args below meth c A D nL kc ks Q w pc lv (.float x :: st) := fun H locs ls hP hD hS hl => lv_fneg C.1 C.2.1 hd (k H locs ls hP hD hS hl)
theorem vi_i2l (C : vC E p l s m args meth c A D tys cc nL own) {x : Int32} (hd : decode cc pc = .ok (.i2l, 1)) (k : vV p l e R s m args below meth c A D nL kc ks Q w (pc + 1) lv (.long (x.toInt64) :: st)) : vV p l e R s m args below meth c A D nL kc ks Q w pc lv (.int x :: st) := fun H locs ls hP hD hS hl => lv_i2l C.1 C.2.1 hd rfl (k H locs ls hP hD hS hl)
theorem vi_l2i (C : vC E p l s m args meth c A D tys cc nL own) {x : Int64} (hd : decode cc pc = .ok (.l2i, 1)) (k : vV p l e R s m args below meth c A D nL kc ks Q w (pc + 1) lv (.int (x.toInt32) :: st)) : vV p l e R s m args below meth c A D nL kc ks Q w pc lv (.long x :: st) := fun H locs ls hP hD hS hl => lv_l2i C.1 C.2.1 hd rfl (k H locs ls hP hD hS hl)
theorem vi_i2c (C : vC E p l s m args meth c A D tys cc nL own) {x : Int32} (hd : decode cc pc = .ok (.i2c, 1)) (k : vV p l e R s m args below meth c A D nL kc ks Q w (pc + 1) lv (.int ((x.toUInt32 % 65536).toInt32) :: st)) : vV p l e R s m args below meth c A D nL kc ks Q w pc lv (.int x :: st) := fun H locs ls hP hD hS hl => lv_i2c C.1 C.2.1 hd rfl (k H locs ls hP hD hS hl)
theorem vi_i2f (C : vC E p l s m args meth c A D tys cc nL own) {x : Int32} (hd : decode cc pc = .ok (.i2f, 1)) (k : vV p l e R s m args below meth c A D nL kc ks Q w (pc + 1) lv (.float (FP.i2f x) :: st)) : vV p l e R s m args below meth c A D nL kc ks Q w pc lv (.int x :: st) := fun H locs ls hP hD hS hl => lv_i2f C.1 C.2.1 hd (k H locs ls hP hD hS hl)
theorem vi_f2i (C : vC E p l s m args meth c A D tys cc nL own) {x : UInt32} (hd : decode cc pc = .ok (.f2i, 1)) (k : vV p l e R s m args below meth c A D nL kc ks Q w (pc + 1) lv (.int (FP.f2i x) :: st)) : vV p l e R s m args below meth c A D nL kc ks Q w pc lv (.float x :: st) := fun H locs ls hP hD hS hl => lv_f2i C.1 C.2.1 hd (k H locs ls hP hD hS hl)
theorem vi_i2d (C : vC E p l s m args meth c A D tys cc nL own) {x : Int32} (hd : decode cc pc = .ok (.i2d, 1)) (k : vV p l e R s m args below meth c A D nL kc ks Q w (pc + 1) lv (.double (FP.i2d x) :: st)) : vV p l e R s m args below meth c A D nL kc ks Q w pc lv (.int x :: st) := fun H locs ls hP hD hS hl => lv_i2d C.1 C.2.1 hd (k H locs ls hP hD hS hl)
theorem vi_f2d (C : vC E p l s m args meth c A D tys cc nL own) {x : UInt32} (hd : decode cc pc = .ok (.f2d, 1)) (hne : vf_n64 (FP.f2d x)) (k : vV p l e R s m args below meth c A D nL kc ks Q w (pc + 1) lv (.double (FP.f2d x) :: st)) : vV p l e R s m args below meth c A D nL kc ks Q w pc lv (.float x :: st) := fun H locs ls hP hD hS hl => lv_f2d C.1 C.2.1 hd hne (k H locs ls hP hD hS hl)
theorem vi_fcmp (C : vC E p l s m args meth c A D tys cc nL own) {x y : UInt32} {op : CmpOp} (hd : decode cc pc = .ok (.fcmp op, 1)) (k : vV p l e R s m args below meth c A D nL kc ks Q w (pc + 1) lv (.int (Op.cmpValue (FP.fcmp x y) op) :: st)) : vV p l e R s m args below meth c A D nL kc ks Q w pc lv (.float y :: .float x :: st) := fun H locs ls hP hD hS hl => lv_fcmp C.1 C.2.1 hd (k H locs ls hP hD hS hl)
theorem vi_dcmp (C : vC E p l s m args meth c A D tys cc nL own) {x y : UInt64} {op : CmpOp} (hd : decode cc pc = .ok (.dcmp op, 1)) (k : vV p l e R s m args below meth c A D nL kc ks Q w (pc + 1) lv (.int (Op.cmpValue (FP.dcmp x y) op) :: st)) : vV p l e R s m args below meth c A D nL kc ks Q w pc lv (.double y :: .double x :: st) := fun H locs ls hP hD hS hl => lv_dcmp C.1 C.2.1 hd (k H locs ls hP hD hS hl)
theorem vi_dup (C : vC E p l s m args meth c A D tys cc nL own) {va : Value} (hd : decode cc pc = .ok (.dup, 1)) (hc : va.category = 1) (k : vV p l e R s m args below meth c A D nL kc ks Q w (pc + 1) lv (va :: va :: st)) : vV p l e R s m args below meth c A D nL kc ks Q w pc lv (va :: st) := fun H locs ls hP hD hS hl => lv_dup C.1 C.2.1 hd hc (k H locs ls hP hD hS hl)
theorem vi_dup2 (C : vC E p l s m args meth c A D tys cc nL own) {va vb : Value} (hd : decode cc pc = .ok (.dup2, 1)) (hc : va.category = 1) (hc2 : vb.category = 1) (k : vV p l e R s m args below meth c A D nL kc ks Q w (pc + 1) lv (va :: vb :: va :: vb :: st)) : vV p l e R s m args below meth c A D nL kc ks Q w pc lv (va :: vb :: st) := fun H locs ls hP hD hS hl => lv_dup2_11 C.1 C.2.1 hd hc hc2 (k H locs ls hP hD hS hl)
theorem vi_if_eq (C : vC E p l s m args meth c A D tys cc nL own) {x : Int32} {off : Int} {tgt : Nat} (hd : decode cc pc = .ok (.ifCond .eq off, 3)) (ht : (pc : Int) + off = (tgt : Int)) (kt : x = 0 → vV p l e R s m args below meth c A D nL kc ks Q w tgt lv st) (kf : ¬ x = 0 → vV p l e R s m args below meth c A D nL kc ks Q w (pc + 3) lv st) : vV p l e R s m args below meth c A D nL kc ks Q w pc lv (.int x :: st) := fun H locs ls hP hD hS hl => lv_if_eq C.1 C.2.1 hd ht (fun z => kt z H locs ls hP hD hS hl) (fun z => kf z H locs ls hP hD hS hl)
theorem vi_icmp_eq (C : vC E p l s m args meth c A D tys cc nL own) {x y : Int32} {off : Int} {tgt : Nat} (hd : decode cc pc = .ok (.if_icmp .eq off, 3)) (ht : (pc : Int) + off = (tgt : Int)) (kt : x = y → vV p l e R s m args below meth c A D nL kc ks Q w tgt lv st) (kf : ¬ x = y → vV p l e R s m args below meth c A D nL kc ks Q w (pc + 3) lv st) : vV p l e R s m args below meth c A D nL kc ks Q w pc lv (.int y :: .int x :: st) := fun H locs ls hP hD hS hl => lv_icmp_eq C.1 C.2.1 hd ht (fun z => kt z H locs ls hP hD hS hl) (fun z => kf z H locs ls hP hD hS hl)
theorem vi_if_ne (C : vC E p l s m args meth c A D tys cc nL own) {x : Int32} {off : Int} {tgt : Nat} (hd : decode cc pc = .ok (.ifCond .ne off, 3)) (ht : (pc : Int) + off = (tgt : Int)) (kt : ¬ x = 0 → vV p l e R s m args below meth c A D nL kc ks Q w tgt lv st) (kf : x = 0 → vV p l e R s m args below meth c A D nL kc ks Q w (pc + 3) lv st) : vV p l e R s m args below meth c A D nL kc ks Q w pc lv (.int x :: st) := fun H locs ls hP hD hS hl => lv_if_ne C.1 C.2.1 hd ht (fun z => kt z H locs ls hP hD hS hl) (fun z => kf z H locs ls hP hD hS hl)
theorem vi_icmp_ne (C : vC E p l s m args meth c A D tys cc nL own) {x y : Int32} {off : Int} {tgt : Nat} (hd : decode cc pc = .ok (.if_icmp .ne off, 3)) (ht : (pc : Int) + off = (tgt : Int)) (kt : ¬ x = y → vV p l e R s m args below meth c A D nL kc ks Q w tgt lv st) (kf : x = y → vV p l e R s m args below meth c A D nL kc ks Q w (pc + 3) lv st) : vV p l e R s m args below meth c A D nL kc ks Q w pc lv (.int y :: .int x :: st) := fun H locs ls hP hD hS hl => lv_icmp_ne C.1 C.2.1 hd ht (fun z => kt z H locs ls hP hD hS hl) (fun z => kf z H locs ls hP hD hS hl)
theorem vi_if_lt (C : vC E p l s m args meth c A D tys cc nL own) {x : Int32} {off : Int} {tgt : Nat} (hd : decode cc pc = .ok (.ifCond .lt off, 3)) (ht : (pc : Int) + off = (tgt : Int)) (kt : x < 0 → vV p l e R s m args below meth c A D nL kc ks Q w tgt lv st) (kf : ¬ x < 0 → vV p l e R s m args below meth c A D nL kc ks Q w (pc + 3) lv st) : vV p l e R s m args below meth c A D nL kc ks Q w pc lv (.int x :: st) := fun H locs ls hP hD hS hl => lv_if_lt C.1 C.2.1 hd ht (fun z => kt z H locs ls hP hD hS hl) (fun z => kf z H locs ls hP hD hS hl)
theorem vi_icmp_lt (C : vC E p l s m args meth c A D tys cc nL own) {x y : Int32} {off : Int} {tgt : Nat} (hd : decode cc pc = .ok (.if_icmp .lt off, 3)) (ht : (pc : Int) + off = (tgt : Int)) (kt : x < y → vV p l e R s m args below meth c A D nL kc ks Q w tgt lv st) (kf : ¬ x < y → vV p l e R s m args below meth c A D nL kc ks Q w (pc + 3) lv st) : vV p l e R s m args below meth c A D nL kc ks Q w pc lv (.int y :: .int x :: st) := fun H locs ls hP hD hS hl => lv_icmp_lt C.1 C.2.1 hd ht (fun z => kt z H locs ls hP hD hS hl) (fun z => kf z H locs ls hP hD hS hl)
theorem vi_if_ge (C : vC E p l s m args meth c A D tys cc nL own) {x : Int32} {off : Int} {tgt : Nat} (hd : decode cc pc = .ok (.ifCond .ge off, 3)) (ht : (pc : Int) + off = (tgt : Int)) (kt : 0 ≤ x → vV p l e R s m args below meth c A D nL kc ks Q w tgt lv st) (kf : ¬ 0 ≤ x → vV p l e R s m args below meth c A D nL kc ks Q w (pc + 3) lv st) : vV p l e R s m args below meth c A D nL kc ks Q w pc lv (.int x :: st) := fun H locs ls hP hD hS hl => lv_if_ge C.1 C.2.1 hd ht (fun z => kt z H locs ls hP hD hS hl) (fun z => kf z H locs ls hP hD hS hl)
theorem vi_icmp_ge (C : vC E p l s m args meth c A D tys cc nL own) {x y : Int32} {off : Int} {tgt : Nat} (hd : decode cc pc = .ok (.if_icmp .ge off, 3)) (ht : (pc : Int) + off = (tgt : Int)) (kt : y ≤ x → vV p l e R s m args below meth c A D nL kc ks Q w tgt lv st) (kf : ¬ y ≤ x → vV p l e R s m args below meth c A D nL kc ks Q w (pc + 3) lv st) : vV p l e R s m args below meth c A D nL kc ks Q w pc lv (.int y :: .int x :: st) := fun H locs ls hP hD hS hl => lv_icmp_ge C.1 C.2.1 hd ht (fun z => kt z H locs ls hP hD hS hl) (fun z => kf z H locs ls hP hD hS hl)
theorem vi_if_gt (C : vC E p l s m args meth c A D tys cc nL own) {x : Int32} {off : Int} {tgt : Nat} (hd : decode cc pc = .ok (.ifCond .gt off, 3)) (ht : (pc : Int) + off = (tgt : Int)) (kt : 0 < x → vV p l e R s m args below meth c A D nL kc ks Q w tgt lv st) (kf : ¬ 0 < x → vV p l e R s m args below meth c A D nL kc ks Q w (pc + 3) lv st) : vV p l e R s m args below meth c A D nL kc ks Q w pc lv (.int x :: st) := fun H locs ls hP hD hS hl => lv_if_gt C.1 C.2.1 hd ht (fun z => kt z H locs ls hP hD hS hl) (fun z => kf z H locs ls hP hD hS hl)
theorem vi_icmp_gt (C : vC E p l s m args meth c A D tys cc nL own) {x y : Int32} {off : Int} {tgt : Nat} (hd : decode cc pc = .ok (.if_icmp .gt off, 3)) (ht : (pc : Int) + off = (tgt : Int)) (kt : y < x → vV p l e R s m args below meth c A D nL kc ks Q w tgt lv st) (kf : ¬ y < x → vV p l e R s m args below meth c A D nL kc ks Q w (pc + 3) lv st) : vV p l e R s m args below meth c A D nL kc ks Q w pc lv (.int y :: .int x :: st) := fun H locs ls hP hD hS hl => lv_icmp_gt C.1 C.2.1 hd ht (fun z => kt z H locs ls hP hD hS hl) (fun z => kf z H locs ls hP hD hS hl)
theorem vi_if_le (C : vC E p l s m args meth c A D tys cc nL own) {x : Int32} {off : Int} {tgt : Nat} (hd : decode cc pc = .ok (.ifCond .le off, 3)) (ht : (pc : Int) + off = (tgt : Int)) (kt : x ≤ 0 → vV p l e R s m args below meth c A D nL kc ks Q w tgt lv st) (kf : ¬ x ≤ 0 → vV p l e R s m args below meth c A D nL kc ks Q w (pc + 3) lv st) : vV p l e R s m args below meth c A D nL kc ks Q w pc lv (.int x :: st) := fun H locs ls hP hD hS hl => lv_if_le C.1 C.2.1 hd ht (fun z => kt z H locs ls hP hD hS hl) (fun z => kf z H locs ls hP hD hS hl)
theorem vi_icmp_le (C : vC E p l s m args meth c A D tys cc nL own) {x y : Int32} {off : Int} {tgt : Nat} (hd : decode cc pc = .ok (.if_icmp .le off, 3)) (ht : (pc : Int) + off = (tgt : Int)) (kt : x ≤ y → vV p l e R s m args below meth c A D nL kc ks Q w tgt lv st) (kf : ¬ x ≤ y → vV p l e R s m args below meth c A D nL kc ks Q w (pc + 3) lv st) : vV p l e R s m args below meth c A D nL kc ks Q w pc lv (.int y :: .int x :: st) := fun H locs ls hP hD hS hl => lv_icmp_le C.1 C.2.1 hd ht (fun z => kt z H locs ls hP hD hS hl) (fun z => kf z H locs ls hP hD hS hl)
theorem vi_goto (C : vC E p l s m args meth c A D tys cc nL own) {off : Int} {tgt : Nat} (hd : decode cc pc = .ok (.goto off, 3)) (ht : (pc : Int) + off = (tgt : Int)) (k : vV p l e R s m args below meth c A D nL kc ks Q w tgt lv st) : vV p l e R s m args below meth c A D nL kc ks Q w pc lv st := fun H locs ls hP hD hS hl => lv_goto C.1 C.2.1 hd ht (k H locs ls hP hD hS hl)
theorem vi_ifnonnull (C : vC E p l s m args meth c A D tys cc nL own) {x : Nat} {off : Int} {tgt : Nat} (hd : decode cc pc = .ok (.ifnonnull off, 3)) (ht : (pc : Int) + off = (tgt : Int)) (k : vV p l e R s m args below meth c A D nL kc ks Q w tgt lv st) : vV p l e R s m args below meth c A D nL kc ks Q w pc lv (.ref x :: st) := fun H locs ls hP hD hS hl => lv_ifnonnull C.1 C.2.1 hd ht (k H locs ls hP hD hS hl)
theorem vi_ifnonnullN (C : vC E p l s m args meth c A D tys cc nL own) {off : Int} (hd : decode cc pc = .ok (.ifnonnull off, 3)) (k : vV p l e R s m args below meth c A D nL kc ks Q w (pc + 3) lv st) : vV p l e R s m args below meth c A D nL kc ks Q w pc lv (.null :: st) := fun H locs ls hP hD hS hl => lv_ifnonnullN C.1 C.2.1 hd (k H locs ls hP hD hS hl)
theorem vi_tswIn (C : vC E p l s m args meth c A D tys cc nL own) {dflt lo hi : Int} {offs : Array Int} {len : Nat} {x : Int32} {off : Int} {tgt : Nat} (hd : decode cc pc = .ok (.tableswitch dflt lo hi offs, len)) (h1 : ¬ x.toInt < lo) (h2 : ¬ hi < x.toInt) (ho : offs[(x.toInt - lo).toNat]? = some off) (ht : (pc : Int) + off = (tgt : Int)) (k : vV p l e R s m args below meth c A D nL kc ks Q w tgt lv st) : vV p l e R s m args below meth c A D nL kc ks Q w pc lv (.int x :: st) := fun H locs ls hP hD hS hl => lv_tableIn C.1 C.2.1 hd h1 h2 ho ht (k H locs ls hP hD hS hl)
theorem vi_tswOut (C : vC E p l s m args meth c A D tys cc nL own) {dflt lo hi : Int} {offs : Array Int} {len : Nat} {x : Int32} {tgt : Nat} (hd : decode cc pc = .ok (.tableswitch dflt lo hi offs, len)) (h : x.toInt < lo ∨ hi < x.toInt) (ht : (pc : Int) + dflt = (tgt : Int)) (k : vV p l e R s m args below meth c A D nL kc ks Q w tgt lv st) : vV p l e R s m args below meth c A D nL kc ks Q w pc lv (.int x :: st) := fun H locs ls hP hD hS hl => lv_tableOut C.1 C.2.1 hd h ht (k H locs ls hP hD hS hl)
theorem vi_get (C : vC E p l s m args meth c A D tys cc nL own) {a : Nat} {ref Cn : String} {T : u_T} {N ci idx : Nat} {fs : List Value} {v : Value} (q0 f : Nat) (hin : ∀ z ∈ u_ws Cn T N, z ∈ wsL_law) (he : w[q0]? = some (a, .inr (ci, fs))) (hc : vwCl[ci]? = some (Cn, T, N)) (hf : f < N) (hm : Cond.fieldLink own idx ref (T f).2.1 (T f).2.2.1 ∈ wsL_law) (hr : (T f).1 = ref) (hv : fs[f]? = some v) (hd : decode cc pc = .ok (.getfield idx, 3)) (k : vV p l e R s m args below meth c A D nL kc ks Q w (pc + 3) lv (v :: st)) : vV p l e R s m args below meth c A D nL kc ks Q w pc lv (.ref a :: st) := fun H locs ls hP hD hS hl => va_get C.1 C.2.1 C.2.2.2.2.1 hin C.2.2.2.1 C.2.2.2.2.2.1 hP q0 he hc f hf (C.2.2.2.2.1 _ hm) (fun z h => by rw [← hr]; exact h) hv hd (k H locs ls hP hD hS hl)
theorem vi_put (C : vC E p l s m args meth c A D tys cc nL own) {a : Nat} {ref Cn : String} {T : u_T} {N ci idx : Nat} {fs : List Value} {v : Value} {ty : FieldType} {w' : va_W} (q0 f : Nat) (hin : ∀ z ∈ u_ws Cn T N, z ∈ wsL_law) (ty0 : Nat → FieldType) (hty : ∀ k, k < N → parseFieldDescriptor (T k).2.2.1 = some (ty0 k)) (hnm : ∀ a, a < N → ∀ b, b < N → a ≠ b → (T a).2.1 ≠ (T b).2.1) (he : w[q0]? = some (a, .inr (ci, fs))) (hc : vwCl[ci]? = some (Cn, T, N)) (hf : f < N) (hm : Cond.fieldLink own idx ref (T f).2.1 (T f).2.2.1 ∈ wsL_law) (hr : (T f).1 = ref) (hfin : (T f).2.2.2 = false) (hdd : parseFieldDescriptor (T f).2.2.1 = some ty) (hn : narrow ty v = v) (hfit : fits ty v = true) (hl0 : f < fs.length) (hw : w.set q0 (a, .inr (ci, fs.set f v)) = w') (hd : decode cc pc = .ok (.putfield idx, 3)) (k : vV p l e R s m args below meth c A D nL kc ks Q w' (pc + 3) lv st) : vV p l e R s m args below meth c A D nL kc ks Q w pc lv (v :: .ref a :: st) := fun H locs ls hP hD hS hl => va_put C.1 C.2.1 C.2.2.2.2.1 hin ty0 hty hnm C.2.2.2.1 C.2.2.2.2.2.1 hP hD hS q0 he hc f hf (C.2.2.2.2.1 _ hm) (fun z h => by rw [← hr]; exact h) hfin hdd hn hfit hl0 hd (fun H1 locs1 hP1 hD1 hS1 => k H1 locs1 ls (by rw [← hw]; exact hP1) (by rw [← hw]; exact hD1) hS1 hl)
theorem vi_iald (C : vC E p l s m args meth c A D tys cc nL own) {a : Nat} {cA : ClassId} {n : Nat} {f : Nat → Int32} {i : Int32} (q0 t0 : Nat) (ha : w[q0]? = some (a, .inl (cA, n, .inl f))) (ht : tys[t0]? = some (cA, .int)) (hin : ¬ (i < 0 ∨ n ≤ i.toNatClampNeg)) (hd : decode cc pc = .ok (.iaload, 1)) (k : vV p l e R s m args below meth c A D nL kc ks Q w (pc + 1) lv (.int (f i.toNatClampNeg) :: st)) : vV p l e R s m args below meth c A D nL kc ks Q w pc lv (.int i :: .ref a :: st) := fun H locs ls hP hD hS hl => va_iald C.1 C.2.1 C.2.2.2.2.2.1 hP q0 t0 ha ht hin hd (k H locs ls hP hD hS hl)
theorem vi_iast (C : vC E p l s m args meth c A D tys cc nL own) {a : Nat} {cA : ClassId} {n : Nat} {f : Nat → Int32} {i : Int32} {x : Int32} {w' : va_W} (q0 t0 : Nat) (ha : w[q0]? = some (a, .inl (cA, n, .inl f))) (ht : tys[t0]? = some (cA, .int)) (hin : ¬ (i < 0 ∨ n ≤ i.toNatClampNeg)) (hw : w.set q0 (a, .inl (cA, n, .inl (upd f i.toNatClampNeg x))) = w') (hd : decode cc pc = .ok (.iastore, 1)) (k : vV p l e R s m args below meth c A D nL kc ks Q w' (pc + 1) lv st) : vV p l e R s m args below meth c A D nL kc ks Q w pc lv (.int x :: .int i :: .ref a :: st) := fun H locs ls hP hD hS hl => va_iast C.1 C.2.1 C.2.2.2.2.2.1 hP hD hS q0 t0 ha ht hin hd (fun H1 locs1 hP1 hD1 hS1 => k H1 locs1 ls (by rw [← hw]; exact hP1) (by rw [← hw]; exact hD1) hS1 hl)
theorem vi_cald (C : vC E p l s m args meth c A D tys cc nL own) {a : Nat} {cA : ClassId} {n : Nat} {f : Nat → Int32} {i : Int32} (q0 t0 : Nat) (ha : w[q0]? = some (a, .inl (cA, n, .inl f))) (ht : tys[t0]? = some (cA, .char)) (hin : ¬ (i < 0 ∨ n ≤ i.toNatClampNeg)) (hd : decode cc pc = .ok (.caload, 1)) (k : vV p l e R s m args below meth c A D nL kc ks Q w (pc + 1) lv (.int (f i.toNatClampNeg) :: st)) : vV p l e R s m args below meth c A D nL kc ks Q w pc lv (.int i :: .ref a :: st) := fun H locs ls hP hD hS hl => va_cald C.1 C.2.1 C.2.2.2.2.2.1 hP q0 t0 ha ht hin hd (k H locs ls hP hD hS hl)
theorem vi_cast (C : vC E p l s m args meth c A D tys cc nL own) {a : Nat} {cA : ClassId} {n : Nat} {f : Nat → Int32} {i : Int32} {x : Int32} {w' : va_W} (q0 t0 : Nat) (ha : w[q0]? = some (a, .inl (cA, n, .inl f))) (ht : tys[t0]? = some (cA, .char)) (hin : ¬ (i < 0 ∨ n ≤ i.toNatClampNeg)) (hw : w.set q0 (a, .inl (cA, n, .inl (upd f i.toNatClampNeg (vp_nar .char x)))) = w') (hd : decode cc pc = .ok (.castore, 1)) (k : vV p l e R s m args below meth c A D nL kc ks Q w' (pc + 1) lv st) : vV p l e R s m args below meth c A D nL kc ks Q w pc lv (.int x :: .int i :: .ref a :: st) := fun H locs ls hP hD hS hl => va_cast C.1 C.2.1 C.2.2.2.2.2.1 hP hD hS q0 t0 ha ht hin hd (fun H1 locs1 hP1 hD1 hS1 => k H1 locs1 ls (by rw [← hw]; exact hP1) (by rw [← hw]; exact hD1) hS1 hl)
theorem vi_fald (C : vC E p l s m args meth c A D tys cc nL own) {a : Nat} {cA : ClassId} {n : Nat} {f : Nat → UInt32} {i : Int32} (q0 t0 : Nat) (ha : w[q0]? = some (a, .inl (cA, n, .inr (.inr (.inl f))))) (ht : tys[t0]? = some (cA, .float)) (hin : ¬ (i < 0 ∨ n ≤ i.toNatClampNeg)) (hd : decode cc pc = .ok (.faload, 1)) (k : vV p l e R s m args below meth c A D nL kc ks Q w (pc + 1) lv (.float (f i.toNatClampNeg) :: st)) : vV p l e R s m args below meth c A D nL kc ks Q w pc lv (.int i :: .ref a :: st) := fun H locs ls hP hD hS hl => va_fald C.1 C.2.1 C.2.2.2.2.2.1 hP q0 t0 ha ht hin hd (k H locs ls hP hD hS hl)
theorem vi_fast (C : vC E p l s m args meth c A D tys cc nL own) {a : Nat} {cA : ClassId} {n : Nat} {f : Nat → UInt32} {i : Int32} {x : UInt32} {w' : va_W} (q0 t0 : Nat) (ha : w[q0]? = some (a, .inl (cA, n, .inr (.inr (.inl f))))) (ht : tys[t0]? = some (cA, .float)) (hin : ¬ (i < 0 ∨ n ≤ i.toNatClampNeg)) (hw : w.set q0 (a, .inl (cA, n, .inr (.inr (.inl (vf_upd f i.toNatClampNeg x))))) = w') (hd : decode cc pc = .ok (.fastore, 1)) (k : vV p l e R s m args below meth c A D nL kc ks Q w' (pc + 1) lv st) : vV p l e R s m args below meth c A D nL kc ks Q w pc lv (.float x :: .int i :: .ref a :: st) := fun H locs ls hP hD hS hl => va_fast C.1 C.2.1 C.2.2.2.2.2.1 hP hD hS q0 t0 ha ht hin hd (fun H1 locs1 hP1 hD1 hS1 => k H1 locs1 ls (by rw [← hw]; exact hP1) (by rw [← hw]; exact hD1) hS1 hl)
theorem vi_alen (C : vC E p l s m args meth c A D tys cc nL own) {a : Nat} {cA : ClassId} {x : vp_A} {ty : FieldType} {v : Int32} (q0 t0 : Nat) (ha : w[q0]? = some (a, .inl (cA, x))) (ht : tys[t0]? = some (cA, ty)) (hv : Int32.ofNat x.1 = v) (hd : decode cc pc = .ok (.arraylength, 1)) (k : vV p l e R s m args below meth c A D nL kc ks Q w (pc + 1) lv (.int v :: st)) : vV p l e R s m args below meth c A D nL kc ks Q w pc lv (.ref a :: st) := fun H locs ls hP hD hS hl => va_alen C.1 C.2.1 C.2.2.2.2.2.1 hP q0 t0 ha ht hv hd (k H locs ls hP hD hS hl)
theorem vi_sub (C : vC E p l s m args meth c A D tys cc nL own) (is : List Nat) (h : lv_pick lv is = lv') (k : vV p l e R s m args below meth c A D nL kc ks Q w pc lv' st) : vV p l e R s m args below meth c A D nL kc ks Q w pc lv st := fun H locs ls hP hD hS hl => k H locs ls hP hD hS (lv_sub hl is h)
theorem vi_w (C : vC E p l s m args meth c A D tys cc nL own) {w' : va_W} (h : w = w') (k : vV p l e R s m args below meth c A D nL kc ks Q w' pc lv st) : vV p l e R s m args below meth c A D nL kc ks Q w pc lv st := fun H locs ls hP hD hS hl => by subst h; exact k H locs ls hP hD hS hl
theorem vi_runV (C : vC E p l s m args meth c A D tys cc nL own) {y : MethodName} {cd : ByteArray} {mL : Nat} {rt : Option FieldType} {fr lo : Nat} {As rest : List Value} {wc w1 w2 : va_W} {Qk : (Nat → Prop) → Array Value → State → Outcome → State → Prop} {idx : Nat} {b ci N : Nat} {T : u_T} {fs : List Value} (hM : vM E l y cd mL rt fr lo D tys (.ref b :: As) wc Qk) (n : Nat) (hn : As.length = n) (hcode : Cond.code y cd mL rt ∈ wsL_law) (hlink : Cond.methodLink own idx y ∈ wsL_law) (hinst : Cond.instanceMethod y ∈ wsL_law) (hsel : Cond.selects y.cls y y ∈ wsL_law) (hini : Cond.initialized y.cls ∈ wsL_law) (hd : y.cls ≠ "java/lang/invoke/MethodHandle" ∧ y.cls ≠ "java/lang/invoke/VarHandle" ∧ (parseMethodDescriptor y.desc).map (fun d => d.parameters.length) = some n) (hR : fr + 1 ≤ R.frames ∧ 8 + (mL + 11) + lo ≤ R.locals) (hks : kc ≤ R.cells ∧ ks ≤ R.slots) (q0 : Nat) (he : w[q0]? = some (b, .inr (ci, fs))) (hc : vwCl[ci]? = some (y.cls, T, N)) (hw : w = w1 ++ (wc ++ w2)) (hst : st = As.reverse ++ .ref b :: rest) (hcat : (rest.map fun v => v.category).sum ≤ 8) (hdg : decode cc pc = .ok (.invokevirtual idx, 3)) {H : Heap} {locs : List Loc} {ls : Array Slot} (hP : va_P D vwCl w H) (hD : va_D A w) (hS : va_S A s.heap H locs) (hl : lv_has ls nL lv) : va_Run p l e R s m args below meth c H locs kc ks 0 0 (F0 m pc ls st) rest (Qk (va_A wc H.size) (Value.ref b :: As).toArray) (va_A wc H.size) := by
  obtain ⟨hkept, hnar, hmov⟩ := C.2.2.2.2.2.2.2.2.1
  have hF := vfree hw hD hS C.2.2.2.2.2.2.1
  have hE0 := C.2.2.2.2.2.2.2.2.2
  refine va_runV (As := As) (rest := rest) ⟨C.1, C.2.1, C.2.2.1, C.2.2.2.1, C.2.2.2.2.1⟩ (hM H.size) ⟨callB_of n C.2.2.2.2.1 (vT_in hcode) rfl rfl rfl (C.2.2.2.2.1 _ hini) (C.2.2.2.2.1 _ hlink) hd hR, C.2.2.2.2.1 _ hinst, C.2.2.2.2.1 _ hsel⟩ ⟨fun a U g mk q => ?_, va_recv C.2.2.2.2.2.1 hP hc he, fun U hU hW => ?_⟩ rfl hn hl.1 hst (lv_room hcat) hdg ⟨hks.1, hks.2⟩
  · obtain ⟨q0, q1, qP, qK, qD, qE⟩ := q
    exact ⟨q0, q1, qP, va_K.moved (u := U) (U := U.calling g mk a) (Vm.Alike.refl U.vm) qK, qD, hmov _ U (U.calling g mk a) _ (Vm.Alike.refl U.vm) qE⟩
  · refine ⟨rfl, by rw [hU], by rw [hU]; exact vsubP hw hP, va_K.moved hW.alike C.2.2.2.2.2.1, vsubD hw hD, ?_⟩
    rw [hU]
    exact hmov _ s U _ hW.alike (hnar _ _ _ _ (hkept _ _ _ _ hE0 hS.2.1) hF)
theorem vi_callVi (C : vC E p l s m args meth c A D tys cc nL own) {y : MethodName} {cd : ByteArray} {mL : Nat} {rt : Option FieldType} {fr lo : Nat} {As rest : List Value} {wc w1 w2 wd : va_W} {idx : Nat} {b ci N : Nat} {T : u_T} {fs : List Value} {r : Int32} (hM : vM E l y cd mL rt fr lo D tys (.ref b :: As) wc (vQi D wd r)) (n : Nat) (hn : As.length = n) (hcode : Cond.code y cd mL rt ∈ wsL_law) (hlink : Cond.methodLink own idx y ∈ wsL_law) (hinst : Cond.instanceMethod y ∈ wsL_law) (hsel : Cond.selects y.cls y y ∈ wsL_law) (hini : Cond.initialized y.cls ∈ wsL_law) (hd : y.cls ≠ "java/lang/invoke/MethodHandle" ∧ y.cls ≠ "java/lang/invoke/VarHandle" ∧ (parseMethodDescriptor y.desc).map (fun d => d.parameters.length) = some n) (hR : fr + 1 ≤ R.frames ∧ 8 + (mL + 11) + lo ≤ R.locals) (hks : kc ≤ R.cells ∧ ks ≤ R.slots) (q0 : Nat) (he : w[q0]? = some (b, .inr (ci, fs))) (hc : vwCl[ci]? = some (y.cls, T, N)) (hw : w = w1 ++ (wc ++ w2)) (hst : st = As.reverse ++ .ref b :: rest) (hcat : (rest.map fun v => v.category).sum ≤ 8) (hdg : decode cc pc = .ok (.invokevirtual idx, 3)) (had : wd.map Prod.fst = wc.map Prod.fst) (k : vV p l e R s m args below meth c A D nL kc ks Q (w1 ++ (wd ++ w2)) (pc + 3) lv (.int r :: rest)) : vV p l e R s m args below meth c A D nL kc ks Q w pc lv st := fun H locs ls hP hD hS hl => va_calli (vi_runV C hM n hn hcode hlink hinst hsel hini hd hR hks q0 he hc hw hst hcat hdg hP hD hS hl) hS (fun q _ h => vfree hw hD hS C.2.2.2.2.2.2.1 q h) (vfree hw hD hS C.2.2.2.2.2.2.1) (fun r1 u t H1 locs1 ht hvm hr hB hz hk hS1 => by
  subst hr; rw [ht] at hB; obtain ⟨hP1, hD1⟩ := vj hw had hP hD hk hB; exact k H1 locs1 ls hP1 hD1 hS1 hl)
theorem vi_callVl (C : vC E p l s m args meth c A D tys cc nL own) {y : MethodName} {cd : ByteArray} {mL : Nat} {rt : Option FieldType} {fr lo : Nat} {As rest : List Value} {wc w1 w2 wd : va_W} {idx : Nat} {b ci N : Nat} {T : u_T} {fs : List Value} {r : Int64} (hM : vM E l y cd mL rt fr lo D tys (.ref b :: As) wc (vQl D wd r)) (n : Nat) (hn : As.length = n) (hcode : Cond.code y cd mL rt ∈ wsL_law) (hlink : Cond.methodLink own idx y ∈ wsL_law) (hinst : Cond.instanceMethod y ∈ wsL_law) (hsel : Cond.selects y.cls y y ∈ wsL_law) (hini : Cond.initialized y.cls ∈ wsL_law) (hd : y.cls ≠ "java/lang/invoke/MethodHandle" ∧ y.cls ≠ "java/lang/invoke/VarHandle" ∧ (parseMethodDescriptor y.desc).map (fun d => d.parameters.length) = some n) (hR : fr + 1 ≤ R.frames ∧ 8 + (mL + 11) + lo ≤ R.locals) (hks : kc ≤ R.cells ∧ ks ≤ R.slots) (q0 : Nat) (he : w[q0]? = some (b, .inr (ci, fs))) (hc : vwCl[ci]? = some (y.cls, T, N)) (hw : w = w1 ++ (wc ++ w2)) (hst : st = As.reverse ++ .ref b :: rest) (hcat : (rest.map fun v => v.category).sum ≤ 8) (hdg : decode cc pc = .ok (.invokevirtual idx, 3)) (had : wd.map Prod.fst = wc.map Prod.fst) (k : vV p l e R s m args below meth c A D nL kc ks Q (w1 ++ (wd ++ w2)) (pc + 3) lv (.long r :: rest)) : vV p l e R s m args below meth c A D nL kc ks Q w pc lv st := fun H locs ls hP hD hS hl => va_calll (vi_runV C hM n hn hcode hlink hinst hsel hini hd hR hks q0 he hc hw hst hcat hdg hP hD hS hl) hS (fun q _ h => vfree hw hD hS C.2.2.2.2.2.2.1 q h) (vfree hw hD hS C.2.2.2.2.2.2.1) (fun r1 u t H1 locs1 ht hvm hr hB hz hk hS1 => by
  subst hr; rw [ht] at hB; obtain ⟨hP1, hD1⟩ := vj hw had hP hD hk hB; exact k H1 locs1 ls hP1 hD1 hS1 hl)
theorem vi_callVf (C : vC E p l s m args meth c A D tys cc nL own) {y : MethodName} {cd : ByteArray} {mL : Nat} {rt : Option FieldType} {fr lo : Nat} {As rest : List Value} {wc w1 w2 wd : va_W} {idx : Nat} {b ci N : Nat} {T : u_T} {fs : List Value} {r : UInt32} (hM : vM E l y cd mL rt fr lo D tys (.ref b :: As) wc (vQf D wd r)) (n : Nat) (hn : As.length = n) (hcode : Cond.code y cd mL rt ∈ wsL_law) (hlink : Cond.methodLink own idx y ∈ wsL_law) (hinst : Cond.instanceMethod y ∈ wsL_law) (hsel : Cond.selects y.cls y y ∈ wsL_law) (hini : Cond.initialized y.cls ∈ wsL_law) (hd : y.cls ≠ "java/lang/invoke/MethodHandle" ∧ y.cls ≠ "java/lang/invoke/VarHandle" ∧ (parseMethodDescriptor y.desc).map (fun d => d.parameters.length) = some n) (hR : fr + 1 ≤ R.frames ∧ 8 + (mL + 11) + lo ≤ R.locals) (hks : kc ≤ R.cells ∧ ks ≤ R.slots) (q0 : Nat) (he : w[q0]? = some (b, .inr (ci, fs))) (hc : vwCl[ci]? = some (y.cls, T, N)) (hw : w = w1 ++ (wc ++ w2)) (hst : st = As.reverse ++ .ref b :: rest) (hcat : (rest.map fun v => v.category).sum ≤ 8) (hdg : decode cc pc = .ok (.invokevirtual idx, 3)) (had : wd.map Prod.fst = wc.map Prod.fst) (k : vV p l e R s m args below meth c A D nL kc ks Q (w1 ++ (wd ++ w2)) (pc + 3) lv (.float r :: rest)) : vV p l e R s m args below meth c A D nL kc ks Q w pc lv st := fun H locs ls hP hD hS hl => va_callf (vi_runV C hM n hn hcode hlink hinst hsel hini hd hR hks q0 he hc hw hst hcat hdg hP hD hS hl) hS (fun q _ h => vfree hw hD hS C.2.2.2.2.2.2.1 q h) (vfree hw hD hS C.2.2.2.2.2.2.1) (fun r1 u t H1 locs1 ht hvm hr hB hz hk hS1 => by
  subst hr; rw [ht] at hB; obtain ⟨hP1, hD1⟩ := vj hw had hP hD hk hB; exact k H1 locs1 ls hP1 hD1 hS1 hl)
theorem vi_callVd (C : vC E p l s m args meth c A D tys cc nL own) {y : MethodName} {cd : ByteArray} {mL : Nat} {rt : Option FieldType} {fr lo : Nat} {As rest : List Value} {wc w1 w2 wd : va_W} {idx : Nat} {b ci N : Nat} {T : u_T} {fs : List Value} {r : UInt64} (hM : vM E l y cd mL rt fr lo D tys (.ref b :: As) wc (vQd D wd r)) (n : Nat) (hn : As.length = n) (hcode : Cond.code y cd mL rt ∈ wsL_law) (hlink : Cond.methodLink own idx y ∈ wsL_law) (hinst : Cond.instanceMethod y ∈ wsL_law) (hsel : Cond.selects y.cls y y ∈ wsL_law) (hini : Cond.initialized y.cls ∈ wsL_law) (hd : y.cls ≠ "java/lang/invoke/MethodHandle" ∧ y.cls ≠ "java/lang/invoke/VarHandle" ∧ (parseMethodDescriptor y.desc).map (fun d => d.parameters.length) = some n) (hR : fr + 1 ≤ R.frames ∧ 8 + (mL + 11) + lo ≤ R.locals) (hks : kc ≤ R.cells ∧ ks ≤ R.slots) (q0 : Nat) (he : w[q0]? = some (b, .inr (ci, fs))) (hc : vwCl[ci]? = some (y.cls, T, N)) (hw : w = w1 ++ (wc ++ w2)) (hst : st = As.reverse ++ .ref b :: rest) (hcat : (rest.map fun v => v.category).sum ≤ 8) (hdg : decode cc pc = .ok (.invokevirtual idx, 3)) (had : wd.map Prod.fst = wc.map Prod.fst) (k : vV p l e R s m args below meth c A D nL kc ks Q (w1 ++ (wd ++ w2)) (pc + 3) lv (.double r :: rest)) : vV p l e R s m args below meth c A D nL kc ks Q w pc lv st := fun H locs ls hP hD hS hl => va_calld (vi_runV C hM n hn hcode hlink hinst hsel hini hd hR hks q0 he hc hw hst hcat hdg hP hD hS hl) hS (fun q _ h => vfree hw hD hS C.2.2.2.2.2.2.1 q h) (vfree hw hD hS C.2.2.2.2.2.2.1) (fun r1 u t H1 locs1 ht hvm hr hB hz hk hS1 => by
  subst hr; rw [ht] at hB; obtain ⟨hP1, hD1⟩ := vj hw had hP hD hk hB; exact k H1 locs1 ls hP1 hD1 hS1 hl)
theorem vi_callVv (C : vC E p l s m args meth c A D tys cc nL own) {y : MethodName} {cd : ByteArray} {mL : Nat} {rt : Option FieldType} {fr lo : Nat} {As rest : List Value} {wc w1 w2 wd : va_W} {idx : Nat} {b ci N : Nat} {T : u_T} {fs : List Value} (hM : vM E l y cd mL rt fr lo D tys (.ref b :: As) wc (vQv D wd)) (n : Nat) (hn : As.length = n) (hcode : Cond.code y cd mL rt ∈ wsL_law) (hlink : Cond.methodLink own idx y ∈ wsL_law) (hinst : Cond.instanceMethod y ∈ wsL_law) (hsel : Cond.selects y.cls y y ∈ wsL_law) (hini : Cond.initialized y.cls ∈ wsL_law) (hd : y.cls ≠ "java/lang/invoke/MethodHandle" ∧ y.cls ≠ "java/lang/invoke/VarHandle" ∧ (parseMethodDescriptor y.desc).map (fun d => d.parameters.length) = some n) (hR : fr + 1 ≤ R.frames ∧ 8 + (mL + 11) + lo ≤ R.locals) (hks : kc ≤ R.cells ∧ ks ≤ R.slots) (q0 : Nat) (he : w[q0]? = some (b, .inr (ci, fs))) (hc : vwCl[ci]? = some (y.cls, T, N)) (hw : w = w1 ++ (wc ++ w2)) (hst : st = As.reverse ++ .ref b :: rest) (hcat : (rest.map fun v => v.category).sum ≤ 8) (hdg : decode cc pc = .ok (.invokevirtual idx, 3)) (had : wd.map Prod.fst = wc.map Prod.fst) (k : vV p l e R s m args below meth c A D nL kc ks Q (w1 ++ (wd ++ w2)) (pc + 3) lv rest) : vV p l e R s m args below meth c A D nL kc ks Q w pc lv st := fun H locs ls hP hD hS hl => va_callv (vi_runV C hM n hn hcode hlink hinst hsel hini hd hR hks q0 he hc hw hst hcat hdg hP hD hS hl) hS (fun q _ h => vfree hw hD hS C.2.2.2.2.2.2.1 q h) (vfree hw hD hS C.2.2.2.2.2.2.1) (fun u t H1 locs1 ht hvm hr hB hz hk hS1 => by
  rw [ht] at hB; obtain ⟨hP1, hD1⟩ := vj hw had hP hD hk hB; exact k H1 locs1 ls hP1 hD1 hS1 hl)
theorem vi_runS (C : vC E p l s m args meth c A D tys cc nL own) {y : MethodName} {cd : ByteArray} {mL : Nat} {rt : Option FieldType} {fr lo : Nat} {As rest : List Value} {wc w1 w2 : va_W} {Qk : (Nat → Prop) → Array Value → State → Outcome → State → Prop} {idx : Nat} (hM : vM E l y cd mL rt fr lo D tys As wc Qk) (n : Nat) (hn : As.length = n) (hcode : Cond.code y cd mL rt ∈ wsL_law) (hlink : Cond.methodLink own idx y ∈ wsL_law) (hstat : Cond.static y ∈ wsL_law) (hini : Cond.initialized y.cls ∈ wsL_law) (hd : y.cls ≠ "java/lang/invoke/MethodHandle" ∧ y.cls ≠ "java/lang/invoke/VarHandle" ∧ (parseMethodDescriptor y.desc).map (fun d => d.parameters.length) = some n) (hR : fr + 1 ≤ R.frames ∧ 8 + (mL + 11) + lo ≤ R.locals) (hks : kc ≤ R.cells ∧ ks ≤ R.slots) (hw : w = w1 ++ (wc ++ w2)) (hst : st = As.reverse ++ rest) (hcat : (rest.map fun v => v.category).sum ≤ 8) (hdg : decode cc pc = .ok (.invokestatic idx, 3)) {H : Heap} {locs : List Loc} {ls : Array Slot} (hP : va_P D vwCl w H) (hD : va_D A w) (hS : va_S A s.heap H locs) (hl : lv_has ls nL lv) : va_Run p l e R s m args below meth c H locs kc ks 0 0 (F0 m pc ls st) rest (Qk (va_A wc H.size) As.toArray) (va_A wc H.size) := by
  obtain ⟨hkept, hnar, hmov⟩ := C.2.2.2.2.2.2.2.2.1
  have hF := vfree hw hD hS C.2.2.2.2.2.2.1
  have hE0 := C.2.2.2.2.2.2.2.2.2
  refine va_runS (As := As) (rest := rest) ⟨C.1, C.2.1, C.2.2.1, C.2.2.2.1, C.2.2.2.2.1⟩ (hM H.size) ⟨callB_of n C.2.2.2.2.1 (vT_in hcode) rfl rfl rfl (C.2.2.2.2.1 _ hini) (C.2.2.2.2.1 _ hlink) hd hR, C.2.2.2.2.1 _ hstat⟩ ⟨fun a U g mk q => ?_, fun U hU hW => ?_⟩ rfl hn hl.1 hst (lv_room hcat) hdg ⟨hks.1, hks.2⟩
  · obtain ⟨q0, q1, qP, qK, qD, qE⟩ := q
    exact ⟨q0, q1, qP, va_K.moved (u := U) (U := U.calling g mk a) (Vm.Alike.refl U.vm) qK, qD, hmov _ U (U.calling g mk a) _ (Vm.Alike.refl U.vm) qE⟩
  · refine ⟨rfl, by rw [hU], by rw [hU]; exact vsubP hw hP, va_K.moved hW.alike C.2.2.2.2.2.1, vsubD hw hD, ?_⟩
    rw [hU]
    exact hmov _ s U _ hW.alike (hnar _ _ _ _ (hkept _ _ _ _ hE0 hS.2.1) hF)
theorem vi_callSi (C : vC E p l s m args meth c A D tys cc nL own) {y : MethodName} {cd : ByteArray} {mL : Nat} {rt : Option FieldType} {fr lo : Nat} {As rest : List Value} {wc w1 w2 wd : va_W} {idx : Nat} {r : Int32} (hM : vM E l y cd mL rt fr lo D tys As wc (vQi D wd r)) (n : Nat) (hn : As.length = n) (hcode : Cond.code y cd mL rt ∈ wsL_law) (hlink : Cond.methodLink own idx y ∈ wsL_law) (hstat : Cond.static y ∈ wsL_law) (hini : Cond.initialized y.cls ∈ wsL_law) (hd : y.cls ≠ "java/lang/invoke/MethodHandle" ∧ y.cls ≠ "java/lang/invoke/VarHandle" ∧ (parseMethodDescriptor y.desc).map (fun d => d.parameters.length) = some n) (hR : fr + 1 ≤ R.frames ∧ 8 + (mL + 11) + lo ≤ R.locals) (hks : kc ≤ R.cells ∧ ks ≤ R.slots) (hw : w = w1 ++ (wc ++ w2)) (hst : st = As.reverse ++ rest) (hcat : (rest.map fun v => v.category).sum ≤ 8) (hdg : decode cc pc = .ok (.invokestatic idx, 3)) (had : wd.map Prod.fst = wc.map Prod.fst) (k : vV p l e R s m args below meth c A D nL kc ks Q (w1 ++ (wd ++ w2)) (pc + 3) lv (.int r :: rest)) : vV p l e R s m args below meth c A D nL kc ks Q w pc lv st := fun H locs ls hP hD hS hl => va_calli (vi_runS C hM n hn hcode hlink hstat hini hd hR hks hw hst hcat hdg hP hD hS hl) hS (fun q _ h => vfree hw hD hS C.2.2.2.2.2.2.1 q h) (vfree hw hD hS C.2.2.2.2.2.2.1) (fun r1 u t H1 locs1 ht hvm hr hB hz hk hS1 => by
  subst hr; rw [ht] at hB; obtain ⟨hP1, hD1⟩ := vj hw had hP hD hk hB; exact k H1 locs1 ls hP1 hD1 hS1 hl)
theorem vi_callSl (C : vC E p l s m args meth c A D tys cc nL own) {y : MethodName} {cd : ByteArray} {mL : Nat} {rt : Option FieldType} {fr lo : Nat} {As rest : List Value} {wc w1 w2 wd : va_W} {idx : Nat} {r : Int64} (hM : vM E l y cd mL rt fr lo D tys As wc (vQl D wd r)) (n : Nat) (hn : As.length = n) (hcode : Cond.code y cd mL rt ∈ wsL_law) (hlink : Cond.methodLink own idx y ∈ wsL_law) (hstat : Cond.static y ∈ wsL_law) (hini : Cond.initialized y.cls ∈ wsL_law) (hd : y.cls ≠ "java/lang/invoke/MethodHandle" ∧ y.cls ≠ "java/lang/invoke/VarHandle" ∧ (parseMethodDescriptor y.desc).map (fun d => d.parameters.length) = some n) (hR : fr + 1 ≤ R.frames ∧ 8 + (mL + 11) + lo ≤ R.locals) (hks : kc ≤ R.cells ∧ ks ≤ R.slots) (hw : w = w1 ++ (wc ++ w2)) (hst : st = As.reverse ++ rest) (hcat : (rest.map fun v => v.category).sum ≤ 8) (hdg : decode cc pc = .ok (.invokestatic idx, 3)) (had : wd.map Prod.fst = wc.map Prod.fst) (k : vV p l e R s m args below meth c A D nL kc ks Q (w1 ++ (wd ++ w2)) (pc + 3) lv (.long r :: rest)) : vV p l e R s m args below meth c A D nL kc ks Q w pc lv st := fun H locs ls hP hD hS hl => va_calll (vi_runS C hM n hn hcode hlink hstat hini hd hR hks hw hst hcat hdg hP hD hS hl) hS (fun q _ h => vfree hw hD hS C.2.2.2.2.2.2.1 q h) (vfree hw hD hS C.2.2.2.2.2.2.1) (fun r1 u t H1 locs1 ht hvm hr hB hz hk hS1 => by
  subst hr; rw [ht] at hB; obtain ⟨hP1, hD1⟩ := vj hw had hP hD hk hB; exact k H1 locs1 ls hP1 hD1 hS1 hl)
theorem vi_callSf (C : vC E p l s m args meth c A D tys cc nL own) {y : MethodName} {cd : ByteArray} {mL : Nat} {rt : Option FieldType} {fr lo : Nat} {As rest : List Value} {wc w1 w2 wd : va_W} {idx : Nat} {r : UInt32} (hM : vM E l y cd mL rt fr lo D tys As wc (vQf D wd r)) (n : Nat) (hn : As.length = n) (hcode : Cond.code y cd mL rt ∈ wsL_law) (hlink : Cond.methodLink own idx y ∈ wsL_law) (hstat : Cond.static y ∈ wsL_law) (hini : Cond.initialized y.cls ∈ wsL_law) (hd : y.cls ≠ "java/lang/invoke/MethodHandle" ∧ y.cls ≠ "java/lang/invoke/VarHandle" ∧ (parseMethodDescriptor y.desc).map (fun d => d.parameters.length) = some n) (hR : fr + 1 ≤ R.frames ∧ 8 + (mL + 11) + lo ≤ R.locals) (hks : kc ≤ R.cells ∧ ks ≤ R.slots) (hw : w = w1 ++ (wc ++ w2)) (hst : st = As.reverse ++ rest) (hcat : (rest.map fun v => v.category).sum ≤ 8) (hdg : decode cc pc = .ok (.invokestatic idx, 3)) (had : wd.map Prod.fst = wc.map Prod.fst) (k : vV p l e R s m args below meth c A D nL kc ks Q (w1 ++ (wd ++ w2)) (pc + 3) lv (.float r :: rest)) : vV p l e R s m args below meth c A D nL kc ks Q w pc lv st := fun H locs ls hP hD hS hl => va_callf (vi_runS C hM n hn hcode hlink hstat hini hd hR hks hw hst hcat hdg hP hD hS hl) hS (fun q _ h => vfree hw hD hS C.2.2.2.2.2.2.1 q h) (vfree hw hD hS C.2.2.2.2.2.2.1) (fun r1 u t H1 locs1 ht hvm hr hB hz hk hS1 => by
  subst hr; rw [ht] at hB; obtain ⟨hP1, hD1⟩ := vj hw had hP hD hk hB; exact k H1 locs1 ls hP1 hD1 hS1 hl)
theorem vi_callSd (C : vC E p l s m args meth c A D tys cc nL own) {y : MethodName} {cd : ByteArray} {mL : Nat} {rt : Option FieldType} {fr lo : Nat} {As rest : List Value} {wc w1 w2 wd : va_W} {idx : Nat} {r : UInt64} (hM : vM E l y cd mL rt fr lo D tys As wc (vQd D wd r)) (n : Nat) (hn : As.length = n) (hcode : Cond.code y cd mL rt ∈ wsL_law) (hlink : Cond.methodLink own idx y ∈ wsL_law) (hstat : Cond.static y ∈ wsL_law) (hini : Cond.initialized y.cls ∈ wsL_law) (hd : y.cls ≠ "java/lang/invoke/MethodHandle" ∧ y.cls ≠ "java/lang/invoke/VarHandle" ∧ (parseMethodDescriptor y.desc).map (fun d => d.parameters.length) = some n) (hR : fr + 1 ≤ R.frames ∧ 8 + (mL + 11) + lo ≤ R.locals) (hks : kc ≤ R.cells ∧ ks ≤ R.slots) (hw : w = w1 ++ (wc ++ w2)) (hst : st = As.reverse ++ rest) (hcat : (rest.map fun v => v.category).sum ≤ 8) (hdg : decode cc pc = .ok (.invokestatic idx, 3)) (had : wd.map Prod.fst = wc.map Prod.fst) (k : vV p l e R s m args below meth c A D nL kc ks Q (w1 ++ (wd ++ w2)) (pc + 3) lv (.double r :: rest)) : vV p l e R s m args below meth c A D nL kc ks Q w pc lv st := fun H locs ls hP hD hS hl => va_calld (vi_runS C hM n hn hcode hlink hstat hini hd hR hks hw hst hcat hdg hP hD hS hl) hS (fun q _ h => vfree hw hD hS C.2.2.2.2.2.2.1 q h) (vfree hw hD hS C.2.2.2.2.2.2.1) (fun r1 u t H1 locs1 ht hvm hr hB hz hk hS1 => by
  subst hr; rw [ht] at hB; obtain ⟨hP1, hD1⟩ := vj hw had hP hD hk hB; exact k H1 locs1 ls hP1 hD1 hS1 hl)
theorem vi_callSv (C : vC E p l s m args meth c A D tys cc nL own) {y : MethodName} {cd : ByteArray} {mL : Nat} {rt : Option FieldType} {fr lo : Nat} {As rest : List Value} {wc w1 w2 wd : va_W} {idx : Nat} (hM : vM E l y cd mL rt fr lo D tys As wc (vQv D wd)) (n : Nat) (hn : As.length = n) (hcode : Cond.code y cd mL rt ∈ wsL_law) (hlink : Cond.methodLink own idx y ∈ wsL_law) (hstat : Cond.static y ∈ wsL_law) (hini : Cond.initialized y.cls ∈ wsL_law) (hd : y.cls ≠ "java/lang/invoke/MethodHandle" ∧ y.cls ≠ "java/lang/invoke/VarHandle" ∧ (parseMethodDescriptor y.desc).map (fun d => d.parameters.length) = some n) (hR : fr + 1 ≤ R.frames ∧ 8 + (mL + 11) + lo ≤ R.locals) (hks : kc ≤ R.cells ∧ ks ≤ R.slots) (hw : w = w1 ++ (wc ++ w2)) (hst : st = As.reverse ++ rest) (hcat : (rest.map fun v => v.category).sum ≤ 8) (hdg : decode cc pc = .ok (.invokestatic idx, 3)) (had : wd.map Prod.fst = wc.map Prod.fst) (k : vV p l e R s m args below meth c A D nL kc ks Q (w1 ++ (wd ++ w2)) (pc + 3) lv rest) : vV p l e R s m args below meth c A D nL kc ks Q w pc lv st := fun H locs ls hP hD hS hl => va_callv (vi_runS C hM n hn hcode hlink hstat hini hd hR hks hw hst hcat hdg hP hD hS hl) hS (fun q _ h => vfree hw hD hS C.2.2.2.2.2.2.1 q h) (vfree hw hD hS C.2.2.2.2.2.2.1) (fun u t H1 locs1 ht hvm hr hB hz hk hS1 => by
  rw [ht] at hB; obtain ⟨hP1, hD1⟩ := vj hw had hP hD hk hB; exact k H1 locs1 ls hP1 hD1 hS1 hl)
theorem vi_reti (C : vC E p l s m args meth c A D tys cc nL own) {r : Int32} (hr : meth.sig.returnType = some .int) : ∀ (pc : Nat) (lv : List (Nat × Value)), decode cc pc = .ok (.ireturn, 1) → vV p l e R s m args below meth c A D nL kc ks (MQ below (vQi D w r A) args s kc ks A) w pc lv [.int r] := fun pc lv hd H locs ls hP hD hS hl => W.iret C.1 C.2.1 hr (fun t ht hW => ⟨⟨r, (), rfl, rfl, by show va_P D vwCl w t.heap; rw [ht]; exact hP⟩, hS.F ht⟩) hS.2.2 hd C.2.2.2.2.2.2.2.1
theorem vi_retl (C : vC E p l s m args meth c A D tys cc nL own) {r : Int64} (hr : meth.sig.returnType = some .long) : ∀ (pc : Nat) (lv : List (Nat × Value)), decode cc pc = .ok (.lreturn, 1) → vV p l e R s m args below meth c A D nL kc ks (MQ below (vQl D w r A) args s kc ks A) w pc lv [.long r] := fun pc lv hd H locs ls hP hD hS hl => W.lret C.1 C.2.1 hr (fun t ht hW => ⟨⟨r, (), rfl, rfl, by show va_P D vwCl w t.heap; rw [ht]; exact hP⟩, hS.F ht⟩) hS.2.2 hd C.2.2.2.2.2.2.2.1
theorem vi_retf (C : vC E p l s m args meth c A D tys cc nL own) {r : UInt32} (hr : meth.sig.returnType = some .float) : ∀ (pc : Nat) (lv : List (Nat × Value)), decode cc pc = .ok (.freturn, 1) → vV p l e R s m args below meth c A D nL kc ks (MQ below (vQf D w r A) args s kc ks A) w pc lv [.float r] := fun pc lv hd H locs ls hP hD hS hl => W.fret C.1 C.2.1 hr (fun t ht hW => ⟨⟨r, (), rfl, rfl, by show va_P D vwCl w t.heap; rw [ht]; exact hP⟩, hS.F ht⟩) hS.2.2 hd C.2.2.2.2.2.2.2.1
theorem vi_retd (C : vC E p l s m args meth c A D tys cc nL own) {r : UInt64} (hr : meth.sig.returnType = some .double) : ∀ (pc : Nat) (lv : List (Nat × Value)), decode cc pc = .ok (.dreturn, 1) → vV p l e R s m args below meth c A D nL kc ks (MQ below (vQd D w r A) args s kc ks A) w pc lv [.double r] := fun pc lv hd H locs ls hP hD hS hl => W.dret C.1 C.2.1 hr (fun t ht hW => ⟨⟨r, (), rfl, rfl, by show va_P D vwCl w t.heap; rw [ht]; exact hP⟩, hS.F ht⟩) hS.2.2 hd C.2.2.2.2.2.2.2.1
theorem vi_retz (C : vC E p l s m args meth c A D tys cc nL own) {r : Int32} {ty : FieldType} (hr : meth.sig.returnType = some ty) (hn : narrow ty (.int r) = .int r) : ∀ (pc : Nat) (lv : List (Nat × Value)), decode cc pc = .ok (.ireturn, 1) → vV p l e R s m args below meth c A D nL kc ks (MQ below (vQi D w r A) args s kc ks A) w pc lv [.int r] := fun pc lv hd H locs ls hP hD hS hl => W.zret C.1 C.2.1 hr hn (fun t ht hW => ⟨⟨r, (), rfl, rfl, by show va_P D vwCl w t.heap; rw [ht]; exact hP⟩, hS.F ht⟩) hS.2.2 hd C.2.2.2.2.2.2.2.1
theorem vi_retv (C : vC E p l s m args meth c A D tys cc nL own) (hr : meth.sig.returnType = none) : ∀ (pc : Nat) (lv : List (Nat × Value)), decode cc pc = .ok (.return_, 1) → vV p l e R s m args below meth c A D nL kc ks (MQ below (vQv D w A) args s kc ks A) w pc lv [] := fun pc lv hd H locs ls hP hD hS hl => W.vret C.1 C.2.1 hr (fun t ht hW => ⟨⟨(), rfl, trivial, by show va_P D vwCl w t.heap; rw [ht]; exact hP⟩, hS.F ht⟩) hS.2.2 hd C.2.2.2.2.2.2.2.1
end VB
end
