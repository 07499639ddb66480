theorem vtl_0 : Cond.laysStatic "MoodSextant$Form" (vnm.getD 0 "") "LMoodSextant$Form;" ∈ lw_tbl := List.mem_of_getElem? (i := 249) (by decide +kernel)
theorem vtl_1 : Cond.laysStatic "MoodSextant$Form" (vnm.getD 1 "") "LMoodSextant$Form;" ∈ lw_tbl := List.mem_of_getElem? (i := 371) (by decide +kernel)
theorem vtl_2 : Cond.laysStatic "MoodSextant$Form" (vnm.getD 2 "") "LMoodSextant$Form;" ∈ lw_tbl := List.mem_of_getElem? (i := 404) (by decide +kernel)
theorem vtl_3 : Cond.laysStatic "MoodSextant$Form" (vnm.getD 3 "") "LMoodSextant$Form;" ∈ lw_tbl := List.mem_of_getElem? (i := 673) (by decide +kernel)
theorem vtl_4 : Cond.laysStatic "MoodSextant$Form" (vnm.getD 4 "") "LMoodSextant$Form;" ∈ lw_tbl := List.mem_of_getElem? (i := 680) (by decide +kernel)
theorem vtl_5 : Cond.laysStatic "MoodSextant$Form" (vnm.getD 5 "") "LMoodSextant$Form;" ∈ lw_tbl := List.mem_of_getElem? (i := 380) (by decide +kernel)
theorem vtl_6 : Cond.laysStatic "MoodSextant$Form" (vnm.getD 6 "") "LMoodSextant$Form;" ∈ lw_tbl := List.mem_of_getElem? (i := 389) (by decide +kernel)
theorem vtl_7 : Cond.laysStatic "MoodSextant$Form" (vnm.getD 7 "") "LMoodSextant$Form;" ∈ lw_tbl := List.mem_of_getElem? (i := 398) (by decide +kernel)
theorem vtl_8 : Cond.laysStatic "MoodSextant$Form" (vnm.getD 8 "") "LMoodSextant$Form;" ∈ lw_tbl := List.mem_of_getElem? (i := 586) (by decide +kernel)
theorem vtl_9 : Cond.laysStatic "MoodSextant$Form" (vnm.getD 9 "") "LMoodSextant$Form;" ∈ lw_tbl := List.mem_of_getElem? (i := 686) (by decide +kernel)
theorem vtl_sw : Cond.laysStatic "MoodSextant$1" "$SwitchMap$MoodSextant$Form" "[I" ∈ lw_tbl := List.mem_of_getElem? (i := 259) (by decide +kernel)
theorem vtl_fo : Cond.laysStatic "MoodSextant" "FORMS" "[LMoodSextant$Form;" ∈ lw_tbl := List.mem_of_getElem? (i := 514) (by decide +kernel)
theorem vtl_co : Cond.laysStatic "java/lang/String" "COMPACT_STRINGS" "Z" ∈ lw_tbl := List.mem_of_getElem? (i := 528) (by decide +kernel)
theorem vtl_si : Cond.laysStatic "jdk/internal/util/Preconditions" "SIOOBE_FORMATTER" "Ljava/util/function/BiFunction;" ∈ lw_tbl := List.mem_of_getElem? (i := 544) (by decide +kernel)
theorem vti_fo : Cond.initialized "MoodSextant$Form" ∈ lw_tbl := List.mem_of_getElem? (i := 35) (by decide +kernel)
theorem vti_sw : Cond.initialized "MoodSextant$1" ∈ lw_tbl := List.mem_of_getElem? (i := 36) (by decide +kernel)
theorem vti_ms : Cond.initialized "MoodSextant" ∈ lw_tbl := List.mem_of_getElem? (i := 22) (by decide +kernel)
theorem vti_st : Cond.initialized "java/lang/String" ∈ lw_tbl := List.mem_of_getElem? (i := 29) (by decide +kernel)
theorem vti_pr : Cond.initialized "jdk/internal/util/Preconditions" ∈ lw_tbl := List.mem_of_getElem? (i := 31) (by decide +kernel)
theorem vao_s : Cond.arrayOver (.object "MoodSextant$Ship") ∈ lw_tbl := List.mem_of_getElem? (i := 128) (by decide +kernel)
theorem vao_f : Cond.arrayOver (.object "MoodSextant$Form") ∈ lw_tbl := List.mem_of_getElem? (i := 167) (by decide +kernel)
theorem vtl_x0 : Cond.laysStatic "java/lang/Integer" "digits" "[C" ∈ lw_tbl := List.mem_of_getElem? (i := 1008) (by decide +kernel)
theorem vtl_x1 : Cond.laysStatic "java/lang/Integer" "DigitTens" "[B" ∈ lw_tbl := List.mem_of_getElem? (i := 773) (by decide +kernel)
theorem vtl_x2 : Cond.laysStatic "java/lang/Integer" "DigitOnes" "[B" ∈ lw_tbl := List.mem_of_getElem? (i := 771) (by decide +kernel)
theorem vti_in : Cond.initialized "java/lang/Integer" ∈ lw_tbl := List.mem_of_getElem? (i := 37) (by decide +kernel)
theorem vsr_0 : Cond.stringRef "MoodSextantLaw" 130 "*" ∈ lw_tbl := List.mem_of_getElem? (i := 1054) (by decide +kernel)
theorem vsr_1 : Cond.stringRef "MoodSextantLaw" 132 "" ∈ lw_tbl := List.mem_of_getElem? (i := 1055) (by decide +kernel)
theorem vsr_2 : Cond.stringRef "MoodSextantLaw" 167 " " ∈ lw_tbl := List.mem_of_getElem? (i := 1100) (by decide +kernel)
theorem vcl_b : Cond.castable "[B" "java/lang/Cloneable" ∈ lw_tbl := List.mem_of_getElem? (i := 756) (by decide +kernel)
theorem vpm_0 : Cond.privateMethod yJ5_newCapacity_0f7a4 ∈ lw_tbl := List.mem_of_getElem? (i := 736) (by decide +kernel)
theorem vpm_1 : Cond.privateMethod yJ5_ensureCapacityInternal_d00df ∈ lw_tbl := List.mem_of_getElem? (i := 732) (by decide +kernel)
theorem vpm_2 : Cond.privateMethod yJ5_inflateIfNeededFor_a7421 ∈ lw_tbl := List.mem_of_getElem? (i := 931) (by decide +kernel)
theorem vpm_3 : Cond.privateMethod yJ5_putStringAt_47b60 ∈ lw_tbl := List.mem_of_getElem? (i := 927) (by decide +kernel)
theorem vac_int : Cond.arrayClass .int ∈ lw_tbl := List.mem_of_getElem? (i := 119) (by decide +kernel)
theorem vac_float : Cond.arrayClass .float ∈ lw_tbl := List.mem_of_getElem? (i := 120) (by decide +kernel)
theorem vac_char : Cond.arrayClass .char ∈ lw_tbl := List.mem_of_getElem? (i := 192) (by decide +kernel)
theorem vac_byte : Cond.arrayClass .byte ∈ lw_tbl := List.mem_of_getElem? (i := 720) (by decide +kernel)
theorem vac_boolean : Cond.arrayClass .boolean ∈ lw_tbl := List.mem_of_getElem? (i := 1149) (by decide +kernel)
theorem vnf_0 : Cond.fieldLinkNest "MoodSextant" 70 "MoodSextant$Ship" "sailors" "I" "MoodSextant" ∈ lw_tbl := List.mem_of_getElem? (i := 59) (by decide +kernel)
theorem vnf_1 : Cond.fieldLinkNest "MoodSextant" 84 "MoodSextant$Ship" "moods" "[I" "MoodSextant" ∈ lw_tbl := List.mem_of_getElem? (i := 61) (by decide +kernel)
theorem vnf_2 : Cond.fieldLinkNest "MoodSextant" 94 "MoodSextant$Ship" "cups" "[I" "MoodSextant" ∈ lw_tbl := List.mem_of_getElem? (i := 63) (by decide +kernel)
theorem vnf_3 : Cond.fieldLinkNest "MoodSextant" 103 "MoodSextant$Ship" "watches" "[I" "MoodSextant" ∈ lw_tbl := List.mem_of_getElem? (i := 65) (by decide +kernel)
theorem vnf_4 : Cond.fieldLinkNest "MoodSextant" 112 "MoodSextant$Ship" "horizons" "[I" "MoodSextant" ∈ lw_tbl := List.mem_of_getElem? (i := 67) (by decide +kernel)
theorem vnf_5 : Cond.fieldLinkNest "MoodSextant" 121 "MoodSextant$Ship" "wrongBy" "I" "MoodSextant" ∈ lw_tbl := List.mem_of_getElem? (i := 69) (by decide +kernel)
theorem vnf_6 : Cond.fieldLinkNest "MoodSextant" 238 "MoodSextant$Ship" "hoursGone" "I" "MoodSextant" ∈ lw_tbl := List.mem_of_getElem? (i := 71) (by decide +kernel)
theorem vnf_7 : Cond.fieldLinkNest "MoodSextant" 127 "MoodSextant$Ship" "sights" "I" "MoodSextant" ∈ lw_tbl := List.mem_of_getElem? (i := 73) (by decide +kernel)
theorem vnf_8 : Cond.fieldLinkNest "MoodSextant" 169 "MoodSextant$Ship" "sighted" "[I" "MoodSextant" ∈ lw_tbl := List.mem_of_getElem? (i := 75) (by decide +kernel)
theorem vnf_9 : Cond.fieldLinkNest "MoodSextant" 172 "MoodSextant$Ship" "sightHours" "[I" "MoodSextant" ∈ lw_tbl := List.mem_of_getElem? (i := 77) (by decide +kernel)
theorem vnf_10 : Cond.fieldLinkNest "MoodSextant" 175 "MoodSextant$Ship" "readings" "[F" "MoodSextant" ∈ lw_tbl := List.mem_of_getElem? (i := 79) (by decide +kernel)
theorem vnf_11 : Cond.fieldLinkNest "MoodSextant" 241 "MoodSextant$Ship" "taken" "I" "MoodSextant" ∈ lw_tbl := List.mem_of_getElem? (i := 81) (by decide +kernel)
theorem vnf_12 : Cond.fieldLinkNest "MoodSextant" 244 "MoodSextant$Ship" "given" "I" "MoodSextant" ∈ lw_tbl := List.mem_of_getElem? (i := 83) (by decide +kernel)
theorem vnf_13 : Cond.fieldLinkNest "MoodSextant" 247 "MoodSextant$Ship" "drunk" "I" "MoodSextant" ∈ lw_tbl := List.mem_of_getElem? (i := 85) (by decide +kernel)
theorem vnf_14 : Cond.fieldLinkNest "MoodSextant" 250 "MoodSextant$Ship" "ashore" "I" "MoodSextant" ∈ lw_tbl := List.mem_of_getElem? (i := 87) (by decide +kernel)
theorem vnf_15 : Cond.fieldLinkNest "MoodSextant" 256 "MoodSextant$History" "kept" "I" "MoodSextant" ∈ lw_tbl := List.mem_of_getElem? (i := 133) (by decide +kernel)
theorem vnf_16 : Cond.fieldLinkNest "MoodSextant" 307 "MoodSextant$Reasons" "numbers" "[I" "MoodSextant" ∈ lw_tbl := List.mem_of_getElem? (i := 148) (by decide +kernel)
theorem vnf_17 : Cond.fieldLinkNest "MoodSextant" 304 "MoodSextant$Reasons" "details" "[I" "MoodSextant" ∈ lw_tbl := List.mem_of_getElem? (i := 150) (by decide +kernel)
theorem vnf_18 : Cond.fieldLinkNest "MoodSextant" 301 "MoodSextant$Reasons" "depth" "I" "MoodSextant" ∈ lw_tbl := List.mem_of_getElem? (i := 152) (by decide +kernel)
theorem vnf_19 : Cond.fieldLinkNest "MoodSextant" 253 "MoodSextant$Text" "length" "I" "MoodSextant" ∈ lw_tbl := List.mem_of_getElem? (i := 170) (by decide +kernel)
theorem vnf_20 : Cond.fieldLinkNest "MoodSextant" 342 "MoodSextant$Text" "forms" "[LMoodSextant$Form;" "MoodSextant" ∈ lw_tbl := List.mem_of_getElem? (i := 172) (by decide +kernel)
theorem vnf_21 : Cond.fieldLinkNest "MoodSextant" 346 "MoodSextant$Text" "whos" "[I" "MoodSextant" ∈ lw_tbl := List.mem_of_getElem? (i := 174) (by decide +kernel)
theorem vnf_22 : Cond.fieldLinkNest "MoodSextant" 349 "MoodSextant$Text" "values" "[I" "MoodSextant" ∈ lw_tbl := List.mem_of_getElem? (i := 176) (by decide +kernel)
theorem vnf_23 : Cond.fieldLinkNest "MoodSextant" 297 "MoodSextant$Text" "commands" "I" "MoodSextant" ∈ lw_tbl := List.mem_of_getElem? (i := 178) (by decide +kernel)
theorem vnf_24 : Cond.fieldLinkNest "MoodSextant" 274 "MoodSextant$Line" "signs" "[C" "MoodSextant" ∈ lw_tbl := List.mem_of_getElem? (i := 200) (by decide +kernel)
theorem vnf_25 : Cond.fieldLinkNest "MoodSextant" 273 "MoodSextant$Line" "length" "I" "MoodSextant" ∈ lw_tbl := List.mem_of_getElem? (i := 202) (by decide +kernel)
theorem vnf_26 : Cond.fieldLinkNest "MoodSextant$Text" 56 "MoodSextant" "FORMS" "[LMoodSextant$Form;" "MoodSextant" ∈ lw_tbl := List.mem_of_getElem? (i := 513) (by decide +kernel)
theorem vnf_27 : Cond.fieldLinkNest "MoodSextant$Text" 47 "MoodSextant$Form" "shape" "Ljava/lang/String;" "MoodSextant" ∈ lw_tbl := List.mem_of_getElem? (i := 1202) (by decide +kernel)
theorem vnq_0 : Cond.methodLinkNest "MoodSextant" 31 ⟨"MoodSextant$Reasons", "<init>", "()V"⟩ "MoodSextant" ∈ lw_tbl := List.mem_of_getElem? (i := 143) (by decide +kernel)
theorem vnq_1 : Cond.methodLinkNest "MoodSextant" 38 ⟨"MoodSextant$Text", "<init>", "()V"⟩ "MoodSextant" ∈ lw_tbl := List.mem_of_getElem? (i := 162) (by decide +kernel)
theorem vnq_2 : Cond.methodLinkNest "MoodSextant" 45 ⟨"MoodSextant$Line", "<init>", "()V"⟩ "MoodSextant" ∈ lw_tbl := List.mem_of_getElem? (i := 195) (by decide +kernel)
theorem vfm {α : Type} {p : α → Prop} {a : α} {l : List α} (h1 : p a) (h2 : ∀ x ∈ l, p x) : ∀ x ∈ a :: l, p x := List.forall_mem_cons.mpr ⟨h1, h2⟩
theorem vfn {α : Type} {p : α → Prop} : ∀ x ∈ ([] : List α), p x := fun _ h => absurd h List.not_mem_nil
theorem vnests {args : Array Value} {s : State} (hts : ∀ w ∈ lw_tbl, w.before args s = true) : vNs s := by
  constructor
  · exact (vfm (hts _ vnf_0) (vfm (hts _ vnf_1) (vfm (hts _ vnf_2) (vfm (hts _ vnf_3) (vfm (hts _ vnf_4) (vfm (hts _ vnf_5) (vfm (hts _ vnf_6) (vfm (hts _ vnf_7) (vfm (hts _ vnf_8) (vfm (hts _ vnf_9) (vfm (hts _ vnf_10) (vfm (hts _ vnf_11) (vfm (hts _ vnf_12) (vfm (hts _ vnf_13) (vfm (hts _ vnf_14) (vfm (hts _ vnf_15) (vfm (hts _ vnf_16) (vfm (hts _ vnf_17) (vfm (hts _ vnf_18) (vfm (hts _ vnf_19) (vfm (hts _ vnf_20) (vfm (hts _ vnf_21) (vfm (hts _ vnf_22) (vfm (hts _ vnf_23) (vfm (hts _ vnf_24) (vfm (hts _ vnf_25) (vfm (hts _ vnf_26) (vfm (hts _ vnf_27) vfn))))))))))))))))))))))))))))
  · exact (vfm (hts _ vnq_0) (vfm (hts _ vnq_1) (vfm (hts _ vnq_2) vfn)))
theorem vstart {args : Array Value} {s : State} {A : Nat → Prop} (h : (Jvm.Cond.and given_1 narrow_1).before args s = true) (hts : ∀ w ∈ lw_tbl, w.before args s = true) (hA : ∀ a : Nat, a < s.heap.size → ¬ A a) : ∃ (ad adK adV : Nat → Nat) (tS tF : Nat) (tX sK sV : Nat → Nat), vE2 ad adK adV tS tF tX sK sV A s s.heap := by
  have hf : ∀ c ∈ vFL, c.before args s = true := fun c hc => flat_of_before _ h c (by rw [← vFL_eq]; exact hc)
  have hlay : ∀ i, i < vnm.length → (Cond.laysStatic "MoodSextant$Form" (vnm.getD i "") "LMoodSextant$Form;").before args s = true := by
    intro i hi
    match i, hi with
    | 0, _ => exact hts _ vtl_0
    | 1, _ => exact hts _ vtl_1
    | 2, _ => exact hts _ vtl_2
    | 3, _ => exact hts _ vtl_3
    | 4, _ => exact hts _ vtl_4
    | 5, _ => exact hts _ vtl_5
    | 6, _ => exact hts _ vtl_6
    | 7, _ => exact hts _ vtl_7
    | 8, _ => exact hts _ vtl_8
    | 9, _ => exact hts _ vtl_9
    | i + 10, hi => exact absurd hi (by show ¬ i + 10 < 10; omega)
  obtain ⟨ad, hEn, hev⟩ := va_Enof2 (F := [("java/lang/Enum", "ordinal", "I", [0, 1, 2, 3, 4, 5, 6, 7, 8, 9])]) (A := A) hlay (hts _ vti_fo) (fun i hi => hf _ (vf_ex i hi)) (fun q hq i hi => by
    rw [List.mem_singleton] at hq
    subst hq
    have e : ∀ i, i < 10 → nI i = ([0, 1, 2, 3, 4, 5, 6, 7, 8, 9] : List Int32).getD i 0 := by decide
    have h1 := hf _ (vf_or i hi)
    rw [e i hi] at h1
    exact h1) (fun i j hi hj hij => by
    rcases vf_ne i hi j hj hij with h1 | h1
    · exact Or.inl (hf _ h1)
    · exact Or.inr (hf _ h1)) hA
  obtain ⟨adK, adV, hS, hsv⟩ := vk_Sof (N := 10) (tm := vtm) (len := vlen) (byt := vbyt) (A := A) (args := args) (s := s) (by decide) (fun i hi => hf _ (vf_sx i hi)) (fun i hi => hf _ (vf_sc i hi)) (fun i hi => hf _ (vf_sa i hi)) (fun i hi => hf _ (vf_sl i hi)) (fun i hi j hj => hf _ (vf_se i hi j hj)) (fun i j hi hj hij => by
    rcases vf_sn i hi j hj hij with h1 | h1
    · exact Or.inl (hf _ h1)
    · exact Or.inr (hf _ h1)) hA
  have hShape : va_Ef 10 "MoodSextant$Form" "shape" "Ljava/lang/String;" (fun i => .ref (adK i)) ad A s s.heap := va_Efof (nm := vnm) (tm := vtm) (fun i hi => hev i hi) (fun i hi => hf _ (vf_sh i hi)) (fun i hi => hsv i hi) hA
  obtain ⟨tS, hSe, hST⟩ := va_Tof (f := fun i => .int (vsw.getD i 0)) (N := 10) (A := A) (by decide) (hf _ vf_wa.1) (va_eqt (hf _ vf_wa.2.1)) (fun j hj => va_eqt (hf _ (vf_wa.2.2 j hj))) hA
  obtain ⟨tF, hFe, hFT⟩ := va_Tof (f := fun i => .ref (ad i)) (N := 10) (A := A) (by decide) (hf _ vf_fa.1) (va_eqt (hf _ vf_fa.2.1)) (fun j hj => va_eqv (hf _ (vf_fa.2.2 j hj)) (hev j hj)) hA
  obtain ⟨sK, sV, hSL, hsvL⟩ := vk_Sof (N := 3) (tm := vtL) (len := vLlen) (byt := vLbyt) (A := A) (args := args) (s := s) (by decide) (fun i hi => hf _ (vg_sx i hi)) (fun i hi => hf _ (vg_sc i hi)) (fun i hi => hf _ (vg_sa i hi)) (fun i hi => hf _ (vg_sl i hi)) (fun i hi j hj => hf _ (vg_se i hi j hj)) (fun i j hi hj hij => by
    rcases vg_sn i hi j hj hij with h1 | h1
    · exact Or.inl (hf _ h1)
    · exact Or.inr (hf _ h1)) hA
  obtain ⟨t0, hX0, hT0⟩ := va_Tof (f := fun i => .int (vdig.getD i 0)) (N := 36) (A := A) (by decide) (hf _ vg_ta0.1) (va_eqt (hf _ vg_ta0.2)) (fun j hj => va_eqt (hf _ (vg_te0 j hj))) hA
  obtain ⟨t1, hX1, hT1⟩ := va_Tof (f := fun i => .int (nI (48 + i / 10))) (N := 100) (A := A) (by decide) (hf _ vg_ta1.1) (va_eqt (hf _ vg_ta1.2)) (fun j hj => va_eqt (hf _ (vg_te1 j hj))) hA
  obtain ⟨t2, hX2, hT2⟩ := va_Tof (f := fun i => .int (nI (48 + i % 10))) (N := 100) (A := A) (by decide) (hf _ vg_ta2.1) (va_eqt (hf _ vg_ta2.2)) (fun j hj => va_eqt (hf _ (vg_te2 j hj))) hA
  have hEx : vEx (fun i => [t0, t1, t2].getD i 0) sK sV A s s.heap := ⟨⟨va_Zref (hts _ vtl_x0) (hts _ vti_in) hX0 hA, hT0⟩, ⟨va_Zref (hts _ vtl_x1) (hts _ vti_in) hX1 hA, hT1⟩, ⟨va_Zref (hts _ vtl_x2) (hts _ vti_in) hX2 hA, hT2⟩, hSL⟩
  have hRs : vRs sK s := ⟨vk_R.of (hts _ vsr_0) (hsvL 0 (by decide)), vk_R.of (hts _ vsr_1) (hsvL 1 (by decide)), vk_R.of (hts _ vsr_2) (hsvL 2 (by decide)), va_Nw.of rfl (hts _ vcl_b), vfm (va_Nw.of rfl (hts _ vpm_0)) (vfm (va_Nw.of rfl (hts _ vpm_1)) (vfm (va_Nw.of rfl (hts _ vpm_2)) (vfm (va_Nw.of rfl (hts _ vpm_3)) vfn)))⟩
  refine ⟨ad, adK, adV, tS, tF, fun i => [t0, t1, t2].getD i 0, sK, sV, ⟨fun i hi => ⟨(hEn.1 i hi).1, (hEn.1 i hi).2.1, ?_, hShape i hi⟩, hEn.2, hS, ⟨va_Zref (hts _ vtl_sw) (hts _ vti_sw) hSe hA, hST⟩, ⟨va_Zref (hts _ vtl_fo) (hts _ vti_ms) hFe hA, hFT⟩, va_Zof (hts _ vtl_co) (hts _ vti_st) (va_eqi (hf _ vf_co.1)) hA, ⟨va_Zqof (hts _ vtl_si) (hts _ vti_pr) (hf _ vf_co.2) hA, hEx, hRs⟩, vnests hts⟩, va_AO.of (hts _ vao_s), va_AO.of (hts _ vao_f)⟩
  have h1 := (hEn.1 i hi).2.2 _ List.mem_cons_self
  have e : ∀ i, i < 10 → ([0, 1, 2, 3, 4, 5, 6, 7, 8, 9] : List Int32).getD i 0 = nI i := by decide
  simp only [] at h1
  rw [e i hi] at h1
  exact h1
theorem vKstart {args : Array Value} {s : State} (hts : ∀ w ∈ lw_tbl, w.before args s = true) : ∃ (dC : Nat → ClassId) (dI : Nat → Nat → Nat) (cI cF cC cS cO cB cZ : ClassId), va_K (dC, dI) vwCl (vT7 cI cF cC cS cO cB cZ) s := by
  have hw : ∀ w ∈ wsL_law, w.before args s = true := fun w h => hts w (List.mem_filter.mp h).1
  obtain ⟨k0, i0, hk0⟩ := u_known (C := RJ0) (T := TJ0) (N := 4) (n := 4) hw inJ0w (hw _ tinst_J0)
  obtain ⟨k1, i1, hk1⟩ := u_known (C := RJ4) (T := TJ4) (N := 4) (n := 4) hw inJ4w (hw _ tinst_J4)
  obtain ⟨k2, i2, hk2⟩ := u_known (C := RX2) (T := TX2) (N := 3) (n := 3) hw inX2w (hw _ tinst_X2)
  obtain ⟨k3, i3, hk3⟩ := u_known (C := RX3) (T := TX3) (N := 2) (n := 2) hw inX3w (hw _ tinst_X3)
  obtain ⟨k4, i4, hk4⟩ := u_known (C := RX4) (T := TX4) (N := 3) (n := 3) hw inX4w (hw _ tinst_X4)
  obtain ⟨k5, i5, hk5⟩ := u_known (C := RX5) (T := TX5) (N := 15) (n := 15) hw inX5w (hw _ tinst_X5)
  obtain ⟨k6, i6, hk6⟩ := u_known (C := RX6) (T := TX6) (N := 6) (n := 6) hw inX6w (hw _ tinst_X6)
  obtain ⟨k7, i7, hk7⟩ := u_known (C := RX7) (T := TX7) (N := 10) (n := 10) hw inX7w (hw _ tinst_X7)
  obtain ⟨k8, i8, hk8⟩ := u_known (C := RX8) (T := TX8) (N := 1) (n := 1) hw inX8w (hw _ tinst_X8)
  obtain ⟨cI, kcI, ocI, acI, bcI, dcI⟩ := Cond.arrayClass_spec (hts _ vac_int)
  obtain ⟨cF, kcF, ocF, acF, bcF, dcF⟩ := Cond.arrayClass_spec (hts _ vac_float)
  obtain ⟨cC, kcC, ocC, acC, bcC, dcC⟩ := Cond.arrayClass_spec (hts _ vac_char)
  obtain ⟨cB, kcB, ocB, acB, bcB, dcB⟩ := Cond.arrayClass_spec (hts _ vac_byte)
  obtain ⟨cZ, kcZ, ocZ, acZ, bcZ, dcZ⟩ := Cond.arrayClass_spec (hts _ vac_boolean)
  obtain ⟨oS, cS, kS, d1, d2, d3, d4, d5⟩ := Cond.arrayOver_spec (hts _ vao_s)
  obtain ⟨oO, cO, kO, e1, e2, e3, e4, e5⟩ := Cond.arrayOver_spec (hts _ vao_f)
  refine ⟨fun k => [k0, k1, k2, k3, k4, k5, k6, k7, k8].getD k k0, fun k => [i0, i1, i2, i3, i4, i5, i6, i7, i8].getD k i0, cI, cF, cC, cS, cO, cB, cZ, ?_, ?_⟩
  · intro k q hq
    match k, hq with
    | 0, hq => cases hq; exact hk0
    | 1, hq => cases hq; exact hk1
    | 2, hq => cases hq; exact hk2
    | 3, hq => cases hq; exact hk3
    | 4, hq => cases hq; exact hk4
    | 5, hq => cases hq; exact hk5
    | 6, hq => cases hq; exact hk6
    | 7, hq => cases hq; exact hk7
    | 8, hq => cases hq; exact hk8
    | k + 9, hq => simp [vwCl] at hq
  · intro k q hq
    match k, hq with
    | 0, hq => cases hq; exact ⟨fun n z => ⟨(fun k h => by cases h), kcI, bcI, ocI, dcI⟩, acI⟩
    | 1, hq => cases hq; exact ⟨fun n z => ⟨(fun k h => by cases h), kcF, bcF, ocF, dcF⟩, acF⟩
    | 2, hq => cases hq; exact ⟨fun n z => ⟨(fun k h => by cases h), kcC, bcC, ocC, dcC⟩, acC⟩
    | 3, hq => cases hq; exact ⟨fun n z => ⟨(fun k h => by cases h), kS, d3, oS, d4⟩, kS, oS, d3, d4, d1, d5⟩
    | 4, hq => cases hq; exact ⟨fun n z => ⟨(fun k h => by cases h), kO, e3, oO, e4⟩, kO, oO, e3, e4, e1, e5⟩
    | 5, hq => cases hq; exact ⟨fun n z => ⟨(fun k h => by cases h), kcB, bcB, ocB, dcB⟩, acB⟩
    | 6, hq => cases hq; exact ⟨fun n z => ⟨(fun k h => by cases h), kcZ, bcZ, ocZ, dcZ⟩, acZ⟩
    | k + 7, hq => simp [vT7] at hq
set_option maxRecDepth 100000 in
set_option maxHeartbeats 8000000 in
theorem start_open {p : Program} {e : Env} {s : State} {m : MethodId} {below : List Frame} {meth : Method} {c : Code} (l : Launch) {b L : Nat} {xs : Nat → Int32} {u0 : vZ} (hpure : hf_L_law 600000 7302250 L xs vZ0 = some (1, u0)) (C0 : lw_At p s m meth c b L xs) : W p l e room_1 s m #[Value.ref b] below meth c s.heap [] 0 0 (lw_Z below #[Value.ref b] s) (entryFrame m ([Value.ref b] : List Value).toArray 10) := by
  obtain ⟨hx, hb, hr, hml, hown, hts0, hX, hbl, hlocks, hgv⟩ := id C0
  obtain ⟨ad, adK, adV, tS, tF, tX, sK, sV, hE⟩ := vstart (A := fun q : Nat => s.heap.size ≤ q) hgv hts0 (fun a h => by omega)
  obtain ⟨dC, dI, cI, cF, cC, cS, cO, cB, cZ, hK⟩ := vKstart hts0
  have hbA : ¬ (fun q : Nat => s.heap.size ≤ q) b := Nat.not_le.mpr hbl
  have hd0 := Drawn.sameBut.refl s.drawn lw_cs
  have hwT : ∀ w ∈ wsL_law, w.before #[Value.ref b] s = true := fun w h => hts0 w (List.mem_filter.mp h).1
  refine W.base ?_
  have C : vC (vE2 ad adK adV tS tF tX sK sV) p l (s.setDrawn s.drawn) m #[Value.ref b] meth c (fun q : Nat => s.heap.size ≤ q) (dC, dI) (vT7 cI cF cC cS cO cB cZ) cL_law 10 RL := ⟨hx, hb, hml, hown, dr_words hwT _, hK, fun _ h => h, hlocks, vE2_ok ad adK adV tS tF tX sK sV, (vE2_ok ad adK adV tS tF tX sK sV).2.2.2 _ s (s.setDrawn s.drawn) _ rfl hE⟩
  have key : vV p l e room_1 (s.setDrawn s.drawn) m #[Value.ref b] below meth c (fun q : Nat => s.heap.size ≤ q) (dC, dI) 10 0 0 (lw_Z below #[Value.ref b] s) [] 0 [(0, .ref b)] [] := by
    refine vi_new (ci := 7) (fs := [.null, .null, .null, .null, .null, .null, .null, .int 0, .int 0, .int 0]) C inX7w tyX7 tyX7_ok tlcL_18 tinst_X7 tnX7 rfl (by decide +kernel) (Nat.le_of_ble_eq_true rfl) (Nat.le_of_ble_eq_true rfl) dL_law_0 (fun a0 => ?_)
    refine vi_dup C dL_law_3 rfl ?_
    refine vi_callN (w1 := []) C (mX7_init C.2.2.2.2.2.2.2.2.1) tcX7_init tlL_223 tiX7_init tnX7 rfl tdX7_init ⟨Nat.le_of_ble_eq_true rfl, Nat.le_of_ble_eq_true rfl⟩ ⟨Nat.le_of_ble_eq_true rfl, Nat.le_of_ble_eq_true rfl⟩ (Nat.le_of_ble_eq_true rfl) dL_law_4 (fun q1 hq => ?_)
    subst hq
    refine vi_astore_n (lv' := [(1, .ref (q1 0 0)), (0, .ref b)]) C dL_law_7 rfl (by decide) rfl ?_
    exact hk_L_law_e (q0 := q1 0) (qs := q1 1) (qo := q1 2) (qt := q1 3) (qv := q1 4) (qr := q1 5) (qx := q1 6) (ql := q1 7) (qh := fun k => q1 (k + 8)) (mc := 600000) (ms := 7302250) (vC_of2 C) hX hbl hbA (fun q kc ks pc lv hk hd hz => vi_widen (k1 := 600000) (k2 := 7302250) hk.1 hk.2 (fun H locs ls hP hD hS hl => va_forget (fun q hq => hS.2.2 q hq) (lw_ret hd0 hx hb hr hlocks hd))) ⟨by decide, by decide⟩ hpure
  have hl := lv_entry ([.ref b]) (n := 10) (Nat.le_of_ble_eq_true rfl)
  rw [lg_entry_eq]
  exact key s.heap [] _ (fun k q h => by simp at h) ⟨fun i j p q h => by simp at h, fun k q h => by simp at h⟩ va_S.rf hl
