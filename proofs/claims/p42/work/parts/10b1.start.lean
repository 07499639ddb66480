/-! THE START: the statics that the Statement tells of, and the walk up to the law's loop -/
/-- the conditions in a row, made in one go -/
def flatA : Cond → List Cond → List Cond
  | .and a b, k => flatA a (flatA b k)
  | c, k => c :: k
theorem flatA_eq (T : Cond) : ∀ k, flatA T k = flatC T ++ k := by
  induction T with
  | and a b iha ihb =>
    intro k
    rw [flatA, flatC, iha, ihb, List.append_assoc]
  | _ => intro k; rfl
def vFL : List Cond := flatA (Jvm.Cond.and given_1 narrow_1) []
theorem vFL_eq : vFL = flatC (Jvm.Cond.and given_1 narrow_1) := by rw [vFL, flatA_eq, List.append_nil]
theorem vFA_in {i : Nat} {c : Cond} (h : vFL[i]? = some c) : c ∈ vFL := List.mem_of_getElem? h
def vsk : List Nat := [58, 64, 67, 70, 73, 76, 79, 82, 85, 88]
abbrev vtm (i : Nat) : Term := .string "MoodSextant$Form" (vsk.getD i 0)
abbrev vst (i : Nat) : Term := .static "MoodSextant$Form" (vnm.getD i "") "LMoodSextant$Form;"
def xvf_ex : List Nat := [4, 20, 42, 79, 89, 24, 29, 35, 70, 100]
set_option maxRecDepth 100000 in
theorem vf_ex0 : ∀ i, i < 10 → vFL[xvf_ex.getD (i) 0]? = some (Cond.exactly (vst i) "MoodSextant$Form") := by decide +kernel
theorem vf_ex : ∀ i, i < 10 → Cond.exactly (vst i) "MoodSextant$Form" ∈ vFL := fun i hi => vFA_in (vf_ex0 i hi)
def xvf_or : List Nat := [5, 21, 43, 80, 90, 25, 30, 36, 71, 101]
set_option maxRecDepth 100000 in
theorem vf_or0 : ∀ i, i < 10 → vFL[xvf_or.getD (i) 0]? = some (Cond.eq (.field (vst i) "java/lang/Enum" "ordinal" "I") (.int (nI i))) := by decide +kernel
theorem vf_or : ∀ i, i < 10 → Cond.eq (.field (vst i) "java/lang/Enum" "ordinal" "I") (.int (nI i)) ∈ vFL := fun i hi => vFA_in (vf_or0 i hi)
def xvf_sh : List Nat := [6, 22, 44, 81, 91, 26, 31, 37, 72, 102]
set_option maxRecDepth 100000 in
theorem vf_sh0 : ∀ i, i < 10 → vFL[xvf_sh.getD (i) 0]? = some (Cond.eq (.field (vst i) "MoodSextant$Form" "shape" "Ljava/lang/String;") (vtm i)) := by decide +kernel
theorem vf_sh : ∀ i, i < 10 → Cond.eq (.field (vst i) "MoodSextant$Form" "shape" "Ljava/lang/String;") (vtm i) ∈ vFL := fun i hi => vFA_in (vf_sh0 i hi)
def xvf_ne : List Nat := [0, 23, 45, 82, 92, 27, 32, 38, 73, 103, 0, 0, 46, 83, 93, 28, 33, 39, 74, 104, 0, 0, 0, 87, 97, 47, 48, 49, 78, 108, 0, 0, 0, 0, 99, 84, 85, 86, 88, 110, 0, 0, 0, 0, 0, 94, 95, 96, 98, 111, 0, 0, 0, 0, 0, 0, 34, 40, 75, 105, 0, 0, 0, 0, 0, 0, 0, 41, 76, 106, 0, 0, 0, 0, 0, 0, 0, 0, 77, 107, 0, 0, 0, 0, 0, 0, 0, 0, 0, 109, 0, 0, 0, 0, 0, 0, 0, 0, 0, 0]
def ovf_ne : List Bool := [false, true, true, true, true, true, true, true, true, true, false, false, true, true, true, true, true, true, true, true, false, false, false, true, true, false, false, false, true, true, false, false, false, false, true, false, false, false, false, true, false, false, false, false, false, false, false, false, false, true, false, false, false, false, false, false, true, true, true, true, false, false, false, false, false, false, false, true, true, true, false, false, false, false, false, false, false, false, true, true, false, false, false, false, false, false, false, false, false, true, false, false, false, false, false, false, false, false, false, false]
set_option maxRecDepth 100000 in
theorem vf_ne0 : ∀ i, i < 10 → ∀ j, j < 10 → i < j → vFL[xvf_ne.getD (10 * i + j) 0]? = some (if ovf_ne.getD (10 * i + j) false = true then Cond.not (.eq (vst i) (vst j)) else Cond.not (.eq (vst j) (vst i))) := by decide +kernel
theorem vf_ne1 (i j : Nat) (hi : i < 10) (hj : j < 10) (h : i < j) : Cond.not (.eq (vst i) (vst j)) ∈ vFL ∨ Cond.not (.eq (vst j) (vst i)) ∈ vFL := by
  have h1 := vFA_in (vf_ne0 i hi j hj h)
  by_cases ho : ovf_ne.getD (10 * i + j) false = true
  · rw [if_pos ho] at h1; exact Or.inl h1
  · rw [if_neg ho] at h1; exact Or.inr h1
theorem vf_ne : ∀ i, i < 10 → ∀ j, j < 10 → i ≠ j → (Cond.not (.eq (vst i) (vst j)) ∈ vFL ∨ Cond.not (.eq (vst j) (vst i)) ∈ vFL) := by
  intro i hi j hj hij
  rcases Nat.lt_or_gt_of_ne hij with h | h
  · exact vf_ne1 i j hi hj h
  · exact (vf_ne1 j i hj hi h).symm
def xvf_sx : List Nat := [424, 442, 522, 566, 593, 459, 479, 502, 543, 617]
set_option maxRecDepth 100000 in
theorem vf_sx0 : ∀ i, i < 10 → vFL[xvf_sx.getD (i) 0]? = some (Cond.exactly (vtm i) "java/lang/String") := by decide +kernel
theorem vf_sx : ∀ i, i < 10 → Cond.exactly (vtm i) "java/lang/String" ∈ vFL := fun i hi => vFA_in (vf_sx0 i hi)
def xvf_sc : List Nat := [425, 443, 523, 567, 594, 460, 480, 503, 544, 618]
set_option maxRecDepth 100000 in
theorem vf_sc0 : ∀ i, i < 10 → vFL[xvf_sc.getD (i) 0]? = some (Cond.eq (.field (vtm i) "java/lang/String" "coder" "B") (.int 0)) := by decide +kernel
theorem vf_sc : ∀ i, i < 10 → Cond.eq (.field (vtm i) "java/lang/String" "coder" "B") (.int 0) ∈ vFL := fun i hi => vFA_in (vf_sc0 i hi)
def xvf_sa : List Nat := [426, 444, 524, 568, 595, 461, 481, 504, 545, 619]
set_option maxRecDepth 100000 in
theorem vf_sa0 : ∀ i, i < 10 → vFL[xvf_sa.getD (i) 0]? = some (Cond.arrayOf (.field (vtm i) "java/lang/String" "value" "[B") .byte) := by decide +kernel
theorem vf_sa : ∀ i, i < 10 → Cond.arrayOf (.field (vtm i) "java/lang/String" "value" "[B") .byte ∈ vFL := fun i hi => vFA_in (vf_sa0 i hi)
def xvf_sl : List Nat := [427, 445, 525, 569, 596, 462, 482, 505, 546, 620]
set_option maxRecDepth 100000 in
theorem vf_sl0 : ∀ i, i < 10 → vFL[xvf_sl.getD (i) 0]? = some (Cond.eq (.length (.field (vtm i) "java/lang/String" "value" "[B")) (.int (Int32.ofNat (vlen.getD i 0)))) := by decide +kernel
theorem vf_sl : ∀ i, i < 10 → Cond.eq (.length (.field (vtm i) "java/lang/String" "value" "[B")) (.int (Int32.ofNat (vlen.getD i 0))) ∈ vFL := fun i hi => vFA_in (vf_sl0 i hi)
def xvf_se : List Nat := [428, 429, 430, 431, 432, 433, 434, 435, 436, 0, 0, 0, 0, 0, 0, 0, 0, 0, 0, 0, 446, 447, 448, 449, 450, 451, 452, 0, 0, 0, 0, 0, 0, 0, 0, 0, 0, 0, 0, 0, 526, 527, 528, 529, 530, 531, 532, 0, 0, 0, 0, 0, 0, 0, 0, 0, 0, 0, 0, 0, 570, 571, 572, 573, 574, 575, 576, 577, 578, 579, 580, 0, 0, 0, 0, 0, 0, 0, 0, 0, 597, 598, 599, 600, 601, 602, 603, 0, 0, 0, 0, 0, 0, 0, 0, 0, 0, 0, 0, 0, 463, 464, 465, 466, 467, 468, 469, 470, 471, 0, 0, 0, 0, 0, 0, 0, 0, 0, 0, 0, 483, 484, 485, 486, 487, 488, 489, 490, 491, 492, 493, 0, 0, 0, 0, 0, 0, 0, 0, 0, 506, 507, 508, 509, 510, 511, 512, 0, 0, 0, 0, 0, 0, 0, 0, 0, 0, 0, 0, 0, 547, 548, 549, 550, 551, 552, 553, 554, 0, 0, 0, 0, 0, 0, 0, 0, 0, 0, 0, 0, 621, 622, 623, 624, 0, 0, 0, 0, 0, 0, 0, 0, 0, 0, 0, 0, 0, 0, 0, 0]
set_option maxRecDepth 100000 in
theorem vf_se0 : ∀ i, i < 10 → ∀ j, j < vlen.getD i 0 → vFL[xvf_se.getD (20 * i + j) 0]? = some (Cond.eq (.elem (.field (vtm i) "java/lang/String" "value" "[B") (.int (Int32.ofNat j))) (.int ((vbyt.getD i []).getD j 0))) := by decide +kernel
theorem vf_se : ∀ i, i < 10 → ∀ j, j < vlen.getD i 0 → Cond.eq (.elem (.field (vtm i) "java/lang/String" "value" "[B") (.int (Int32.ofNat j))) (.int ((vbyt.getD i []).getD j 0)) ∈ vFL := fun i hi j hj => vFA_in (vf_se0 i hi j hj)
def xvf_sn : List Nat := [0, 458, 538, 586, 609, 477, 499, 518, 560, 630, 0, 0, 539, 587, 610, 478, 500, 519, 561, 631, 0, 0, 0, 591, 614, 540, 541, 542, 565, 635, 0, 0, 0, 0, 616, 588, 589, 590, 592, 637, 0, 0, 0, 0, 0, 611, 612, 613, 615, 638, 0, 0, 0, 0, 0, 0, 501, 520, 562, 632, 0, 0, 0, 0, 0, 0, 0, 521, 563, 633, 0, 0, 0, 0, 0, 0, 0, 0, 564, 634, 0, 0, 0, 0, 0, 0, 0, 0, 0, 636, 0, 0, 0, 0, 0, 0, 0, 0, 0, 0]
def ovf_sn : List Bool := [false, true, true, true, true, true, true, true, true, true, false, false, true, true, true, true, true, true, true, true, false, false, false, true, true, false, false, false, true, true, false, false, false, false, true, false, false, false, false, true, false, false, false, false, false, false, false, false, false, true, false, false, false, false, false, false, true, true, true, true, false, false, false, false, false, false, false, true, true, true, false, false, false, false, false, false, false, false, true, true, false, false, false, false, false, false, false, false, false, true, false, false, false, false, false, false, false, false, false, false]
set_option maxRecDepth 100000 in
theorem vf_sn0 : ∀ i, i < 10 → ∀ j, j < 10 → i < j → vFL[xvf_sn.getD (10 * i + j) 0]? = some (if ovf_sn.getD (10 * i + j) false = true then Cond.not (.eq (vtm i) (vtm j)) else Cond.not (.eq (vtm j) (vtm i))) := by decide +kernel
theorem vf_sn1 (i j : Nat) (hi : i < 10) (hj : j < 10) (h : i < j) : Cond.not (.eq (vtm i) (vtm j)) ∈ vFL ∨ Cond.not (.eq (vtm j) (vtm i)) ∈ vFL := by
  have h1 := vFA_in (vf_sn0 i hi j hj h)
  by_cases ho : ovf_sn.getD (10 * i + j) false = true
  · rw [if_pos ho] at h1; exact Or.inl h1
  · rw [if_neg ho] at h1; exact Or.inr h1
theorem vf_sn : ∀ i, i < 10 → ∀ j, j < 10 → i ≠ j → (Cond.not (.eq (vtm i) (vtm j)) ∈ vFL ∨ Cond.not (.eq (vtm j) (vtm i)) ∈ vFL) := by
  intro i hi j hj hij
  rcases Nat.lt_or_gt_of_ne hij with h | h
  · exact vf_sn1 i j hi hj h
  · exact (vf_sn1 j i hj hi h).symm
abbrev vtS : Term := .static "MoodSextant$1" "$SwitchMap$MoodSextant$Form" "[I"
abbrev vtF : Term := .static "MoodSextant" "FORMS" "[LMoodSextant$Form;"
set_option maxRecDepth 100000 in
theorem vf_wa1 : Cond.arrayOf vtS .int ∈ vFL := vFA_in (i := 8) (by decide +kernel)
set_option maxRecDepth 100000 in
theorem vf_wa2 : Cond.eq (.length vtS) (.int 10) ∈ vFL := vFA_in (i := 9) (by decide +kernel)
def xvf_wa3 : List Nat := [10, 11, 12, 13, 14, 15, 16, 17, 18, 19]
set_option maxRecDepth 100000 in
theorem vf_wa30 : ∀ j, j < 10 → vFL[xvf_wa3.getD (j) 0]? = some (Cond.eq (.elem vtS (.int (Int32.ofNat j))) (.int (vsw.getD j 0))) := by decide +kernel
theorem vf_wa3 : ∀ j, j < 10 → Cond.eq (.elem vtS (.int (Int32.ofNat j))) (.int (vsw.getD j 0)) ∈ vFL := fun j hj => vFA_in (vf_wa30 j hj)
theorem vf_wa : Cond.arrayOf vtS .int ∈ vFL ∧ Cond.eq (.length vtS) (.int 10) ∈ vFL ∧ ∀ j, j < 10 → Cond.eq (.elem vtS (.int (Int32.ofNat j))) (.int (vsw.getD j 0)) ∈ vFL := ⟨vf_wa1, vf_wa2, vf_wa3⟩
set_option maxRecDepth 100000 in
theorem vf_fa1 : Cond.arrayOf vtF (.object "MoodSextant$Form") ∈ vFL := vFA_in (i := 52) (by decide +kernel)
set_option maxRecDepth 100000 in
theorem vf_fa2 : Cond.eq (.length vtF) (.int 10) ∈ vFL := vFA_in (i := 53) (by decide +kernel)
def xvf_fa3 : List Nat := [55, 56, 57, 58, 59, 60, 61, 62, 63, 64]
set_option maxRecDepth 100000 in
theorem vf_fa30 : ∀ j, j < 10 → vFL[xvf_fa3.getD (j) 0]? = some (Cond.eq (.elem vtF (.int (Int32.ofNat j))) (vst j)) := by decide +kernel
theorem vf_fa3 : ∀ j, j < 10 → Cond.eq (.elem vtF (.int (Int32.ofNat j))) (vst j) ∈ vFL := fun j hj => vFA_in (vf_fa30 j hj)
theorem vf_fa : Cond.arrayOf vtF (.object "MoodSextant$Form") ∈ vFL ∧ Cond.eq (.length vtF) (.int 10) ∈ vFL ∧ ∀ j, j < 10 → Cond.eq (.elem vtF (.int (Int32.ofNat j))) (vst j) ∈ vFL := ⟨vf_fa1, vf_fa2, vf_fa3⟩
set_option maxRecDepth 100000 in
theorem vf_co1 : Cond.eq (.static "java/lang/String" "COMPACT_STRINGS" "Z") (.int 1) ∈ vFL := vFA_in (i := 65) (by decide +kernel)
set_option maxRecDepth 100000 in
theorem vf_co2 : Cond.isRef (.static "jdk/internal/util/Preconditions" "SIOOBE_FORMATTER" "Ljava/util/function/BiFunction;") ∈ vFL := vFA_in (i := 66) (by decide +kernel)
theorem vf_co : Cond.eq (.static "java/lang/String" "COMPACT_STRINGS" "Z") (.int 1) ∈ vFL ∧ Cond.isRef (.static "jdk/internal/util/Preconditions" "SIOOBE_FORMATTER" "Ljava/util/function/BiFunction;") ∈ vFL := ⟨vf_co1, vf_co2⟩
