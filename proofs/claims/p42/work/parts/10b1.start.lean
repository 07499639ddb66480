/-! THE START: the statics that the Statement tells of, and the walk up to the law's loop -/
/-- the conditions in a row, made in one go -/
def flatA : Cond → List Cond → List Cond
  | .and a b, k => flatA a (flatA b k)
  | c, k => c :: k
theorem flatA_eq (T : Cond) : ∀ k, flatA T k = flatC T ++ k := by
  induction T with
  | and a b iha ihb =>
    intro k
    rw [flatA, flatC, iha, ihb, List.append_assoc]
  | _ => intro k; rfl
def vFL : List Cond := flatA (Jvm.Cond.and given_1 narrow_1) []
theorem vFL_eq : vFL = flatC (Jvm.Cond.and given_1 narrow_1) := by rw [vFL, flatA_eq, List.append_nil]
theorem vFA_in {i : Nat} {c : Cond} (h : vFL[i]? = some c) : c ∈ vFL := List.mem_of_getElem? h
def vsk : List Nat := [58, 64, 67, 70, 73, 76, 79, 82, 85, 88]
abbrev vtm (i : Nat) : Term := .string "MoodSextant$Form" (vsk.getD i 0)
abbrev vst (i : Nat) : Term := .static "MoodSextant$Form" (vnm.getD i "") "LMoodSextant$Form;"
set_option maxRecDepth 100000 in
theorem vf_ex : ∀ i, i < 10 → Cond.exactly (vst i) "MoodSextant$Form" ∈ vFL := by decide +kernel
set_option maxRecDepth 100000 in
theorem vf_or : ∀ i, i < 10 → Cond.eq (.field (vst i) "java/lang/Enum" "ordinal" "I") (.int (nI i)) ∈ vFL := by decide +kernel
set_option maxRecDepth 100000 in
theorem vf_sh : ∀ i, i < 10 → Cond.eq (.field (vst i) "MoodSextant$Form" "shape" "Ljava/lang/String;") (vtm i) ∈ vFL := by decide +kernel
set_option maxRecDepth 100000 in
theorem vf_ne : ∀ i, i < 10 → ∀ j, j < 10 → i ≠ j → (Cond.not (.eq (vst i) (vst j)) ∈ vFL ∨ Cond.not (.eq (vst j) (vst i)) ∈ vFL) := by decide +kernel
set_option maxRecDepth 100000 in
theorem vf_sx : ∀ i, i < 10 → Cond.exactly (vtm i) "java/lang/String" ∈ vFL := by decide +kernel
set_option maxRecDepth 100000 in
theorem vf_sc : ∀ i, i < 10 → Cond.eq (.field (vtm i) "java/lang/String" "coder" "B") (.int 0) ∈ vFL := by decide +kernel
set_option maxRecDepth 100000 in
theorem vf_sa : ∀ i, i < 10 → Cond.arrayOf (.field (vtm i) "java/lang/String" "value" "[B") .byte ∈ vFL := by decide +kernel
set_option maxRecDepth 100000 in
theorem vf_sl : ∀ i, i < 10 → Cond.eq (.length (.field (vtm i) "java/lang/String" "value" "[B")) (.int (Int32.ofNat (vlen.getD i 0))) ∈ vFL := by decide +kernel
set_option maxRecDepth 100000 in
theorem vf_se : ∀ i, i < 10 → ∀ j, j < vlen.getD i 0 → Cond.eq (.elem (.field (vtm i) "java/lang/String" "value" "[B") (.int (Int32.ofNat j))) (.int ((vbyt.getD i []).getD j 0)) ∈ vFL := by decide +kernel
set_option maxRecDepth 100000 in
theorem vf_sn : ∀ i, i < 10 → ∀ j, j < 10 → i ≠ j → (Cond.not (.eq (vtm i) (vtm j)) ∈ vFL ∨ Cond.not (.eq (vtm j) (vtm i)) ∈ vFL) := by decide +kernel
abbrev vtS : Term := .static "MoodSextant$1" "$SwitchMap$MoodSextant$Form" "[I"
abbrev vtF : Term := .static "MoodSextant" "FORMS" "[LMoodSextant$Form;"
set_option maxRecDepth 100000 in
theorem vf_wa : Cond.arrayOf vtS .int ∈ vFL ∧ Cond.eq (.length vtS) (.int 10) ∈ vFL ∧ ∀ j, j < 10 → Cond.eq (.elem vtS (.int (Int32.ofNat j))) (.int (vsw.getD j 0)) ∈ vFL := by decide +kernel
set_option maxRecDepth 100000 in
theorem vf_fa : Cond.arrayOf vtF (.object "MoodSextant$Form") ∈ vFL ∧ Cond.eq (.length vtF) (.int 10) ∈ vFL ∧ ∀ j, j < 10 → Cond.eq (.elem vtF (.int (Int32.ofNat j))) (vst j) ∈ vFL := by decide +kernel
set_option maxRecDepth 100000 in
theorem vf_co : Cond.eq (.static "java/lang/String" "COMPACT_STRINGS" "Z") (.int 1) ∈ vFL ∧ Cond.isRef (.static "jdk/internal/util/Preconditions" "SIOOBE_FORMATTER" "Ljava/util/function/BiFunction;") ∈ vFL := by decide +kernel
