def vskL : List Nat := [130, 132, 167]
abbrev vtL (i : Nat) : Term := .string "MoodSextantLaw" (vskL.getD i 0)
set_option maxRecDepth 100000 in
theorem vg_sx : ∀ i, i < 3 → Cond.exactly (vtL i) "java/lang/String" ∈ vFL := by decide +kernel
set_option maxRecDepth 100000 in
theorem vg_sc : ∀ i, i < 3 → Cond.eq (.field (vtL i) "java/lang/String" "coder" "B") (.int 0) ∈ vFL := by decide +kernel
set_option maxRecDepth 100000 in
theorem vg_sa : ∀ i, i < 3 → Cond.arrayOf (.field (vtL i) "java/lang/String" "value" "[B") .byte ∈ vFL := by decide +kernel
set_option maxRecDepth 100000 in
theorem vg_sl : ∀ i, i < 3 → Cond.eq (.length (.field (vtL i) "java/lang/String" "value" "[B")) (.int (Int32.ofNat (vLlen.getD i 0))) ∈ vFL := by decide +kernel
set_option maxRecDepth 100000 in
theorem vg_se : ∀ i, i < 3 → ∀ j, j < vLlen.getD i 0 → Cond.eq (.elem (.field (vtL i) "java/lang/String" "value" "[B") (.int (Int32.ofNat j))) (.int ((vLbyt.getD i []).getD j 0)) ∈ vFL := by decide +kernel
set_option maxRecDepth 100000 in
theorem vg_sn : ∀ i, i < 3 → ∀ j, j < 3 → i ≠ j → (Cond.not (.eq (vtL i) (vtL j)) ∈ vFL ∨ Cond.not (.eq (vtL j) (vtL i)) ∈ vFL) := by decide +kernel
abbrev vtX0 : Term := .static "java/lang/Integer" "digits" "[C"
set_option maxRecDepth 100000 in
theorem vg_ta0 : Cond.arrayOf vtX0 .char ∈ vFL ∧ Cond.eq (.length vtX0) (.int 36) ∈ vFL := by decide +kernel
set_option maxRecDepth 100000 in
theorem vg_te0 : ∀ j, j < 36 → Cond.eq (.elem vtX0 (.int (Int32.ofNat j))) (.int (vdig.getD j 0)) ∈ vFL := fun j hj => vFA_in ((by decide +kernel : ∀ j, j < 36 → vFL[321 + j]? = some (Cond.eq (.elem vtX0 (.int (Int32.ofNat j))) (.int (vdig.getD j 0)))) j hj)
abbrev vtX1 : Term := .static "java/lang/Integer" "DigitTens" "[B"
set_option maxRecDepth 100000 in
theorem vg_ta1 : Cond.arrayOf vtX1 .byte ∈ vFL ∧ Cond.eq (.length vtX1) (.int 100) ∈ vFL := by decide +kernel
set_option maxRecDepth 100000 in
theorem vg_te1 : ∀ j, j < 100 → Cond.eq (.elem vtX1 (.int (Int32.ofNat j))) (.int (nI (48 + j / 10))) ∈ vFL := fun j hj => vFA_in ((by decide +kernel : ∀ j, j < 100 → vFL[218 + j]? = some (Cond.eq (.elem vtX1 (.int (Int32.ofNat j))) (.int (nI (48 + j / 10))))) j hj)
abbrev vtX2 : Term := .static "java/lang/Integer" "DigitOnes" "[B"
set_option maxRecDepth 100000 in
theorem vg_ta2 : Cond.arrayOf vtX2 .byte ∈ vFL ∧ Cond.eq (.length vtX2) (.int 100) ∈ vFL := by decide +kernel
set_option maxRecDepth 100000 in
theorem vg_te2 : ∀ j, j < 100 → Cond.eq (.elem vtX2 (.int (Int32.ofNat j))) (.int (nI (48 + j % 10))) ∈ vFL := fun j hj => vFA_in ((by decide +kernel : ∀ j, j < 100 → vFL[115 + j]? = some (Cond.eq (.elem vtX2 (.int (Int32.ofNat j))) (.int (nI (48 + j % 10))))) j hj)
