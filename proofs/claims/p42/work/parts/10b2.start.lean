def vskL : List Nat := [130, 132, 167]
abbrev vtL (i : Nat) : Term := .string "MoodSextantLaw" (vskL.getD i 0)
def xvg_sx : List Nat := [401, 408, 415]
set_option maxRecDepth 100000 in
theorem vg_sx0 : ∀ i, i < 3 → vFL[xvg_sx.getD (i) 0]? = some (Cond.exactly (vtL i) "java/lang/String") := by decide +kernel
theorem vg_sx : ∀ i, i < 3 → Cond.exactly (vtL i) "java/lang/String" ∈ vFL := fun i hi => vFA_in (vg_sx0 i hi)
def xvg_sc : List Nat := [402, 409, 416]
set_option maxRecDepth 100000 in
theorem vg_sc0 : ∀ i, i < 3 → vFL[xvg_sc.getD (i) 0]? = some (Cond.eq (.field (vtL i) "java/lang/String" "coder" "B") (.int 0)) := by decide +kernel
theorem vg_sc : ∀ i, i < 3 → Cond.eq (.field (vtL i) "java/lang/String" "coder" "B") (.int 0) ∈ vFL := fun i hi => vFA_in (vg_sc0 i hi)
def xvg_sa : List Nat := [403, 410, 417]
set_option maxRecDepth 100000 in
theorem vg_sa0 : ∀ i, i < 3 → vFL[xvg_sa.getD (i) 0]? = some (Cond.arrayOf (.field (vtL i) "java/lang/String" "value" "[B") .byte) := by decide +kernel
theorem vg_sa : ∀ i, i < 3 → Cond.arrayOf (.field (vtL i) "java/lang/String" "value" "[B") .byte ∈ vFL := fun i hi => vFA_in (vg_sa0 i hi)
def xvg_sl : List Nat := [404, 411, 418]
set_option maxRecDepth 100000 in
theorem vg_sl0 : ∀ i, i < 3 → vFL[xvg_sl.getD (i) 0]? = some (Cond.eq (.length (.field (vtL i) "java/lang/String" "value" "[B")) (.int (Int32.ofNat (vLlen.getD i 0)))) := by decide +kernel
theorem vg_sl : ∀ i, i < 3 → Cond.eq (.length (.field (vtL i) "java/lang/String" "value" "[B")) (.int (Int32.ofNat (vLlen.getD i 0))) ∈ vFL := fun i hi => vFA_in (vg_sl0 i hi)
def xvg_se : List Nat := [405, 0, 0, 0, 0, 0, 0, 0, 0, 0, 0, 0, 0, 0, 0, 0, 0, 0, 0, 0, 0, 0, 0, 0, 0, 0, 0, 0, 0, 0, 0, 0, 0, 0, 0, 0, 0, 0, 0, 0, 419, 0, 0, 0, 0, 0, 0, 0, 0, 0, 0, 0, 0, 0, 0, 0, 0, 0, 0, 0]
set_option maxRecDepth 100000 in
theorem vg_se0 : ∀ i, i < 3 → ∀ j, j < vLlen.getD i 0 → vFL[xvg_se.getD (20 * i + j) 0]? = some (Cond.eq (.elem (.field (vtL i) "java/lang/String" "value" "[B") (.int (Int32.ofNat j))) (.int ((vLbyt.getD i []).getD j 0))) := by decide +kernel
theorem vg_se : ∀ i, i < 3 → ∀ j, j < vLlen.getD i 0 → Cond.eq (.elem (.field (vtL i) "java/lang/String" "value" "[B") (.int (Int32.ofNat j))) (.int ((vLbyt.getD i []).getD j 0)) ∈ vFL := fun i hi j hj => vFA_in (vg_se0 i hi j hj)
def xvg_sn : List Nat := [0, 414, 422, 0, 0, 423, 0, 0, 0]
def ovg_sn : List Bool := [false, true, true, false, false, true, false, false, false]
set_option maxRecDepth 100000 in
theorem vg_sn0 : ∀ i, i < 3 → ∀ j, j < 3 → i < j → vFL[xvg_sn.getD (3 * i + j) 0]? = some (if ovg_sn.getD (3 * i + j) false = true then Cond.not (.eq (vtL i) (vtL j)) else Cond.not (.eq (vtL j) (vtL i))) := by decide +kernel
theorem vg_sn1 (i j : Nat) (hi : i < 3) (hj : j < 3) (h : i < j) : Cond.not (.eq (vtL i) (vtL j)) ∈ vFL ∨ Cond.not (.eq (vtL j) (vtL i)) ∈ vFL := by
  have h1 := vFA_in (vg_sn0 i hi j hj h)
  by_cases ho : ovg_sn.getD (3 * i + j) false = true
  · rw [if_pos ho] at h1; exact Or.inl h1
  · rw [if_neg ho] at h1; exact Or.inr h1
theorem vg_sn : ∀ i, i < 3 → ∀ j, j < 3 → i ≠ j → (Cond.not (.eq (vtL i) (vtL j)) ∈ vFL ∨ Cond.not (.eq (vtL j) (vtL i)) ∈ vFL) := by
  intro i hi j hj hij
  rcases Nat.lt_or_gt_of_ne hij with h | h
  · exact vg_sn1 i j hi hj h
  · exact (vg_sn1 j i hj hi h).symm
abbrev vtX0 : Term := .static "java/lang/Integer" "digits" "[C"
set_option maxRecDepth 100000 in
theorem vg_ta0a : Cond.arrayOf vtX0 .char ∈ vFL := vFA_in (i := 319) (by decide +kernel)
set_option maxRecDepth 100000 in
theorem vg_ta0b : Cond.eq (.length vtX0) (.int 36) ∈ vFL := vFA_in (i := 320) (by decide +kernel)
theorem vg_ta0 : Cond.arrayOf vtX0 .char ∈ vFL ∧ Cond.eq (.length vtX0) (.int 36) ∈ vFL := ⟨vg_ta0a, vg_ta0b⟩
set_option maxRecDepth 100000 in
theorem vg_te0 : ∀ j, j < 36 → Cond.eq (.elem vtX0 (.int (Int32.ofNat j))) (.int (vdig.getD j 0)) ∈ vFL := fun j hj => vFA_in ((by decide +kernel : ∀ j, j < 36 → vFL[321 + j]? = some (Cond.eq (.elem vtX0 (.int (Int32.ofNat j))) (.int (vdig.getD j 0)))) j hj)
abbrev vtX1 : Term := .static "java/lang/Integer" "DigitTens" "[B"
set_option maxRecDepth 100000 in
theorem vg_ta1a : Cond.arrayOf vtX1 .byte ∈ vFL := vFA_in (i := 216) (by decide +kernel)
set_option maxRecDepth 100000 in
theorem vg_ta1b : Cond.eq (.length vtX1) (.int 100) ∈ vFL := vFA_in (i := 217) (by decide +kernel)
theorem vg_ta1 : Cond.arrayOf vtX1 .byte ∈ vFL ∧ Cond.eq (.length vtX1) (.int 100) ∈ vFL := ⟨vg_ta1a, vg_ta1b⟩
set_option maxRecDepth 100000 in
theorem vg_te1 : ∀ j, j < 100 → Cond.eq (.elem vtX1 (.int (Int32.ofNat j))) (.int (nI (48 + j / 10))) ∈ vFL := fun j hj => vFA_in ((by decide +kernel : ∀ j, j < 100 → vFL[218 + j]? = some (Cond.eq (.elem vtX1 (.int (Int32.ofNat j))) (.int (nI (48 + j / 10))))) j hj)
abbrev vtX2 : Term := .static "java/lang/Integer" "DigitOnes" "[B"
set_option maxRecDepth 100000 in
theorem vg_ta2a : Cond.arrayOf vtX2 .byte ∈ vFL := vFA_in (i := 113) (by decide +kernel)
set_option maxRecDepth 100000 in
theorem vg_ta2b : Cond.eq (.length vtX2) (.int 100) ∈ vFL := vFA_in (i := 114) (by decide +kernel)
theorem vg_ta2 : Cond.arrayOf vtX2 .byte ∈ vFL ∧ Cond.eq (.length vtX2) (.int 100) ∈ vFL := ⟨vg_ta2a, vg_ta2b⟩
set_option maxRecDepth 100000 in
theorem vg_te2 : ∀ j, j < 100 → Cond.eq (.elem vtX2 (.int (Int32.ofNat j))) (.int (nI (48 + j % 10))) ∈ vFL := fun j hj => vFA_in ((by decide +kernel : ∀ j, j < 100 → vFL[115 + j]? = some (Cond.eq (.elem vtX2 (.int (Int32.ofNat j))) (.int (nI (48 + j % 10))))) j hj)
