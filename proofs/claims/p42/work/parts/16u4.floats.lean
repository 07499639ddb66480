theorem fdE_all : ∀ D : Nat, D < 175 → okF (fdE D) ∧ (87 ≤ D → ¬ Op.cmpValue (FP.fcmp (fdE D) FP.fconst0) CmpOp.g < 0) ∧ (Op.cmpValue (FP.fcmp (fdE D) FP.fconst0) CmpOp.l = 0 → D = 87) := by decide +kernel
theorem fsE_all : ∀ D : Nat, D < 175 → okF (fsE D) ∧ FP.fadd (fsE D) FP.fconst0 = fsE D := by decide +kernel
theorem fe_zero : ∀ R : Nat, R < 88 → FP.fadd (fe R) FP.fconst0 = fe R ∧ FP.fadd FP.fconst0 (fe R) = fe R ∧ okF (FP.fdiv (fe R) FP.fconst2) := by decide +kernel
theorem f0_zero : FP.fadd FP.fconst0 FP.fconst0 = FP.fconst0 ∧ okF FP.fconst0 ∧ okF (FP.fdiv FP.fconst0 FP.fconst2) := by decide +kernel
theorem f1_zero : ¬ Op.cmpValue (FP.fcmp FP.fconst1 FP.fconst0) CmpOp.g < 0 ∧ ¬ Op.cmpValue (FP.fcmp FP.fconst1 FP.fconst0) CmpOp.l = 0 := by decide +kernel
/-- near each other: told in two ways -/
def mtD (x : UInt32) : Int32 := if 0 ≤ Op.cmpValue (FP.fcmp x (1056964608 : UInt32)) CmpOp.g then nI 0 else if Op.cmpValue (FP.fcmp x (3204448256 : UInt32)) CmpOp.l ≤ 0 then nI 0 else nI 1
theorem fdS_all : ∀ D : Nat, D < 350 → okF (fdS D) ∧ mtD (fdS D) = (if 0 ≤ Op.cmpValue (FP.fcmp (fdS D &&& 0x7fffffff) (1056964608 : UInt32)) CmpOp.g then 0 else 1) := by decide +kernel
theorem fs_sni : ∀ S : Nat, S < 175 → vn_sni2f (UInt32.toInt32 (fs S)) = false := by decide +kernel
theorem mt_abs {S T : Nat} (hS : S < 175) (hT : T < 175) : okF (FP.fsub (fs S) (fs T)) ∧ mtI S T = (if 0 ≤ Op.cmpValue (FP.fcmp (FP.fsub (fs S) (fs T) &&& 0x7fffffff) (1056964608 : UInt32)) CmpOp.g then 0 else 1) := by
  have h := fsp_all S T hS hT
  have g := fdS_all (S + 175 - T) (by omega)
  unfold fsP at h
  unfold mtI
  rw [h]
  exact g

