/-- a float that is a number, as the walks ask for it -/
abbrev okF (x : UInt32) : Prop := x &&& 0x7fffffff ≤ 0x7f800000
/-- eighths, from -47 on -/
def fe (R : Nat) : UInt32 := FP.fdiv (FP.i2f (iI ((R : Int) - 47))) 1090519040
/-- sixteenths, from -94 on -/
def fs (S : Nat) : UInt32 := FP.fdiv (FP.i2f (iI ((S : Int) - 94))) 1098907648
theorem rdg_all : ∀ z : Nat, z < 40 → ∀ c : Nat, c < 10 → okF (FP.fdiv (FP.i2f (iI ((z : Int) - 19))) 1082130432) ∧ okF (FP.fdiv (FP.i2f (nI c)) 1090519040) ∧ FP.fsub (FP.fdiv (FP.i2f (iI ((z : Int) - 19))) 1082130432) (FP.fdiv (FP.i2f (nI c)) 1090519040) = fe (2 * z + 9 - c) := by decide +kernel
theorem fe_ok : ∀ R, R < 88 → okF (fe R) ∧ vn_sni2f (UInt32.toInt32 (fe R)) = false ∧ fJxf58ca_floatToIntBits_5c35a (fe R) = some (UInt32.toInt32 (fe R)) := by decide +kernel
theorem fe_bits : ∀ R, R < 88 → fX7_bitsOf (fe R) = some (UInt32.toInt32 (fe R)) := by decide +kernel
theorem fs_ok : ∀ S : Nat, S < 175 → okF (fs S) ∧ fJxf58ca_floatToIntBits_5c35a (fs S) = some (UInt32.toInt32 (fs S)) ∧ Op.cmpValue (FP.fcmp (fs S) (fs S)) CmpOp.l = 0 := by decide +kernel
theorem fs_bits : ∀ S : Nat, S < 175 → fX7_bitsOf (fs S) = some (UInt32.toInt32 (fs S)) := by decide +kernel
