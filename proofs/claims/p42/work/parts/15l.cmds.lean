theorem in8 {k : Nat} (hk : k < 8) : ¬ (nI k < 0 ∨ 8 ≤ Int32.toNatClampNeg (nI k)) := (nJ_in (n := 8) hk (by omega)).mp
theorem in4 {k : Nat} (hk : k < 4) : ¬ (nI k < 0 ∨ 4 ≤ Int32.toNatClampNeg (nI k)) := (nJ_in (n := 4) hk (by omega)).mp
section
variable {B : Nat} {a : mA}
end


