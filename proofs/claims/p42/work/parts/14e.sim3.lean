theorem iI_z0 {z : Int} (h1 : -1000 ≤ z) (h2 : z ≤ 1000) : (iI z = nI 0) ↔ z = 0 := iI_eq (b := 0) (by omega) (by omega) (by omega) (by omega)
theorem iI_p0 {z : Int} (h1 : -1000 ≤ z) (h2 : z ≤ 1000) : (nI 0 < iI z) ↔ 0 < z := iI_lt (a := 0) (by omega) (by omega) (by omega) (by omega)
theorem iI_n0 {z : Int} (h1 : -1000 ≤ z) (h2 : z ≤ 1000) : (iI z ≤ nI 0) ↔ z ≤ 0 := iI_le (b := 0) (by omega) (by omega) (by omega) (by omega)
section
variable {B : Nat} {a : mA} {u : vZ} {v : vS}
end

