/-- whole numbers as ints of the machine -/
def iI (z : Int) : Int32 := Int32.ofInt z
theorem nI_iI (n : Nat) : nI n = iI (n : Int) := by
  unfold nI iI
  exact (Int32.ofInt_eq_ofNat).symm
theorem iI_toInt {z : Int} (h1 : -2147483648 ≤ z) (h2 : z < 2147483648) : (iI z).toInt = z := by
  unfold iI
  exact Int32.toInt_ofInt_of_le h1 (by omega)
theorem nJ_toInt {n : Nat} (h : n < 2147483648) : (nI n).toInt = n := by
  rw [nI_iI]
  exact iI_toInt (by omega) (by omega)
theorem iI_le {a b : Int} (ha : -2147483648 ≤ a) (ha2 : a < 2147483648) (hb : -2147483648 ≤ b) (hb2 : b < 2147483648) : iI a ≤ iI b ↔ a ≤ b := by
  rw [Int32.le_iff_toInt_le, iI_toInt ha ha2, iI_toInt hb hb2]
theorem iI_lt {a b : Int} (ha : -2147483648 ≤ a) (ha2 : a < 2147483648) (hb : -2147483648 ≤ b) (hb2 : b < 2147483648) : iI a < iI b ↔ a < b := by
  rw [Int32.lt_iff_toInt_lt, iI_toInt ha ha2, iI_toInt hb hb2]
theorem iI_eq {a b : Int} (ha : -2147483648 ≤ a) (ha2 : a < 2147483648) (hb : -2147483648 ≤ b) (hb2 : b < 2147483648) : iI a = iI b ↔ a = b := by
  rw [← Int32.toInt_inj, iI_toInt ha ha2, iI_toInt hb hb2]
theorem nJ_le {a b : Nat} (ha : a < 2147483648) (hb : b < 2147483648) : nI a ≤ nI b ↔ a ≤ b := by
  rw [Int32.le_iff_toInt_le, nJ_toInt ha, nJ_toInt hb]
  omega
theorem nJ_lt {a b : Nat} (ha : a < 2147483648) (hb : b < 2147483648) : nI a < nI b ↔ a < b := by
  rw [Int32.lt_iff_toInt_lt, nJ_toInt ha, nJ_toInt hb]
  omega
theorem nJ_eq {a b : Nat} (ha : a < 2147483648) (hb : b < 2147483648) : nI a = nI b ↔ a = b := by
  rw [← Int32.toInt_inj, nJ_toInt ha, nJ_toInt hb]
  omega
theorem iI_add (a b : Int) : iI a + iI b = iI (a + b) := by
  unfold iI
  exact (Int32.ofInt_add a b).symm
theorem iI_sub (a b : Int) : iI a - iI b = iI (a - b) := by
  unfold iI
  exact (Int32.ofInt_sub a b).symm
theorem iI_neg (a : Int) : - iI a = iI (-a) := by
  unfold iI
  exact (Int32.ofInt_neg a).symm
theorem iI_mul (a b : Int) : iI a * iI b = iI (a * b) := by
  unfold iI
  exact (Int32.ofInt_mul a b).symm
theorem nJ_add (a b : Nat) : nI a + nI b = nI (a + b) := by
  simp only [nI_iI, iI_add]
  rfl
theorem nI_mul (a b : Nat) : nI a * nI b = nI (a * b) := by
  simp only [nI_iI, iI_mul]
  rfl
theorem nI_sub {a b : Nat} (h : b ≤ a) : nI a - nI b = nI (a - b) := by
  simp only [nI_iI, iI_sub]
  rw [Int.ofNat_sub h]
theorem nJ_clamp {a : Nat} (h : a < 2147483648) : (nI a).toNatClampNeg = a := by
  have e : (nI a).toNatClampNeg = (nI a).toInt.toNat := rfl
  rw [e, nJ_toInt h]
  rfl
theorem nI_neg0 {a : Nat} (h : a < 2147483648) : ¬ nI a < 0 := by
  have e : (0 : Int32) = nI 0 := rfl
  rw [e, nJ_lt h (by decide)]
  omega
/-- an index that lies inside -/
theorem nJ_in {a n : Nat} (h : a < n) (hn : n < 2147483648) : (nI a < 0 ∨ n ≤ (nI a).toNatClampNeg) ↔ False := by
  constructor
  · intro hq
    rcases hq with hq | hq
    · exact nI_neg0 (by omega) hq
    · rw [nJ_clamp (by omega)] at hq
      omega
  · exact False.elim
theorem nI_div {a b : Nat} (ha : a < 2147483648) (hb : b < 2147483648) : nI a / nI b = nI (a / b) := by
  apply Int32.toInt_inj.mp
  have h1 : a / b ≤ a := Nat.div_le_self a b
  rw [Int32.toInt_div_of_ne_left, nJ_toInt ha, nJ_toInt hb, nJ_toInt (by omega)]
  · rfl
  · intro h
    have := congrArg Int32.toInt h
    rw [nJ_toInt ha] at this
    revert this
    have e : (Int32.minValue).toInt = -2147483648 := by decide
    rw [e]
    omega
theorem nI_and (a b : Nat) : nI a &&& nI b = nI (a &&& b) := by
  unfold nI
  apply Int32.toBitVec_inj.mp
  simp [Int32.toBitVec_and, BitVec.ofNat_and]
theorem nI_or (a b : Nat) : nI a ||| nI b = nI (a ||| b) := by
  unfold nI
  apply Int32.toBitVec_inj.mp
  simp [Int32.toBitVec_or, BitVec.ofNat_or]
theorem nI_xor (a b : Nat) : nI a ^^^ nI b = nI (a ^^^ b) := by
  unfold nI
  apply Int32.toBitVec_inj.mp
  simp [Int32.toBitVec_xor, BitVec.ofNat_xor]
theorem nI_mod {a b : Nat} (ha : a < 2147483648) (hb : b < 2147483648) : nI a - nI a / nI b * nI b = nI (a % b) := by
  rw [nI_div ha hb, nI_mul, nI_sub (Nat.div_mul_le_self a b)]
  congr 1
  have := Nat.div_add_mod a b
  rw [Nat.mul_comm] at this
  omega
