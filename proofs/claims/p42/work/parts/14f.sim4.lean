/-- whole numbers as longs of the machine -/
def nL (n : Nat) : Int64 := Int64.ofNat n
theorem nL_or (a b : Nat) : nL a ||| nL b = nL (a ||| b) := by
  unfold nL
  apply Int64.toBitVec_inj.mp
  simp [Int64.toBitVec_or, BitVec.ofNat_or]
theorem nI_toLong {a : Nat} (h : a < 2147483648) : Int32.toInt64 (nI a) = nL a := by
  have e : nL a = Int64.ofInt (a : Int) := (Int64.ofInt_eq_ofNat).symm
  rw [e, ← nJ_toInt h]
  exact (Int64.ofInt_int32ToInt (nI a)).symm
theorem sh_0 (m : Nat) : nL m <<< (Int32.toInt64 (nI 0) &&& 63) = nL (m <<< 0) := by
  have e : (Int32.toInt64 (nI 0) &&& 63) = 0 := by decide +kernel
  rw [e]
  apply Int64.toBitVec_inj.mp
  show (BitVec.ofNat 64 m) <<< (0 : BitVec 64).toNat = BitVec.ofNat 64 (m <<< 0)
  apply BitVec.eq_of_toNat_eq
  rw [BitVec.toNat_shiftLeft, BitVec.toNat_ofNat, BitVec.toNat_ofNat, Nat.shiftLeft_eq, Nat.shiftLeft_eq]
  exact Nat.mod_mul_mod m (2 ^ 0) (2 ^ 64)
theorem sh_16 (m : Nat) : nL m <<< (Int32.toInt64 (nI 16) &&& 63) = nL (m <<< 16) := by
  have e : (Int32.toInt64 (nI 16) &&& 63) = 16 := by decide +kernel
  rw [e]
  apply Int64.toBitVec_inj.mp
  show (BitVec.ofNat 64 m) <<< (16 : BitVec 64).toNat = BitVec.ofNat 64 (m <<< 16)
  apply BitVec.eq_of_toNat_eq
  rw [BitVec.toNat_shiftLeft, BitVec.toNat_ofNat, BitVec.toNat_ofNat, Nat.shiftLeft_eq, Nat.shiftLeft_eq]
  exact Nat.mod_mul_mod m (2 ^ 16) (2 ^ 64)
theorem sh_16b (m : Nat) : nL m <<< (nL 16 &&& 63) = nL (m <<< 16) := sh_16 m
theorem sh_32 (m : Nat) : nL m <<< (Int32.toInt64 (nI 32) &&& 63) = nL (m <<< 32) := by
  have e : (Int32.toInt64 (nI 32) &&& 63) = 32 := by decide +kernel
  rw [e]
  apply Int64.toBitVec_inj.mp
  show (BitVec.ofNat 64 m) <<< (32 : BitVec 64).toNat = BitVec.ofNat 64 (m <<< 32)
  apply BitVec.eq_of_toNat_eq
  rw [BitVec.toNat_shiftLeft, BitVec.toNat_ofNat, BitVec.toNat_ofNat, Nat.shiftLeft_eq, Nat.shiftLeft_eq]
  exact Nat.mod_mul_mod m (2 ^ 32) (2 ^ 64)
theorem sh_48 (m : Nat) : nL m <<< (Int32.toInt64 (nI 48) &&& 63) = nL (m <<< 48) := by
  have e : (Int32.toInt64 (nI 48) &&& 63) = 48 := by decide +kernel
  rw [e]
  apply Int64.toBitVec_inj.mp
  show (BitVec.ofNat 64 m) <<< (48 : BitVec 64).toNat = BitVec.ofNat 64 (m <<< 48)
  apply BitVec.eq_of_toNat_eq
  rw [BitVec.toNat_shiftLeft, BitVec.toNat_ofNat, BitVec.toNat_ofNat, Nat.shiftLeft_eq, Nat.shiftLeft_eq]
  exact Nat.mod_mul_mod m (2 ^ 48) (2 ^ 64)
section
variable {B : Nat} {a : mA} {u : vZ} {v : vS}
theorem xq_pk (w : WF B a) (r : RX a u.2.1.1) {i k : Nat} (c n : Nat) (hi : i < a 0 0) (hk : 16 * i = k) (h4 : i < 4) (hs : ∀ m, nL m <<< (Int32.toInt64 (nI k) &&& 63) = nL (m <<< k)) : fX7_packed_4 (n + 1) (nL c) (nI i) u = fX7_packed_4 n (nL (c ||| (a 1 i <<< k))) (nI (i + 1)) u := by
  have hn := wf_n w
  have h1 := wf_s w i hi
  have l16 : (16 : Int32) = nI 16 := rfl
  have l4 : (4 : Int32) = nI 4 := rfl
  have i1 : ¬ nI 4 ≤ nI i := by rw [nJ_le (by omega) (by omega)]; omega
  have i2 : ¬ u.2.1.1.1 0 0 ≤ nI i := by rw [rx_n r, nJ_le (by omega) (by omega)]; omega
  have i3 : ¬ (nI i < 0 ∨ 8 ≤ Int32.toNatClampNeg (nI i)) := (nJ_in (n := 8) (by omega) (by omega)).mp
  rw [fX7_packed_4, l4, if_neg i1, if_neg i2, if_neg i3, nJ_clamp (by omega), rx_m r i hi, nI_toLong (by omega), l16, nI_mul, hk, hs, nL_or]
  dsimp only [bd]
  rw [l32_1, nJ_add]
theorem xq_pkE (w : WF B a) (r : RX a u.2.1.1) {i : Nat} (c n : Nat) (hi : i ≤ 8) (h : 4 ≤ i ∨ a 0 0 ≤ i) : fX7_packed_4 (n + 1) (nL c) (nI i) u = some (nL c, u) := by
  have hn := wf_n w
  have l4 : (4 : Int32) = nI 4 := rfl
  rw [fX7_packed_4, l4]
  by_cases h4 : 4 ≤ i
  · rw [if_pos ((nJ_le (by omega) (by omega)).mpr h4)]
  · rw [if_neg (by rw [nJ_le (by omega) (by omega)]; exact h4), rx_n r, if_pos ((nJ_le (by omega) (by omega)).mpr (by omega))]
theorem pk3 (m0 m1 m2 s : Nat) : (m2 <<< s ||| m1) <<< s ||| m0 = (m0 ||| m1 <<< s) ||| m2 <<< (s + s) := by
  simp only [Nat.shiftLeft_or_distrib, ← Nat.shiftLeft_add]
  ac_rfl
theorem pk4 (m0 m1 m2 m3 s : Nat) : ((m3 <<< s ||| m2) <<< s ||| m1) <<< s ||| m0 = ((m0 ||| m1 <<< s) ||| m2 <<< (s + s)) ||| m3 <<< (s + s + s) := by
  simp only [Nat.shiftLeft_or_distrib, ← Nat.shiftLeft_add]
  ac_rfl
end

