/-- whole numbers as longs of the machine -/
def nL (n : Nat) : Int64 := Int64.ofNat n
theorem nL_or (a b : Nat) : nL a ||| nL b = nL (a ||| b) := by
  unfold nL
  apply Int64.toBitVec_inj.mp
  simp [Int64.toBitVec_or, BitVec.ofNat_or]
theorem nI_toLong {a : Nat} (h : a < 2147483648) : Int32.toInt64 (nI a) = nL a := by
  have e : nL a = Int64.ofInt (a : Int) := (Int64.ofInt_eq_ofNat).symm
  rw [e, ← nJ_toInt h]
  exact (Int64.ofInt_int32ToInt (nI a)).symm
theorem sh_0 (m : Nat) : nL m <<< (Int32.toInt64 (nI 0) &&& 63) = nL (m <<< 0) := by
  have e : (Int32.toInt64 (nI 0) &&& 63) = 0 := by decide +kernel
  rw [e]
  apply Int64.toBitVec_inj.mp
  show (BitVec.ofNat 64 m) <<< (0 : BitVec 64).toNat = BitVec.ofNat 64 (m <<< 0)
  apply BitVec.eq_of_toNat_eq
  rw [BitVec.toNat_shiftLeft, BitVec.toNat_ofNat, BitVec.toNat_ofNat, Nat.shiftLeft_eq, Nat.shiftLeft_eq]
  exact Nat.mod_mul_mod m (2 ^ 0) (2 ^ 64)
theorem sh_16 (m : Nat) : nL m <<< (Int32.toInt64 (nI 16) &&& 63) = nL (m <<< 16) := by
  have e : (Int32.toInt64 (nI 16) &&& 63) = 16 := by decide +kernel
  rw [e]
  apply Int64.toBitVec_inj.mp
  show (BitVec.ofNat 64 m) <<< (16 : BitVec 64).toNat = BitVec.ofNat 64 (m <<< 16)
  apply BitVec.eq_of_toNat_eq
  rw [BitVec.toNat_shiftLeft, BitVec.toNat_ofNat, BitVec.toNat_ofNat, Nat.shiftLeft_eq, Nat.shiftLeft_eq]
  exact Nat.mod_mul_mod m (2 ^ 16) (2 ^ 64)
theorem sh_16b (m : Nat) : nL m <<< (nL 16 &&& 63) = nL (m <<< 16) := sh_16 m
theorem sh_32 (m : Nat) : nL m <<< (Int32.toInt64 (nI 32) &&& 63) = nL (m <<< 32) := by
  have e : (Int32.toInt64 (nI 32) &&& 63) = 32 := by decide +kernel
  rw [e]
  apply Int64.toBitVec_inj.mp
  show (BitVec.ofNat 64 m) <<< (32 : BitVec 64).toNat = BitVec.ofNat 64 (m <<< 32)
  apply BitVec.eq_of_toNat_eq
  rw [BitVec.toNat_shiftLeft, BitVec.toNat_ofNat, BitVec.toNat_ofNat, Nat.shiftLeft_eq, Nat.shiftLeft_eq]
  exact Nat.mod_mul_mod m (2 ^ 32) (2 ^ 64)
theorem sh_48 (m : Nat) : nL m <<< (Int32.toInt64 (nI 48) &&& 63) = nL (m <<< 48) := by
  have e : (Int32.toInt64 (nI 48) &&& 63) = 48 := by decide +kernel
  rw [e]
  apply Int64.toBitVec_inj.mp
  show (BitVec.ofNat 64 m) <<< (48 : BitVec 64).toNat = BitVec.ofNat 64 (m <<< 48)
  apply BitVec.eq_of_toNat_eq
  rw [BitVec.toNat_shiftLeft, BitVec.toNat_ofNat, BitVec.toNat_ofNat, Nat.shiftLeft_eq, Nat.shiftLeft_eq]
  exact Nat.mod_mul_mod m (2 ^ 48) (2 ^ 64)
section
variable {B : Nat} {a : mA} {u : vZ} {v : vS}
theorem xq_pk (w : WF B a) (r : RX a u.2.1.1) {i k : Nat} (c n : Nat) (hi : i < a 0 0) (hk : 16 * i = k) (h4 : i < 4) (hs : ∀ m, nL m <<< (Int32.toInt64 (nI k) &&& 63) = nL (m <<< k)) : fX7_packed_4 (n + 1) (nL c) (nI i) u = fX7_packed_4 n (nL (c ||| (a 1 i <<< k))) (nI (i + 1)) u := by
  have hn := wf_n w
  have h1 := wf_s w i hi
  have l16 : (16 : Int32) = nI 16 := rfl
  have l4 : (4 : Int32) = nI 4 := rfl
  have i1 : ¬ nI 4 ≤ nI i := by rw [nJ_le (by omega) (by omega)]; omega
  have i2 : ¬ u.2.1.1.1 0 0 ≤ nI i := by rw [rx_n r, nJ_le (by omega) (by omega)]; omega
  have i3 : ¬ (nI i < 0 ∨ 8 ≤ Int32.toNatClampNeg (nI i)) := (nJ_in (n := 8) (by omega) (by omega)).mp
  rw [fX7_packed_4, l4, if_neg i1, if_neg i2, if_neg i3, nJ_clamp (by omega), rx_m r i hi, nI_toLong (by omega), l16, nI_mul, hk, hs, nL_or]
  dsimp only [bd]
  rw [l32_1, nJ_add]
theorem xq_pkE (w : WF B a) (r : RX a u.2.1.1) {i : Nat} (c n : Nat) (hi : i ≤ 8) (h : 4 ≤ i ∨ a 0 0 ≤ i) : fX7_packed_4 (n + 1) (nL c) (nI i) u = some (nL c, u) := by
  have hn := wf_n w
  have l4 : (4 : Int32) = nI 4 := rfl
  rw [fX7_packed_4, l4]
  by_cases h4 : 4 ≤ i
  · rw [if_pos ((nJ_le (by omega) (by omega)).mpr h4)]
  · rw [if_neg (by rw [nJ_le (by omega) (by omega)]; exact h4), rx_n r, if_pos ((nJ_le (by omega) (by omega)).mpr (by omega))]
theorem rq_pk (w : WF B a) (q : RR a (v 1)) {i : Nat} (c n : Nat) (hi : i < 4) : fX8_packed_4 (n + 1) (nL c) (nI i) v = fX8_packed_4 n (nL ((c <<< 16) ||| (if i < a 0 0 then a 1 i else 0))) (nI i + (-1)) v := by
  have hn := wf_n w
  have l16 : (16 : Int32) = nI 16 := rfl
  have i0 : ¬ nI i < 0 := nI_neg0 (by omega)
  rw [fX8_packed_4, if_neg i0]
  by_cases h : i < a 0 0
  · have h1 := wf_s w i h
    have i2 : ¬ v 1 0 ≤ nI i := by rw [rr_n q, nJ_le (by omega) (by omega)]; omega
    rw [if_neg i2, if_pos h]
    simp (disch := omega) only [fX8_at, rr_n q, rr_e q, rr_h q, rr_l q, rr_m q, rr_c q, rr_w q, rr_z q, rr_s q, rr_t q, rr_f q, rr_k4 q, rr_k5 q, rr_k6 q, rr_k7 q, nI_toLong, sh_16b, nL_or, lits, nJ_le, nJ_lt, nJ_eq, nJ_clamp, nJ_add, nI_mul, nI_sub, nI_and, nI_or, nI_xor, Nat.add_zero, Nat.not_lt_zero, leF, leT, ltF, ltT, eqF, eqT, bd, obp_some, Option.bind_some, reduceIte, reduceCtorEq, or_self, or_true, true_or, or_false, false_or]
  · have i2 : v 1 0 ≤ nI i := by rw [rr_n q, nJ_le (by omega) (by omega)]; omega
    have e0 : Int32.toInt64 (0 : Int32) = nL 0 := rfl
    rw [if_pos i2, if_neg h, e0, l16, sh_16, nL_or]
    rfl
theorem pk3 (m0 m1 m2 s : Nat) : (m2 <<< s ||| m1) <<< s ||| m0 = (m0 ||| m1 <<< s) ||| m2 <<< (s + s) := by
  simp only [Nat.shiftLeft_or_distrib, ← Nat.shiftLeft_add]
  ac_rfl
theorem pk4 (m0 m1 m2 m3 s : Nat) : ((m3 <<< s ||| m2) <<< s ||| m1) <<< s ||| m0 = ((m0 ||| m1 <<< s) ||| m2 <<< (s + s)) ||| m3 <<< (s + s + s) := by
  simp only [Nat.shiftLeft_or_distrib, ← Nat.shiftLeft_add]
  ac_rfl
theorem q_packed (w : WF B a) (r : RX a u.2.1.1) (q : RR a (v 1)) : QS (fX7_packed u) (fX8_packed v) u v := by
  have hn := wf_n w
  have l3 : (3 : Int32) = nI 3 := rfl
  have L0 : (0 : Int64) = nL 0 := rfl
  have m3 : nI 3 + (-1) = nI 2 := rfl
  have m2 : nI 2 + (-1) = nI 1 := rfl
  have m1 : nI 1 + (-1) = nI 0 := rfl
  have h8 : fX8_packed v = some (nL (((((0 <<< 16 ||| (if 3 < a 0 0 then a 1 3 else 0)) <<< 16) ||| (if 2 < a 0 0 then a 1 2 else 0)) <<< 16 ||| (if 1 < a 0 0 then a 1 1 else 0)) <<< 16 ||| (if 0 < a 0 0 then a 1 0 else 0)), v) := by
    have e0 : fX8_packed v = fX8_packed_4 vF (nL 0) (nI 3) v := rfl
    have ev : vF = 995 + 1 + 1 + 1 + 1 + 1 := rfl
    rw [e0, ev, rq_pk w q (i := 3) 0 _ (by omega), m3, rq_pk w q (i := 2) _ _ (by omega), m2, rq_pk w q (i := 1) _ _ (by omega), m1, rq_pk w q (i := 0) _ _ (by omega), fX8_packed_4]
    exact if_pos (by decide)
  have h7 : ∀ y, fX7_packed_4 (994 + 1 + 1 + 1 + 1 + 1 + 1) (nL 0) (nI 0) u = some (y, u) → fX7_packed u = some (y, u) := by
    intro y h
    have e0 : fX7_packed u = fX7_packed_4 vF (nL 0) (nI 0) u := rfl
    have ev : vF = 994 + 1 + 1 + 1 + 1 + 1 + 1 := rfl
    rw [e0, ev]
    exact h
  have c0 : a 0 0 = 0 ∨ a 0 0 = 1 ∨ a 0 0 = 2 ∨ a 0 0 = 3 ∨ 4 ≤ a 0 0 := by omega
  refine ⟨_, h7 _ ?_, h8⟩
  rcases c0 with e | e | e | e | e
  · rw [xq_pkE w r 0 _ (by omega) (by omega)]
    simp only [e, Nat.not_lt_zero, if_false, Nat.zero_shiftLeft, Nat.or_zero]
  · rw [xq_pk w r (i := 0) (k := 0) 0 _ (by omega) rfl (by omega) sh_0, xq_pkE w r _ _ (by omega) (by omega)]
    simp only [e, Nat.lt_irrefl, Nat.reduceLT, if_true, if_false, Nat.zero_shiftLeft, Nat.or_zero, Nat.zero_or, Nat.shiftLeft_zero]
  · rw [xq_pk w r (i := 0) (k := 0) 0 _ (by omega) rfl (by omega) sh_0, xq_pk w r (i := 0 + 1) (k := 16) _ _ (by omega) rfl (by omega) sh_16, xq_pkE w r _ _ (by omega) (by omega)]
    simp only [e, Nat.lt_irrefl, Nat.reduceLT, if_true, if_false, Nat.zero_shiftLeft, Nat.or_zero, Nat.zero_or, Nat.shiftLeft_zero, Nat.reduceAdd]
    rw [Nat.or_comm]
  · rw [xq_pk w r (i := 0) (k := 0) 0 _ (by omega) rfl (by omega) sh_0, xq_pk w r (i := 0 + 1) (k := 16) _ _ (by omega) rfl (by omega) sh_16, xq_pk w r (i := 0 + 1 + 1) (k := 32) _ _ (by omega) rfl (by omega) sh_32, xq_pkE w r _ _ (by omega) (by omega)]
    rw [if_neg (by omega), if_pos (by omega), if_pos (by omega), if_pos (by omega), Nat.zero_shiftLeft, Nat.or_zero 0, Nat.zero_shiftLeft, Nat.zero_or, Nat.zero_or, Nat.shiftLeft_zero, pk3]
  · rw [xq_pk w r (i := 0) (k := 0) 0 _ (by omega) rfl (by omega) sh_0, xq_pk w r (i := 0 + 1) (k := 16) _ _ (by omega) rfl (by omega) sh_16, xq_pk w r (i := 0 + 1 + 1) (k := 32) _ _ (by omega) rfl (by omega) sh_32, xq_pk w r (i := 0 + 1 + 1 + 1) (k := 48) _ _ (by omega) rfl (by omega) sh_48, xq_pkE w r _ _ (by omega) (by omega)]
    rw [if_pos (by omega), if_pos (by omega), if_pos (by omega), if_pos (by omega)]
    rw [Nat.zero_shiftLeft, Nat.zero_or, Nat.zero_or, Nat.shiftLeft_zero, pk4]
end
