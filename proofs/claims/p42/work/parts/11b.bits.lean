theorem l32_0 : (0 : Int32) = nI 0 := rfl
theorem l32_1 : (1 : Int32) = nI 1 := rfl
theorem nI_shr {a k : Nat} (ha : a < 2147483648) (hk : k < 32) : nI a >>> (nI k &&& 31) = nI (a >>> k) := by
  have hs : a >>> k ≤ a := Nat.shiftRight_le a k
  apply Int32.toInt_inj.mp
  rw [nJ_toInt (by omega)]
  have e : (nI k &&& 31) = nI k := by
    have e31 : (31 : Int32) = nI 31 := rfl
    rw [e31, nI_and]
    congr 1
    have : k &&& 31 = k % 32 := Nat.and_two_pow_sub_one_eq_mod k 5
    omega
  rw [e]
  have h0 : (nI a >>> nI k).toBitVec = (nI a).toBitVec.sshiftRight' ((nI k).toBitVec.smod 32) := rfl
  have h1 : ((nI k).toBitVec.smod 32) = BitVec.ofNat 32 k := by
    have : ∀ k, k < 32 → ((nI k).toBitVec.smod 32) = BitVec.ofNat 32 k := by decide +kernel
    exact this k hk
  have h2 : (nI a >>> nI k).toInt = ((nI a).toBitVec.sshiftRight' (BitVec.ofNat 32 k)).toInt := by
    rw [← h1]
    rfl
  rw [h2, BitVec.toInt_sshiftRight']
  have h3 : (nI a).toBitVec.toInt = (a : Int) := nJ_toInt ha
  rw [h3]
  have h4 : (BitVec.ofNat 32 k).toNat = k := by
    rw [BitVec.toNat_ofNat]
    omega
  rw [h4]
  rfl
theorem nI_shl {a k : Nat} (hk : k < 32) : nI a <<< (nI k &&& 31) = nI (a <<< k) := by
  have e : (nI k &&& 31) = nI k := by
    have e31 : (31 : Int32) = nI 31 := rfl
    rw [e31, nI_and]
    congr 1
    have : k &&& 31 = k % 32 := Nat.and_two_pow_sub_one_eq_mod k 5
    omega
  rw [e]
  apply Int32.toBitVec_inj.mp
  have h0 : (nI a <<< nI k).toBitVec = (nI a).toBitVec <<< ((nI k).toBitVec.smod 32) := rfl
  have h1 : ((nI k).toBitVec.smod 32) = BitVec.ofNat 32 k := by
    have : ∀ k, k < 32 → ((nI k).toBitVec.smod 32) = BitVec.ofNat 32 k := by decide +kernel
    exact this k hk
  rw [h0, h1]
  apply BitVec.eq_of_toNat_eq
  show _ = (BitVec.ofNat 32 (a <<< k)).toNat
  have h4 : (BitVec.ofNat 32 k).toNat = k := by
    rw [BitVec.toNat_ofNat]
    omega
  have h5 : (nI a).toBitVec = BitVec.ofNat 32 a := rfl
  rw [h5]
  show (BitVec.ofNat 32 a <<< (BitVec.ofNat 32 k).toNat).toNat = _
  rw [h4, BitVec.toNat_shiftLeft, BitVec.toNat_ofNat, BitVec.toNat_ofNat, Nat.shiftLeft_eq, Nat.shiftLeft_eq]
  exact Nat.mod_mul_mod a (2 ^ k) (2 ^ 32)
/-- how many bits are set, of the lowest k -/
def pcN : Nat → Nat → Nat
  | 0, _ => 0
  | k + 1, m => m % 2 + pcN k (m / 2)
def pc (m : Nat) : Nat := pcN 16 m
theorem pcN_le (k m : Nat) : pcN k m ≤ k := by
  induction k generalizing m with
  | zero => exact Nat.le_refl 0
  | succ k ih =>
    have := ih (m / 2)
    unfold pcN
    omega
theorem pc_le (m : Nat) : pc m ≤ 16 := pcN_le 16 m
theorem pcN_or (k a b : Nat) : pcN k (a ||| b) = pcN k (a &&& b) + pcN k (a ^^^ b) := by
  induction k generalizing a b with
  | zero => rfl
  | succ k ih =>
    have h1 : (a ||| b) / 2 = a / 2 ||| b / 2 := Nat.or_div_two
    have h2 : (a &&& b) / 2 = (a / 2) &&& (b / 2) := Nat.and_div_two
    have h3 : (a ^^^ b) / 2 = a / 2 ^^^ b / 2 := Nat.xor_div_two
    have h4 : (a ||| b) % 2 = (a &&& b) % 2 + (a ^^^ b) % 2 := by
      have e1 := Nat.or_mod_two_pow (a := a) (b := b) (n := 1)
      have e2 := Nat.and_mod_two_pow (a := a) (b := b) (n := 1)
      have e3 := Nat.xor_mod_two_pow (a := a) (b := b) (n := 1)
      have ha : a % 2 = 0 ∨ a % 2 = 1 := by omega
      have hb : b % 2 = 0 ∨ b % 2 = 1 := by omega
      simp only [Nat.pow_one] at e1 e2 e3
      rcases ha with ha | ha <;> rcases hb with hb | hb <;> rw [e1, e2, e3, ha, hb] <;> rfl
    unfold pcN
    rw [h1, h2, h3, ih]
    omega
theorem pc_or (a b : Nat) : pc (a ||| b) - pc (a &&& b) = pc (a ^^^ b) := by
  have := pcN_or 16 a b
  unfold pc
  omega
theorem pcN_step (k : Nat) : ∀ x, x < 2 ^ k → 0 < x → pcN k (x &&& (x - 1)) + 1 = pcN k x := by
  induction k with
  | zero =>
    intro x h1 h2
    simp at h1
    omega
  | succ k ih =>
    intro x h1 h2
    rw [Nat.pow_succ] at h1
    have hm := Nat.and_mod_two_pow (a := x) (b := x - 1) (n := 1)
    simp only [Nat.pow_one] at hm
    have hd : (x &&& (x - 1)) / 2 = (x / 2) &&& ((x - 1) / 2) := Nat.and_div_two
    unfold pcN
    rw [hm, hd]
    have hx : x % 2 = 0 ∨ x % 2 = 1 := by omega
    rcases hx with hx | hx
    · have e1 : (x - 1) / 2 = x / 2 - 1 := by omega
      have := ih (x / 2) (by omega) (by omega)
      rw [e1, hx, Nat.zero_and]
      omega
    · have e1 : (x - 1) / 2 = x / 2 := by omega
      have e2 : (x - 1) % 2 = 0 := by omega
      rw [e1, e2, hx, Nat.and_zero, Nat.and_self]
      omega
theorem pc_step (x : Nat) (h : x < 65536) (h0 : 0 < x) : pc (x &&& (x - 1)) + 1 = pc x := pcN_step 16 x h h0
theorem and256 {a b c d : Nat} (hb : b < 256) (hd : d < 256) : (256 * a + b) &&& (256 * c + d) = 256 * (a &&& c) + (b &&& d) := by
  have hbd : (b &&& d) < 256 := Nat.lt_of_le_of_lt Nat.and_le_left hb
  apply Nat.eq_of_testBit_eq
  intro i
  have e1 := Nat.testBit_two_pow_mul_add (i := 8) a hb i
  have e2 := Nat.testBit_two_pow_mul_add (i := 8) c hd i
  have e3 := Nat.testBit_two_pow_mul_add (i := 8) (a &&& c) hbd i
  simp only [show (2 : Nat) ^ 8 = 256 from rfl] at e1 e2 e3
  rw [Nat.testBit_and, e1, e2, e3]
  split <;> simp [Nat.testBit_and]
theorem ushr (x k : Nat) (hx : x < 2147483648) (hk : k < 32) : (Int32.toUInt32 (nI x) >>> (Int32.toUInt32 (nI k) &&& Int32.toUInt32 31)).toInt32 = nI (x >>> k) := by
  have hs : x >>> k ≤ x := Nat.shiftRight_le x k
  apply Int32.toBitVec_inj.mp
  apply BitVec.eq_of_toNat_eq
  have h1 : (Int32.toUInt32 (nI k) &&& Int32.toUInt32 31) = Int32.toUInt32 (nI k) := by
    have : ∀ k, k < 32 → (Int32.toUInt32 (nI k) &&& Int32.toUInt32 31) = Int32.toUInt32 (nI k) := by decide +kernel
    exact this k hk
  rw [h1]
  have h2 : (Int32.toUInt32 (nI x) >>> Int32.toUInt32 (nI k)).toInt32.toBitVec = (BitVec.ofNat 32 x) >>> ((BitVec.ofNat 32 k) % 32) := rfl
  rw [h2]
  have h3 : ((BitVec.ofNat 32 k) % 32) = BitVec.ofNat 32 k := by
    have : ∀ k, k < 32 → ((BitVec.ofNat 32 k) % 32) = BitVec.ofNat 32 k := by decide +kernel
    exact this k hk
  rw [h3]
  show (BitVec.ofNat 32 x >>> (BitVec.ofNat 32 k).toNat).toNat = (BitVec.ofNat 32 (x >>> k)).toNat
  rw [BitVec.toNat_ushiftRight, BitVec.toNat_ofNat, BitVec.toNat_ofNat, BitVec.toNat_ofNat, Nat.mod_eq_of_lt (by omega), Nat.mod_eq_of_lt (by omega), Nat.mod_eq_of_lt (by omega)]
theorem pc_byte (a b : Nat) (hb : b < 256) : pc (256 * a + b) = pcN 8 a + pcN 8 b := by
  have h : ∀ (k m a b : Nat), b < 2 ^ k → pcN (k + m) (2 ^ k * a + b) = pcN m a + pcN k b := by
    intro k
    induction k with
    | zero =>
      intro m a b hb
      have : b = 0 := by simpa using hb
      subst this
      simp [pcN]
    | succ k ih =>
      intro m a b hb
      rw [Nat.pow_succ] at hb
      have e : k + 1 + m = (k + m) + 1 := by omega
      rw [e]
      unfold pcN
      have e1 : (2 ^ (k + 1) * a + b) % 2 = b % 2 := by
        rw [Nat.pow_succ, show 2 ^ k * 2 * a = 2 * (2 ^ k * a) from by rw [Nat.mul_comm (2 ^ k) 2, Nat.mul_assoc]]
        omega
      have e2 : (2 ^ (k + 1) * a + b) / 2 = 2 ^ k * a + b / 2 := by
        rw [Nat.pow_succ, show 2 ^ k * 2 * a = 2 * (2 ^ k * a) from by rw [Nat.mul_comm (2 ^ k) 2, Nat.mul_assoc]]
        omega
      rw [e1, e2, ih m a (b / 2) (by omega)]
      cases m <;> simp [pcN] <;> omega
  exact h 8 8 a b hb
/-- the library's own count of bits -/
theorem jbits (x : Nat) (hx : x < 65536) : fJ6_bitCount_0f7a4 (nI x) = some (nI (pc x)) := by
  obtain ⟨a, b, ha, hb, rfl⟩ : ∃ a b, a < 256 ∧ b < 256 ∧ x = 256 * a + b := ⟨x / 256, x % 256, by omega, by omega, by omega⟩
  rw [pc_byte a b hb]
  have d1 : ∀ r, r < 2 → ∀ b, b < 256 → ((128 * r + b / 2) &&& 85) = ((b / 2) &&& 85) := by decide +kernel
  have d1' : ∀ a, a < 256 → ((a / 2) &&& 5592405) = ((a / 2) &&& 85) ∧ ((a / 2) &&& 85) ≤ a := by decide +kernel
  have d2 : ∀ r, r < 4 → ∀ b, b < 256 → ((64 * r + b / 4) &&& 51) = ((b / 4) &&& 51) := by decide +kernel
  have d2' : ∀ a, a < 256 → (a &&& 3355443) = (a &&& 51) ∧ ((a / 4) &&& 3355443) = ((a / 4) &&& 51) := by decide +kernel
  have d3 : ∀ a, a < 256 → a - ((a / 2) &&& 85) < 256 := by
    intro a h
    omega
  have d4 : ∀ a, a < 256 → (a &&& 51) + ((a / 4) &&& 51) ≤ 102 := by decide +kernel
  have d5 : ∀ a, a < 256 → (((a - ((a / 2) &&& 85)) &&& 51) + (((a - ((a / 2) &&& 85)) / 4) &&& 51)) % 16 ≤ 4 ∧ (((a - ((a / 2) &&& 85)) &&& 51) + (((a - ((a / 2) &&& 85)) / 4) &&& 51)) ≤ 68 ∧ ((((a - ((a / 2) &&& 85)) &&& 51) + (((a - ((a / 2) &&& 85)) / 4) &&& 51)) + (((a - ((a / 2) &&& 85)) &&& 51) + (((a - ((a / 2) &&& 85)) / 4) &&& 51)) / 16) % 16 = pcN 8 a := by decide +kernel
  have d6 : ∀ a, a < 256 → (a &&& 15) = a % 16 := by decide +kernel
  have d6' : ∀ a, a < 256 → (a &&& 986895) = a % 16 := by decide +kernel
  obtain ⟨f1, f2, f3⟩ := d5 a ha
  obtain ⟨g1, g2, g3⟩ := d5 b hb
  have q1 : (256 * a + b) >>> 1 = 256 * (a / 2) + (128 * (a % 2) + b / 2) := by
    rw [Nat.shiftRight_eq_div_pow]
    omega
  have q2 : ((256 * a + b) >>> 1) &&& 1431655765 = 256 * ((a / 2) &&& 85) + ((b / 2) &&& 85) := by
    rw [q1, show (1431655765 : Nat) = 256 * 5592405 + 85 from rfl, and256 (by omega) (by omega), (d1' a ha).1, d1 (a % 2) (by omega) b hb]
  have q3 : (256 * a + b) - (256 * ((a / 2) &&& 85) + ((b / 2) &&& 85)) = 256 * (a - ((a / 2) &&& 85)) + (b - ((b / 2) &&& 85)) := by
    have := (d1' a ha).2
    have := (d1' b hb).2
    omega
  have q3' : 256 * ((a / 2) &&& 85) + ((b / 2) &&& 85) ≤ 256 * a + b := by
    have := (d1' a ha).2
    have := (d1' b hb).2
    omega
  have hp := d3 a ha
  have hq := d3 b hb
  generalize hpe : a - ((a / 2) &&& 85) = p at *
  generalize hqe : b - ((b / 2) &&& 85) = q at *
  have q4 : (256 * p + q) &&& 858993459 = 256 * (p &&& 51) + (q &&& 51) := by
    rw [show (858993459 : Nat) = 256 * 3355443 + 51 from rfl, and256 hq (by omega), (d2' p hp).1]
  have q5 : ((256 * p + q) >>> 2) &&& 858993459 = 256 * ((p / 4) &&& 51) + ((q / 4) &&& 51) := by
    rw [show (256 * p + q) >>> 2 = 256 * (p / 4) + (64 * (p % 4) + q / 4) from by
      rw [Nat.shiftRight_eq_div_pow]
      omega, show (858993459 : Nat) = 256 * 3355443 + 51 from rfl, and256 (by omega) (by omega), (d2' p hp).2, d2 (p % 4) (by omega) q hq]
  have q6 : 256 * (p &&& 51) + (q &&& 51) + (256 * ((p / 4) &&& 51) + ((q / 4) &&& 51)) = 256 * ((p &&& 51) + ((p / 4) &&& 51)) + ((q &&& 51) + ((q / 4) &&& 51)) := by omega
  generalize hre : (p &&& 51) + ((p / 4) &&& 51) = r at *
  generalize hse : (q &&& 51) + ((q / 4) &&& 51) = s at *
  have q7 : (256 * r + s + ((256 * r + s) >>> 4)) &&& 252645135 = 256 * (pcN 8 a) + pcN 8 b := by
    rw [show 256 * r + s + ((256 * r + s) >>> 4) = 256 * (r + r / 16) + (s + s / 16 + 16 * (r % 16)) from by
      rw [Nat.shiftRight_eq_div_pow]
      omega, show (252645135 : Nat) = 256 * 986895 + 15 from rfl, and256 (by omega) (by omega), d6' _ (by omega), d6 _ (by omega), f3]
    omega
  have hA : pcN 8 a ≤ 8 := pcN_le 8 a
  have hB : pcN 8 b ≤ 8 := pcN_le 8 b
  have c1 : (1431655765 : Int32) = nI 1431655765 := rfl
  have c2 : (858993459 : Int32) = nI 858993459 := rfl
  have c3 : (252645135 : Int32) = nI 252645135 := rfl
  have s1 : (1 : Int32) = nI 1 := rfl
  have s2 : (2 : Int32) = nI 2 := rfl
  have s4 : (4 : Int32) = nI 4 := rfl
  have s8 : (8 : Int32) = nI 8 := rfl
  have s16 : (16 : Int32) = nI 16 := rfl
  have s63 : (63 : Int32) = nI 63 := rfl
  dsimp only [fJ6_bitCount_0f7a4, bd]
  rw [s1, ushr _ 1 (by omega) (by omega), c1, nI_and, q2, nI_sub q3', q3, s2, ushr _ 2 (by omega) (by omega), c2, nI_and, nI_and, nJ_add, q4, q5, q6, s4, ushr _ 4 (by omega) (by omega), nJ_add, c3, nI_and, q7, s8, ushr _ 8 (by omega) (by omega), nJ_add, s16, ushr _ 16 (by rw [Nat.shiftRight_eq_div_pow]; omega) (by omega), nJ_add, s63, nI_and]
  congr 2
  have z1 : (256 * pcN 8 a + pcN 8 b) >>> 8 = pcN 8 a := by
    rw [Nat.shiftRight_eq_div_pow]
    omega
  have z2 : (256 * pcN 8 a + pcN 8 b + pcN 8 a) >>> 16 = 0 := by
    rw [Nat.shiftRight_eq_div_pow]
    omega
  rw [z1, z2]
  have z3 : ∀ y : Nat, y &&& 63 = y % 64 := fun y => Nat.and_two_pow_sub_one_eq_mod y 6
  rw [z3]
  omega
