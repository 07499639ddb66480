def chr (m : Nat) : Nat := pc (m &&& 255)
def drd (m : Nat) : Nat := pc (m >>> 8)
theorem chr_le (m : Nat) : chr m ≤ 8 := by
  have h : (m &&& 255) = m % 256 := Nat.and_two_pow_sub_one_eq_mod m 8
  have := pc_byte 0 (m % 256) (by omega)
  rw [Nat.mul_zero, Nat.zero_add] at this
  have h8 : pcN 8 0 = 0 := by decide
  have := pcN_le 8 (m % 256)
  unfold chr
  rw [h]
  omega
theorem drd_le {m : Nat} (hm : m < 65536) : drd m ≤ 8 := by
  unfold drd
  rw [Nat.shiftRight_eq_div_pow]
  have := pc_byte 0 (m / 2 ^ 8) (by omega)
  rw [Nat.mul_zero, Nat.zero_add] at this
  have h8 : pcN 8 0 = 0 := by decide
  have := pcN_le 8 (m / 2 ^ 8)
  omega
theorem drd_and {m : Nat} (hm : m < 65536) : pc (m &&& 65280) = drd m := by
  have h1 : m &&& 65280 = 256 * (m / 256) + 0 := by
    have e : m = 256 * (m / 256) + m % 256 := by omega
    have h := and256 (a := m / 256) (b := m % 256) (c := 255) (d := 0) (by omega) (by omega)
    rw [← e] at h
    rw [show (65280 : Nat) = 256 * 255 + 0 from rfl, h, Nat.and_zero, show (255 : Nat) = 2 ^ 8 - 1 from rfl, Nat.and_two_pow_sub_one_eq_mod]
    have : m / 256 % 2 ^ 8 = m / 256 := Nat.mod_eq_of_lt (by omega)
    rw [this]
  rw [h1, pc_byte _ _ (by omega)]
  unfold drd
  rw [Nat.shiftRight_eq_div_pow]
  have := pc_byte 0 (m / 2 ^ 8) (by omega)
  rw [Nat.mul_zero, Nat.zero_add] at this
  rw [this]
  have h8 : pcN 8 0 = 0 := by decide
  simp only [Nat.reducePow]
  omega
/-- a mood, turned once, and turned h times -/
def rot1 (m : Nat) : Nat := m * 2 % 65536 + m / 32768
def rotN : Nat → Nat → Nat
  | 0, m => m
  | h + 1, m => rot1 (rotN h m)
theorem rot1_lt {m : Nat} (h : m < 65536) : rot1 m < 65536 := by
  unfold rot1
  omega
theorem rotN_lt {m : Nat} (h : m < 65536) (k : Nat) : rotN k m < 65536 := by
  induction k with
  | zero => exact h
  | succ k ih => exact rot1_lt ih
theorem rotN_add (j k m : Nat) : rotN (j + k) m = rotN j (rotN k m) := by
  induction j with
  | zero => rw [Nat.zero_add]; rfl
  | succ j ih =>
    rw [Nat.succ_add]
    show rot1 (rotN (j + k) m) = rot1 (rotN j (rotN k m))
    rw [ih]
set_option maxRecDepth 20000 in
theorem rot_0 (m : Nat) (hm : m < 65536) : rot1 (m * 2 ^ 0 % 65536 + m / 2 ^ (16 - 0)) = m * 2 ^ (0 + 1) % 65536 + m / 2 ^ (16 - (0 + 1)) := by
  simp only [Nat.reduceAdd, Nat.reduceSub, Nat.reducePow]
  obtain ⟨A, C, D, hA, hC, hD, e⟩ : ∃ A C D, A < 1 ∧ (C = 0 ∨ C = 1) ∧ D < 32768 ∧ m = 65536 * A + 32768 * C + D := ⟨m / 65536, m % 65536 / 32768, m % 32768, by omega, by omega, by omega, by omega⟩
  have e1 : m * 1 % 65536 = 32768 * C + 1 * D := by omega
  have e2 : m / 65536 = A := by omega
  have e3a : m * 2 = 65536 * (2 * A + C) + 2 * D := by omega
  have e3 : m * 2 % 65536 = 2 * D := by rw [e3a, Nat.mul_add_mod, Nat.mod_eq_of_lt (by omega)]
  have e4 : m / 32768 = 2 * A + C := by omega
  rw [e1, e2, e3, e4]
  have hV : 1 * D + A < 32768 := by omega
  have e5 : 2 * D + (2 * A + C) = 2 * (1 * D + A) + C := by omega
  rw [e5, show 32768 * C + 1 * D + A = 32768 * C + (1 * D + A) from by omega]
  generalize 1 * D + A = V at hV
  unfold rot1
  rcases hC with rfl | rfl <;> omega
set_option maxRecDepth 20000 in
theorem rot_1 (m : Nat) (hm : m < 65536) : rot1 (m * 2 ^ 1 % 65536 + m / 2 ^ (16 - 1)) = m * 2 ^ (1 + 1) % 65536 + m / 2 ^ (16 - (1 + 1)) := by
  simp only [Nat.reduceAdd, Nat.reduceSub, Nat.reducePow]
  obtain ⟨A, C, D, hA, hC, hD, e⟩ : ∃ A C D, A < 2 ∧ (C = 0 ∨ C = 1) ∧ D < 16384 ∧ m = 32768 * A + 16384 * C + D := ⟨m / 32768, m % 32768 / 16384, m % 16384, by omega, by omega, by omega, by omega⟩
  have e1 : m * 2 % 65536 = 32768 * C + 2 * D := by omega
  have e2 : m / 32768 = A := by omega
  have e3a : m * 4 = 65536 * (2 * A + C) + 4 * D := by omega
  have e3 : m * 4 % 65536 = 4 * D := by rw [e3a, Nat.mul_add_mod, Nat.mod_eq_of_lt (by omega)]
  have e4 : m / 16384 = 2 * A + C := by omega
  rw [e1, e2, e3, e4]
  have hV : 2 * D + A < 32768 := by omega
  have e5 : 4 * D + (2 * A + C) = 2 * (2 * D + A) + C := by omega
  rw [e5, show 32768 * C + 2 * D + A = 32768 * C + (2 * D + A) from by omega]
  generalize 2 * D + A = V at hV
  unfold rot1
  rcases hC with rfl | rfl <;> omega
set_option maxRecDepth 20000 in
theorem rot_2 (m : Nat) (hm : m < 65536) : rot1 (m * 2 ^ 2 % 65536 + m / 2 ^ (16 - 2)) = m * 2 ^ (2 + 1) % 65536 + m / 2 ^ (16 - (2 + 1)) := by
  simp only [Nat.reduceAdd, Nat.reduceSub, Nat.reducePow]
  obtain ⟨A, C, D, hA, hC, hD, e⟩ : ∃ A C D, A < 4 ∧ (C = 0 ∨ C = 1) ∧ D < 8192 ∧ m = 16384 * A + 8192 * C + D := ⟨m / 16384, m % 16384 / 8192, m % 8192, by omega, by omega, by omega, by omega⟩
  have e1 : m * 4 % 65536 = 32768 * C + 4 * D := by omega
  have e2 : m / 16384 = A := by omega
  have e3a : m * 8 = 65536 * (2 * A + C) + 8 * D := by omega
  have e3 : m * 8 % 65536 = 8 * D := by rw [e3a, Nat.mul_add_mod, Nat.mod_eq_of_lt (by omega)]
  have e4 : m / 8192 = 2 * A + C := by omega
  rw [e1, e2, e3, e4]
  have hV : 4 * D + A < 32768 := by omega
  have e5 : 8 * D + (2 * A + C) = 2 * (4 * D + A) + C := by omega
  rw [e5, show 32768 * C + 4 * D + A = 32768 * C + (4 * D + A) from by omega]
  generalize 4 * D + A = V at hV
  unfold rot1
  rcases hC with rfl | rfl <;> omega
set_option maxRecDepth 20000 in
theorem rot_3 (m : Nat) (hm : m < 65536) : rot1 (m * 2 ^ 3 % 65536 + m / 2 ^ (16 - 3)) = m * 2 ^ (3 + 1) % 65536 + m / 2 ^ (16 - (3 + 1)) := by
  simp only [Nat.reduceAdd, Nat.reduceSub, Nat.reducePow]
  obtain ⟨A, C, D, hA, hC, hD, e⟩ : ∃ A C D, A < 8 ∧ (C = 0 ∨ C = 1) ∧ D < 4096 ∧ m = 8192 * A + 4096 * C + D := ⟨m / 8192, m % 8192 / 4096, m % 4096, by omega, by omega, by omega, by omega⟩
  have e1 : m * 8 % 65536 = 32768 * C + 8 * D := by omega
  have e2 : m / 8192 = A := by omega
  have e3a : m * 16 = 65536 * (2 * A + C) + 16 * D := by omega
  have e3 : m * 16 % 65536 = 16 * D := by rw [e3a, Nat.mul_add_mod, Nat.mod_eq_of_lt (by omega)]
  have e4 : m / 4096 = 2 * A + C := by omega
  rw [e1, e2, e3, e4]
  have hV : 8 * D + A < 32768 := by omega
  have e5 : 16 * D + (2 * A + C) = 2 * (8 * D + A) + C := by omega
  rw [e5, show 32768 * C + 8 * D + A = 32768 * C + (8 * D + A) from by omega]
  generalize 8 * D + A = V at hV
  unfold rot1
  rcases hC with rfl | rfl <;> omega
set_option maxRecDepth 20000 in
theorem rot_4 (m : Nat) (hm : m < 65536) : rot1 (m * 2 ^ 4 % 65536 + m / 2 ^ (16 - 4)) = m * 2 ^ (4 + 1) % 65536 + m / 2 ^ (16 - (4 + 1)) := by
  simp only [Nat.reduceAdd, Nat.reduceSub, Nat.reducePow]
  obtain ⟨A, C, D, hA, hC, hD, e⟩ : ∃ A C D, A < 16 ∧ (C = 0 ∨ C = 1) ∧ D < 2048 ∧ m = 4096 * A + 2048 * C + D := ⟨m / 4096, m % 4096 / 2048, m % 2048, by omega, by omega, by omega, by omega⟩
  have e1 : m * 16 % 65536 = 32768 * C + 16 * D := by omega
  have e2 : m / 4096 = A := by omega
  have e3a : m * 32 = 65536 * (2 * A + C) + 32 * D := by omega
  have e3 : m * 32 % 65536 = 32 * D := by rw [e3a, Nat.mul_add_mod, Nat.mod_eq_of_lt (by omega)]
  have e4 : m / 2048 = 2 * A + C := by omega
  rw [e1, e2, e3, e4]
  have hV : 16 * D + A < 32768 := by omega
  have e5 : 32 * D + (2 * A + C) = 2 * (16 * D + A) + C := by omega
  rw [e5, show 32768 * C + 16 * D + A = 32768 * C + (16 * D + A) from by omega]
  generalize 16 * D + A = V at hV
  unfold rot1
  rcases hC with rfl | rfl <;> omega
set_option maxRecDepth 20000 in
theorem rot_5 (m : Nat) (hm : m < 65536) : rot1 (m * 2 ^ 5 % 65536 + m / 2 ^ (16 - 5)) = m * 2 ^ (5 + 1) % 65536 + m / 2 ^ (16 - (5 + 1)) := by
  simp only [Nat.reduceAdd, Nat.reduceSub, Nat.reducePow]
  obtain ⟨A, C, D, hA, hC, hD, e⟩ : ∃ A C D, A < 32 ∧ (C = 0 ∨ C = 1) ∧ D < 1024 ∧ m = 2048 * A + 1024 * C + D := ⟨m / 2048, m % 2048 / 1024, m % 1024, by omega, by omega, by omega, by omega⟩
  have e1 : m * 32 % 65536 = 32768 * C + 32 * D := by omega
  have e2 : m / 2048 = A := by omega
  have e3a : m * 64 = 65536 * (2 * A + C) + 64 * D := by omega
  have e3 : m * 64 % 65536 = 64 * D := by rw [e3a, Nat.mul_add_mod, Nat.mod_eq_of_lt (by omega)]
  have e4 : m / 1024 = 2 * A + C := by omega
  rw [e1, e2, e3, e4]
  have hV : 32 * D + A < 32768 := by omega
  have e5 : 64 * D + (2 * A + C) = 2 * (32 * D + A) + C := by omega
  rw [e5, show 32768 * C + 32 * D + A = 32768 * C + (32 * D + A) from by omega]
  generalize 32 * D + A = V at hV
  unfold rot1
  rcases hC with rfl | rfl <;> omega
set_option maxRecDepth 20000 in
theorem rot_6 (m : Nat) (hm : m < 65536) : rot1 (m * 2 ^ 6 % 65536 + m / 2 ^ (16 - 6)) = m * 2 ^ (6 + 1) % 65536 + m / 2 ^ (16 - (6 + 1)) := by
  simp only [Nat.reduceAdd, Nat.reduceSub, Nat.reducePow]
  obtain ⟨A, C, D, hA, hC, hD, e⟩ : ∃ A C D, A < 64 ∧ (C = 0 ∨ C = 1) ∧ D < 512 ∧ m = 1024 * A + 512 * C + D := ⟨m / 1024, m % 1024 / 512, m % 512, by omega, by omega, by omega, by omega⟩
  have e1 : m * 64 % 65536 = 32768 * C + 64 * D := by omega
  have e2 : m / 1024 = A := by omega
  have e3a : m * 128 = 65536 * (2 * A + C) + 128 * D := by omega
  have e3 : m * 128 % 65536 = 128 * D := by rw [e3a, Nat.mul_add_mod, Nat.mod_eq_of_lt (by omega)]
  have e4 : m / 512 = 2 * A + C := by omega
  rw [e1, e2, e3, e4]
  have hV : 64 * D + A < 32768 := by omega
  have e5 : 128 * D + (2 * A + C) = 2 * (64 * D + A) + C := by omega
  rw [e5, show 32768 * C + 64 * D + A = 32768 * C + (64 * D + A) from by omega]
  generalize 64 * D + A = V at hV
  unfold rot1
  rcases hC with rfl | rfl <;> omega
set_option maxRecDepth 20000 in
theorem rot_7 (m : Nat) (hm : m < 65536) : rot1 (m * 2 ^ 7 % 65536 + m / 2 ^ (16 - 7)) = m * 2 ^ (7 + 1) % 65536 + m / 2 ^ (16 - (7 + 1)) := by
  simp only [Nat.reduceAdd, Nat.reduceSub, Nat.reducePow]
  obtain ⟨A, C, D, hA, hC, hD, e⟩ : ∃ A C D, A < 128 ∧ (C = 0 ∨ C = 1) ∧ D < 256 ∧ m = 512 * A + 256 * C + D := ⟨m / 512, m % 512 / 256, m % 256, by omega, by omega, by omega, by omega⟩
  have e1 : m * 128 % 65536 = 32768 * C + 128 * D := by omega
  have e2 : m / 512 = A := by omega
  have e3a : m * 256 = 65536 * (2 * A + C) + 256 * D := by omega
  have e3 : m * 256 % 65536 = 256 * D := by rw [e3a, Nat.mul_add_mod, Nat.mod_eq_of_lt (by omega)]
  have e4 : m / 256 = 2 * A + C := by omega
  rw [e1, e2, e3, e4]
  have hV : 128 * D + A < 32768 := by omega
  have e5 : 256 * D + (2 * A + C) = 2 * (128 * D + A) + C := by omega
  rw [e5, show 32768 * C + 128 * D + A = 32768 * C + (128 * D + A) from by omega]
  generalize 128 * D + A = V at hV
  unfold rot1
  rcases hC with rfl | rfl <;> omega
set_option maxRecDepth 20000 in
theorem rot_8 (m : Nat) (hm : m < 65536) : rot1 (m * 2 ^ 8 % 65536 + m / 2 ^ (16 - 8)) = m * 2 ^ (8 + 1) % 65536 + m / 2 ^ (16 - (8 + 1)) := by
  simp only [Nat.reduceAdd, Nat.reduceSub, Nat.reducePow]
  obtain ⟨A, C, D, hA, hC, hD, e⟩ : ∃ A C D, A < 256 ∧ (C = 0 ∨ C = 1) ∧ D < 128 ∧ m = 256 * A + 128 * C + D := ⟨m / 256, m % 256 / 128, m % 128, by omega, by omega, by omega, by omega⟩
  have e1 : m * 256 % 65536 = 32768 * C + 256 * D := by omega
  have e2 : m / 256 = A := by omega
  have e3a : m * 512 = 65536 * (2 * A + C) + 512 * D := by omega
  have e3 : m * 512 % 65536 = 512 * D := by rw [e3a, Nat.mul_add_mod, Nat.mod_eq_of_lt (by omega)]
  have e4 : m / 128 = 2 * A + C := by omega
  rw [e1, e2, e3, e4]
  have hV : 256 * D + A < 32768 := by omega
  have e5 : 512 * D + (2 * A + C) = 2 * (256 * D + A) + C := by omega
  rw [e5, show 32768 * C + 256 * D + A = 32768 * C + (256 * D + A) from by omega]
  generalize 256 * D + A = V at hV
  unfold rot1
  rcases hC with rfl | rfl <;> omega
set_option maxRecDepth 20000 in
theorem rot_9 (m : Nat) (hm : m < 65536) : rot1 (m * 2 ^ 9 % 65536 + m / 2 ^ (16 - 9)) = m * 2 ^ (9 + 1) % 65536 + m / 2 ^ (16 - (9 + 1)) := by
  simp only [Nat.reduceAdd, Nat.reduceSub, Nat.reducePow]
  obtain ⟨A, C, D, hA, hC, hD, e⟩ : ∃ A C D, A < 512 ∧ (C = 0 ∨ C = 1) ∧ D < 64 ∧ m = 128 * A + 64 * C + D := ⟨m / 128, m % 128 / 64, m % 64, by omega, by omega, by omega, by omega⟩
  have e1 : m * 512 % 65536 = 32768 * C + 512 * D := by omega
  have e2 : m / 128 = A := by omega
  have e3a : m * 1024 = 65536 * (2 * A + C) + 1024 * D := by omega
  have e3 : m * 1024 % 65536 = 1024 * D := by rw [e3a, Nat.mul_add_mod, Nat.mod_eq_of_lt (by omega)]
  have e4 : m / 64 = 2 * A + C := by omega
  rw [e1, e2, e3, e4]
  have hV : 512 * D + A < 32768 := by omega
  have e5 : 1024 * D + (2 * A + C) = 2 * (512 * D + A) + C := by omega
  rw [e5, show 32768 * C + 512 * D + A = 32768 * C + (512 * D + A) from by omega]
  generalize 512 * D + A = V at hV
  unfold rot1
  rcases hC with rfl | rfl <;> omega
set_option maxRecDepth 20000 in
theorem rot_10 (m : Nat) (hm : m < 65536) : rot1 (m * 2 ^ 10 % 65536 + m / 2 ^ (16 - 10)) = m * 2 ^ (10 + 1) % 65536 + m / 2 ^ (16 - (10 + 1)) := by
  simp only [Nat.reduceAdd, Nat.reduceSub, Nat.reducePow]
  obtain ⟨A, C, D, hA, hC, hD, e⟩ : ∃ A C D, A < 1024 ∧ (C = 0 ∨ C = 1) ∧ D < 32 ∧ m = 64 * A + 32 * C + D := ⟨m / 64, m % 64 / 32, m % 32, by omega, by omega, by omega, by omega⟩
  have e1 : m * 1024 % 65536 = 32768 * C + 1024 * D := by omega
  have e2 : m / 64 = A := by omega
  have e3a : m * 2048 = 65536 * (2 * A + C) + 2048 * D := by omega
  have e3 : m * 2048 % 65536 = 2048 * D := by rw [e3a, Nat.mul_add_mod, Nat.mod_eq_of_lt (by omega)]
  have e4 : m / 32 = 2 * A + C := by omega
  rw [e1, e2, e3, e4]
  have hV : 1024 * D + A < 32768 := by omega
  have e5 : 2048 * D + (2 * A + C) = 2 * (1024 * D + A) + C := by omega
  rw [e5, show 32768 * C + 1024 * D + A = 32768 * C + (1024 * D + A) from by omega]
  generalize 1024 * D + A = V at hV
  unfold rot1
  rcases hC with rfl | rfl <;> omega
set_option maxRecDepth 20000 in
theorem rot_11 (m : Nat) (hm : m < 65536) : rot1 (m * 2 ^ 11 % 65536 + m / 2 ^ (16 - 11)) = m * 2 ^ (11 + 1) % 65536 + m / 2 ^ (16 - (11 + 1)) := by
  simp only [Nat.reduceAdd, Nat.reduceSub, Nat.reducePow]
  obtain ⟨A, C, D, hA, hC, hD, e⟩ : ∃ A C D, A < 2048 ∧ (C = 0 ∨ C = 1) ∧ D < 16 ∧ m = 32 * A + 16 * C + D := ⟨m / 32, m % 32 / 16, m % 16, by omega, by omega, by omega, by omega⟩
  have e1 : m * 2048 % 65536 = 32768 * C + 2048 * D := by omega
  have e2 : m / 32 = A := by omega
  have e3a : m * 4096 = 65536 * (2 * A + C) + 4096 * D := by omega
  have e3 : m * 4096 % 65536 = 4096 * D := by rw [e3a, Nat.mul_add_mod, Nat.mod_eq_of_lt (by omega)]
  have e4 : m / 16 = 2 * A + C := by omega
  rw [e1, e2, e3, e4]
  have hV : 2048 * D + A < 32768 := by omega
  have e5 : 4096 * D + (2 * A + C) = 2 * (2048 * D + A) + C := by omega
  rw [e5, show 32768 * C + 2048 * D + A = 32768 * C + (2048 * D + A) from by omega]
  generalize 2048 * D + A = V at hV
  unfold rot1
  rcases hC with rfl | rfl <;> omega
set_option maxRecDepth 20000 in
theorem rot_12 (m : Nat) (hm : m < 65536) : rot1 (m * 2 ^ 12 % 65536 + m / 2 ^ (16 - 12)) = m * 2 ^ (12 + 1) % 65536 + m / 2 ^ (16 - (12 + 1)) := by
  simp only [Nat.reduceAdd, Nat.reduceSub, Nat.reducePow]
  obtain ⟨A, C, D, hA, hC, hD, e⟩ : ∃ A C D, A < 4096 ∧ (C = 0 ∨ C = 1) ∧ D < 8 ∧ m = 16 * A + 8 * C + D := ⟨m / 16, m % 16 / 8, m % 8, by omega, by omega, by omega, by omega⟩
  have e1 : m * 4096 % 65536 = 32768 * C + 4096 * D := by omega
  have e2 : m / 16 = A := by omega
  have e3a : m * 8192 = 65536 * (2 * A + C) + 8192 * D := by omega
  have e3 : m * 8192 % 65536 = 8192 * D := by rw [e3a, Nat.mul_add_mod, Nat.mod_eq_of_lt (by omega)]
  have e4 : m / 8 = 2 * A + C := by omega
  rw [e1, e2, e3, e4]
  have hV : 4096 * D + A < 32768 := by omega
  have e5 : 8192 * D + (2 * A + C) = 2 * (4096 * D + A) + C := by omega
  rw [e5, show 32768 * C + 4096 * D + A = 32768 * C + (4096 * D + A) from by omega]
  generalize 4096 * D + A = V at hV
  unfold rot1
  rcases hC with rfl | rfl <;> omega
set_option maxRecDepth 20000 in
theorem rot_13 (m : Nat) (hm : m < 65536) : rot1 (m * 2 ^ 13 % 65536 + m / 2 ^ (16 - 13)) = m * 2 ^ (13 + 1) % 65536 + m / 2 ^ (16 - (13 + 1)) := by
  simp only [Nat.reduceAdd, Nat.reduceSub, Nat.reducePow]
  obtain ⟨A, C, D, hA, hC, hD, e⟩ : ∃ A C D, A < 8192 ∧ (C = 0 ∨ C = 1) ∧ D < 4 ∧ m = 8 * A + 4 * C + D := ⟨m / 8, m % 8 / 4, m % 4, by omega, by omega, by omega, by omega⟩
  have e1 : m * 8192 % 65536 = 32768 * C + 8192 * D := by omega
  have e2 : m / 8 = A := by omega
  have e3a : m * 16384 = 65536 * (2 * A + C) + 16384 * D := by omega
  have e3 : m * 16384 % 65536 = 16384 * D := by rw [e3a, Nat.mul_add_mod, Nat.mod_eq_of_lt (by omega)]
  have e4 : m / 4 = 2 * A + C := by omega
  rw [e1, e2, e3, e4]
  have hV : 8192 * D + A < 32768 := by omega
  have e5 : 16384 * D + (2 * A + C) = 2 * (8192 * D + A) + C := by omega
  rw [e5, show 32768 * C + 8192 * D + A = 32768 * C + (8192 * D + A) from by omega]
  generalize 8192 * D + A = V at hV
  unfold rot1
  rcases hC with rfl | rfl <;> omega
set_option maxRecDepth 20000 in
theorem rot_14 (m : Nat) (hm : m < 65536) : rot1 (m * 2 ^ 14 % 65536 + m / 2 ^ (16 - 14)) = m * 2 ^ (14 + 1) % 65536 + m / 2 ^ (16 - (14 + 1)) := by
  simp only [Nat.reduceAdd, Nat.reduceSub, Nat.reducePow]
  obtain ⟨A, C, D, hA, hC, hD, e⟩ : ∃ A C D, A < 16384 ∧ (C = 0 ∨ C = 1) ∧ D < 2 ∧ m = 4 * A + 2 * C + D := ⟨m / 4, m % 4 / 2, m % 2, by omega, by omega, by omega, by omega⟩
  have e1 : m * 16384 % 65536 = 32768 * C + 16384 * D := by omega
  have e2 : m / 4 = A := by omega
  have e3a : m * 32768 = 65536 * (2 * A + C) + 32768 * D := by omega
  have e3 : m * 32768 % 65536 = 32768 * D := by rw [e3a, Nat.mul_add_mod, Nat.mod_eq_of_lt (by omega)]
  have e4 : m / 2 = 2 * A + C := by omega
  rw [e1, e2, e3, e4]
  have hV : 16384 * D + A < 32768 := by omega
  have e5 : 32768 * D + (2 * A + C) = 2 * (16384 * D + A) + C := by omega
  rw [e5, show 32768 * C + 16384 * D + A = 32768 * C + (16384 * D + A) from by omega]
  generalize 16384 * D + A = V at hV
  unfold rot1
  rcases hC with rfl | rfl <;> omega
set_option maxRecDepth 20000 in
theorem rot_15 (m : Nat) (hm : m < 65536) : rot1 (m * 2 ^ 15 % 65536 + m / 2 ^ (16 - 15)) = m * 2 ^ (15 + 1) % 65536 + m / 2 ^ (16 - (15 + 1)) := by
  simp only [Nat.reduceAdd, Nat.reduceSub, Nat.reducePow]
  obtain ⟨A, C, D, hA, hC, hD, e⟩ : ∃ A C D, A < 32768 ∧ (C = 0 ∨ C = 1) ∧ D < 1 ∧ m = 2 * A + 1 * C + D := ⟨m / 2, m % 2 / 1, m % 1, by omega, by omega, by omega, by omega⟩
  have e1 : m * 32768 % 65536 = 32768 * C + 32768 * D := by omega
  have e2 : m / 2 = A := by omega
  have e3a : m * 65536 = 65536 * (2 * A + C) + 65536 * D := by omega
  have e3 : m * 65536 % 65536 = 65536 * D := by rw [e3a, Nat.mul_add_mod, Nat.mod_eq_of_lt (by omega)]
  have e4 : m / 1 = 2 * A + C := by omega
  rw [e1, e2, e3, e4]
  have hV : 32768 * D + A < 32768 := by omega
  have e5 : 65536 * D + (2 * A + C) = 2 * (32768 * D + A) + C := by omega
  rw [e5, show 32768 * C + 32768 * D + A = 32768 * C + (32768 * D + A) from by omega]
  generalize 32768 * D + A = V at hV
  unfold rot1
  rcases hC with rfl | rfl <;> omega
theorem rotN_eq {m : Nat} (h : m < 65536) : ∀ t, t ≤ 16 → rotN t m = m * 2 ^ t % 65536 + m / 2 ^ (16 - t) := by
  intro t
  induction t with
  | zero =>
    intro _
    show m = _
    omega
  | succ t ih =>
    intro ht
    show rot1 (rotN t m) = _
    rw [ih (by omega)]
    have : t = 0 ∨ t = 1 ∨ t = 2 ∨ t = 3 ∨ t = 4 ∨ t = 5 ∨ t = 6 ∨ t = 7 ∨ t = 8 ∨ t = 9 ∨ t = 10 ∨ t = 11 ∨ t = 12 ∨ t = 13 ∨ t = 14 ∨ t = 15 := by omega
    rcases this with e | e | e | e | e | e | e | e | e | e | e | e | e | e | e | e
    · subst e; exact rot_0 m h
    · subst e; exact rot_1 m h
    · subst e; exact rot_2 m h
    · subst e; exact rot_3 m h
    · subst e; exact rot_4 m h
    · subst e; exact rot_5 m h
    · subst e; exact rot_6 m h
    · subst e; exact rot_7 m h
    · subst e; exact rot_8 m h
    · subst e; exact rot_9 m h
    · subst e; exact rot_10 m h
    · subst e; exact rot_11 m h
    · subst e; exact rot_12 m h
    · subst e; exact rot_13 m h
    · subst e; exact rot_14 m h
    · subst e; exact rot_15 m h
theorem rotN_16 {m : Nat} (h : m < 65536) : rotN 16 m = m := by
  rw [rotN_eq h 16 (Nat.le_refl _)]
  omega
theorem rotN_mod {m : Nat} (h : m < 65536) (k : Nat) : rotN (k % 16) m = rotN k m := by
  have h2 : ∀ q r, rotN (16 * q + r) m = rotN r m := by
    intro q
    induction q with
    | zero => intro r; rw [Nat.mul_zero, Nat.zero_add]
    | succ q ih =>
      intro r
      rw [show 16 * (q + 1) + r = 16 + (16 * q + r) from by omega, rotN_add, rotN_16 (rotN_lt h _), ih]
  have := h2 (k / 16) (k % 16)
  rw [show 16 * (k / 16) + k % 16 = k from by omega] at this
  exact this.symm
theorem rot_or {m t : Nat} (hm : m < 65536) (ht : t < 16) : ((m <<< t) ||| (m >>> (16 - t))) &&& 65535 = rotN t m := by
  rw [show (65535 : Nat) = 2 ^ 16 - 1 from rfl, Nat.and_two_pow_sub_one_eq_mod, Nat.shiftLeft_eq, Nat.shiftRight_eq_div_pow, rotN_eq hm t (by omega)]
  have hd : m / 2 ^ (16 - t) < 2 ^ t := by
    rw [Nat.div_lt_iff_lt_mul (Nat.two_pow_pos _), ← Nat.pow_add, show t + (16 - t) = 16 from by omega]
    exact hm
  have := Nat.two_pow_add_eq_or_of_lt hd m
  rw [Nat.mul_comm m, ← this]
  have : t = 0 ∨ t = 1 ∨ t = 2 ∨ t = 3 ∨ t = 4 ∨ t = 5 ∨ t = 6 ∨ t = 7 ∨ t = 8 ∨ t = 9 ∨ t = 10 ∨ t = 11 ∨ t = 12 ∨ t = 13 ∨ t = 14 ∨ t = 15 := by omega
  rcases this with e | e | e | e | e | e | e | e | e | e | e | e | e | e | e | e <;> subst e <;> (try simp only [Nat.reduceAdd, Nat.reduceSub, Nat.reducePow]) <;> omega
theorem rot1_or {m : Nat} (hm : m < 65536) : ((m <<< 1) &&& 65535) ||| (m >>> 15) = rot1 m := by
  rw [show (65535 : Nat) = 2 ^ 16 - 1 from rfl, Nat.and_two_pow_sub_one_eq_mod, Nat.shiftLeft_eq, Nat.shiftRight_eq_div_pow]
  have := Nat.two_pow_add_eq_or_of_lt (i := 1) (b := m / 2 ^ 15) (by omega) (m * 2 ^ 1 % 2 ^ 16 / 2)
  have e : 2 ^ 1 * (m * 2 ^ 1 % 2 ^ 16 / 2) = m * 2 ^ 1 % 2 ^ 16 := by omega
  rw [e] at this
  rw [← this]
  unfold rot1
  omega
/-- the angle of a sailor, and after h hours -/
def ang (a : mA) (s : Nat) : Int := (chr (a 1 s) : Int) + (a 2 s : Int) - (drd (a 1 s) : Int) - (a 4 (a 3 s) : Int)
def angA (a : mA) (s h : Nat) : Int := (chr (rotN h (a 1 s)) : Int) + ((a 2 s - h : Nat) : Int) - (drd (rotN h (a 1 s)) : Int) - (a 4 ((a 3 s + ((a 0 1 + h) / 4 - a 0 1 / 4)) % 4) : Int)
theorem ang_b {B : Nat} {a : mA} (w : WF B a) {s : Nat} (hs : s < a 0 0) : -16 ≤ ang a s ∧ ang a s ≤ 17 := by
  have h1 := wf_s w s hs
  have h2 := wf_z w (a 3 s) h1.2.2
  have h3 := chr_le (a 1 s)
  have h4 := drd_le h1.1
  unfold ang
  omega
theorem angA_b {B : Nat} {a : mA} (w : WF B a) {s h : Nat} (hs : s < a 0 0) : -16 ≤ angA a s h ∧ angA a s h ≤ 17 := by
  have h1 := wf_s w s hs
  have h2 := wf_z w ((a 3 s + ((a 0 1 + h) / 4 - a 0 1 / 4)) % 4) (by omega)
  have h3 := chr_le (rotN h (a 1 s))
  have h4 := drd_le (rotN_lt h1.1 h)
  unfold angA
  omega
theorem angA_0 {B : Nat} {a : mA} (w : WF B a) {s : Nat} (hs : s < a 0 0) : angA a s 0 = ang a s := by
  have h1 := wf_s w s hs
  unfold angA ang
  have e : (a 3 s + ((a 0 1 + 0) / 4 - a 0 1 / 4)) % 4 = a 3 s := by omega
  rw [e]
  rfl
/-- what is read now, in eighths from -47 on -/
def rdR (a : mA) (s : Nat) : Nat := 2 * (ang a s + (a 0 2 : Int) + 16).toNat + 9 - a 2 s
theorem rdR_lt {B : Nat} {a : mA} (w : WF B a) {s : Nat} (hs : s < a 0 0) : rdR a s < 88 := by
  have := ang_b w hs
  have := wf_e w
  unfold rdR
  omega
/-- the first of some numbers -/
theorem first_or (p : Nat → Prop) [DecidablePred p] (i N : Nat) : (∃ k, i ≤ k ∧ k < N ∧ p k ∧ ∀ j, i ≤ j → j < k → ¬ p j) ∨ (∀ j, i ≤ j → j < N → ¬ p j) := by
  have h : ∀ d i, i + d = N → (∃ k, i ≤ k ∧ k < N ∧ p k ∧ ∀ j, i ≤ j → j < k → ¬ p j) ∨ (∀ j, i ≤ j → j < N → ¬ p j) := by
    intro d
    induction d with
    | zero =>
      intro i hi
      exact Or.inr (fun j h1 h2 => by omega)
    | succ d ih =>
      intro i hi
      by_cases hp : p i
      · exact Or.inl ⟨i, Nat.le_refl i, by omega, hp, fun j h1 h2 => by omega⟩
      · rcases ih (i + 1) (by omega) with ⟨k, h1, h2, h3, h4⟩ | h5
        · refine Or.inl ⟨k, by omega, h2, h3, fun j h6 h7 => ?_⟩
          by_cases e : j = i
          · rw [e]; exact hp
          · exact h4 j (by omega) h7
        · refine Or.inr (fun j h6 h7 => ?_)
          by_cases e : j = i
          · rw [e]; exact hp
          · exact h5 j (by omega) h7
  by_cases hi : i ≤ N
  · exact h (N - i) i (by omega)
  · exact Or.inr (fun j h1 h2 => by omega)
theorem sumN_congr {N : Nat} {f g : Nat → Nat} (h : ∀ i, i < N → f i = g i) : sumN N f = sumN N g := by
  induction N with
  | zero => rfl
  | succ N ih =>
    unfold sumN
    rw [ih (fun i hi => h i (by omega)), h N (by omega)]
theorem sumN_bound {N K : Nat} {f : Nat → Nat} (h : ∀ i, i < N → f i ≤ K) : sumN N f ≤ N * K := by
  induction N with
  | zero => exact Nat.zero_le _
  | succ N ih =>
    have h1 := ih (fun i hi => h i (by omega))
    have h2 := h N (by omega)
    unfold sumN
    rw [Nat.succ_mul]
    omega
theorem sumZ_congr {N : Nat} {f g : Nat → Int} (h : ∀ i, i < N → f i = g i) : sumZ N f = sumZ N g := by
  induction N with
  | zero => rfl
  | succ N ih =>
    unfold sumZ
    rw [ih (fun i hi => h i (by omega)), h N (by omega)]
/-- the two latest sights of a sailor -/
def FX (a : mA) (s k1 k2 : Nat) : Prop := k1 < k2 ∧ k2 < a 0 3 ∧ a 5 k1 = s ∧ a 5 k2 = s ∧ (∀ j, j < k1 → a 5 j ≠ s) ∧ (∀ j, k1 < j → j < k2 → a 5 j ≠ s)
def cntS (a : mA) (s : Nat) : Nat := sumN (a 0 3) (fun k => if a 5 k = s then 1 else 0)
theorem sum_none {N : Nat} {p : Nat → Prop} [DecidablePred p] (h : ∀ j, j < N → ¬ p j) : sumN N (fun k => if p k then 1 else 0) = 0 := by
  induction N with
  | zero => rfl
  | succ N ih =>
    unfold sumN
    rw [ih (fun i hi => h i (by omega))]
    simp only [h N (by omega), if_false]
theorem sum_one {N k : Nat} {p : Nat → Prop} [DecidablePred p] (hk : k < N) (h : ∀ j, j < N → j ≠ k → ¬ p j) : sumN N (fun k => if p k then 1 else 0) ≤ 1 := by
  induction N with
  | zero => omega
  | succ N ih =>
    unfold sumN
    by_cases e : k = N
    · rw [sum_none (fun i hi => h i (by omega) (by omega))]
      by_cases hp : p N <;> simp only [hp, if_true, if_false] <;> omega
    · simp only [h N (by omega) (by omega), if_false]
      have := ih (by omega) (fun i hi => h i (by omega))
      omega
theorem fx_of {a : mA} {s : Nat} (h : 2 ≤ cntS a s) : ∃ k1 k2, FX a s k1 k2 := by
  unfold cntS at h
  rcases first_or (fun k => a 5 k = s) 0 (a 0 3) with ⟨k1, -, h2, h3, h4⟩ | h5
  · rcases first_or (fun k => a 5 k = s) (k1 + 1) (a 0 3) with ⟨k2, g1, g2, g3, g4⟩ | g5
    · exact ⟨k1, k2, by omega, g2, h3, g3, fun j hj => h4 j (by omega) hj, fun j hj1 hj2 => g4 j (by omega) hj2⟩
    · have := sum_one (p := fun k => a 5 k = s) h2 (fun j hj1 hj2 => by
        by_cases e : j < k1
        · exact h4 j (by omega) e
        · exact g5 j (by omega) hj1)
      omega
  · rw [sum_none (p := fun k => a 5 k = s) (fun j hj => h5 j (by omega) hj)] at h
    omega

