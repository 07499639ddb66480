/-! SIGHTS: floats that are exact -/
/-- eighths of a difference, from -87 on; sixteenths, from -175 on; eighths of a sum, from -94 on -/
def fdE (D : Nat) : UInt32 := FP.fdiv (FP.i2f (iI ((D : Int) - 87))) 1090519040
def fdS (D : Nat) : UInt32 := FP.fdiv (FP.i2f (iI ((D : Int) - 175))) 1098907648
def fsE (D : Nat) : UInt32 := FP.fdiv (FP.i2f (iI ((D : Int) - 94))) 1090519040
abbrev feP (R T : Nat) : Prop := FP.fsub (fe R) (fe T) = fdE (R + 87 - T) ∧ FP.fadd (fe R) (fe T) = fsE (R + T)
abbrev fsP (S T : Nat) : Prop := FP.fsub (fs S) (fs T) = fdS (S + 175 - T)
theorem fep_0 : ∀ t : Nat, t < 4 → ∀ R : Nat, R < 88 → feP R (0 + t) := by decide +kernel
theorem fep_1 : ∀ t : Nat, t < 4 → ∀ R : Nat, R < 88 → feP R (4 + t) := by decide +kernel
theorem fep_2 : ∀ t : Nat, t < 4 → ∀ R : Nat, R < 88 → feP R (8 + t) := by decide +kernel
theorem fep_3 : ∀ t : Nat, t < 4 → ∀ R : Nat, R < 88 → feP R (12 + t) := by decide +kernel
theorem fep_4 : ∀ t : Nat, t < 4 → ∀ R : Nat, R < 88 → feP R (16 + t) := by decide +kernel
theorem fep_5 : ∀ t : Nat, t < 4 → ∀ R : Nat, R < 88 → feP R (20 + t) := by decide +kernel
theorem fep_6 : ∀ t : Nat, t < 4 → ∀ R : Nat, R < 88 → feP R (24 + t) := by decide +kernel
theorem fep_7 : ∀ t : Nat, t < 4 → ∀ R : Nat, R < 88 → feP R (28 + t) := by decide +kernel
theorem fep_8 : ∀ t : Nat, t < 4 → ∀ R : Nat, R < 88 → feP R (32 + t) := by decide +kernel
theorem fep_9 : ∀ t : Nat, t < 4 → ∀ R : Nat, R < 88 → feP R (36 + t) := by decide +kernel
theorem fep_10 : ∀ t : Nat, t < 4 → ∀ R : Nat, R < 88 → feP R (40 + t) := by decide +kernel
theorem fep_11 : ∀ t : Nat, t < 4 → ∀ R : Nat, R < 88 → feP R (44 + t) := by decide +kernel
theorem fep_12 : ∀ t : Nat, t < 4 → ∀ R : Nat, R < 88 → feP R (48 + t) := by decide +kernel
theorem fep_13 : ∀ t : Nat, t < 4 → ∀ R : Nat, R < 88 → feP R (52 + t) := by decide +kernel
theorem fep_14 : ∀ t : Nat, t < 4 → ∀ R : Nat, R < 88 → feP R (56 + t) := by decide +kernel
theorem fep_15 : ∀ t : Nat, t < 4 → ∀ R : Nat, R < 88 → feP R (60 + t) := by decide +kernel
theorem fep_16 : ∀ t : Nat, t < 4 → ∀ R : Nat, R < 88 → feP R (64 + t) := by decide +kernel
theorem fep_17 : ∀ t : Nat, t < 4 → ∀ R : Nat, R < 88 → feP R (68 + t) := by decide +kernel
theorem fep_18 : ∀ t : Nat, t < 4 → ∀ R : Nat, R < 88 → feP R (72 + t) := by decide +kernel
theorem fep_19 : ∀ t : Nat, t < 4 → ∀ R : Nat, R < 88 → feP R (76 + t) := by decide +kernel
theorem fep_20 : ∀ t : Nat, t < 4 → ∀ R : Nat, R < 88 → feP R (80 + t) := by decide +kernel
theorem fep_21 : ∀ t : Nat, t < 4 → ∀ R : Nat, R < 88 → feP R (84 + t) := by decide +kernel
theorem fep_all (R T : Nat) (hR : R < 88) (hT : T < 88) : feP R T := by
  have h : ∀ k, k < 22 → ∀ t : Nat, t < 4 → ∀ R : Nat, R < 88 → feP R (4 * k + t) := by
    intro k hk
    match k, hk with
    | 0, _ => exact fep_0
    | 1, _ => exact fep_1
    | 2, _ => exact fep_2
    | 3, _ => exact fep_3
    | 4, _ => exact fep_4
    | 5, _ => exact fep_5
    | 6, _ => exact fep_6
    | 7, _ => exact fep_7
    | 8, _ => exact fep_8
    | 9, _ => exact fep_9
    | 10, _ => exact fep_10
    | 11, _ => exact fep_11
    | 12, _ => exact fep_12
    | 13, _ => exact fep_13
    | 14, _ => exact fep_14
    | 15, _ => exact fep_15
    | 16, _ => exact fep_16
    | 17, _ => exact fep_17
    | 18, _ => exact fep_18
    | 19, _ => exact fep_19
    | 20, _ => exact fep_20
    | 21, _ => exact fep_21
    | k + 22, hk => omega
  have := h (T / 4) (by omega) (T % 4) (by omega) R hR
  rw [show 4 * (T / 4) + T % 4 = T from by omega] at this
  exact this
