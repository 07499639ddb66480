/-- two readings together, and the fix told in two ways -/
abbrev fixP (R T : Nat) : Prop := okF (FP.fadd (fe R) (fe T)) ∧ FP.fdiv (FP.fadd (fe R) (fe T)) FP.fconst2 = fs (R + T) ∧ okF (FP.fsub (fe T) (fe R)) ∧ okF (FP.fdiv (FP.fsub (fe T) (fe R)) FP.fconst2) ∧ FP.fadd (fe R) (FP.fdiv (FP.fsub (fe T) (fe R)) FP.fconst2) = fs (R + T)
theorem fix_0 : ∀ t : Nat, t < 4 → ∀ R : Nat, R < 88 → fixP R (0 + t) := by decide +kernel
theorem fix_1 : ∀ t : Nat, t < 4 → ∀ R : Nat, R < 88 → fixP R (4 + t) := by decide +kernel
theorem fix_2 : ∀ t : Nat, t < 4 → ∀ R : Nat, R < 88 → fixP R (8 + t) := by decide +kernel
theorem fix_3 : ∀ t : Nat, t < 4 → ∀ R : Nat, R < 88 → fixP R (12 + t) := by decide +kernel
theorem fix_4 : ∀ t : Nat, t < 4 → ∀ R : Nat, R < 88 → fixP R (16 + t) := by decide +kernel
theorem fix_5 : ∀ t : Nat, t < 4 → ∀ R : Nat, R < 88 → fixP R (20 + t) := by decide +kernel
theorem fix_6 : ∀ t : Nat, t < 4 → ∀ R : Nat, R < 88 → fixP R (24 + t) := by decide +kernel
theorem fix_7 : ∀ t : Nat, t < 4 → ∀ R : Nat, R < 88 → fixP R (28 + t) := by decide +kernel
theorem fix_8 : ∀ t : Nat, t < 4 → ∀ R : Nat, R < 88 → fixP R (32 + t) := by decide +kernel
theorem fix_9 : ∀ t : Nat, t < 4 → ∀ R : Nat, R < 88 → fixP R (36 + t) := by decide +kernel
theorem fix_10 : ∀ t : Nat, t < 4 → ∀ R : Nat, R < 88 → fixP R (40 + t) := by decide +kernel
theorem fix_11 : ∀ t : Nat, t < 4 → ∀ R : Nat, R < 88 → fixP R (44 + t) := by decide +kernel
theorem fix_12 : ∀ t : Nat, t < 4 → ∀ R : Nat, R < 88 → fixP R (48 + t) := by decide +kernel
theorem fix_13 : ∀ t : Nat, t < 4 → ∀ R : Nat, R < 88 → fixP R (52 + t) := by decide +kernel
theorem fix_14 : ∀ t : Nat, t < 4 → ∀ R : Nat, R < 88 → fixP R (56 + t) := by decide +kernel
theorem fix_15 : ∀ t : Nat, t < 4 → ∀ R : Nat, R < 88 → fixP R (60 + t) := by decide +kernel
theorem fix_16 : ∀ t : Nat, t < 4 → ∀ R : Nat, R < 88 → fixP R (64 + t) := by decide +kernel
theorem fix_17 : ∀ t : Nat, t < 4 → ∀ R : Nat, R < 88 → fixP R (68 + t) := by decide +kernel
theorem fix_18 : ∀ t : Nat, t < 4 → ∀ R : Nat, R < 88 → fixP R (72 + t) := by decide +kernel
theorem fix_19 : ∀ t : Nat, t < 4 → ∀ R : Nat, R < 88 → fixP R (76 + t) := by decide +kernel
theorem fix_20 : ∀ t : Nat, t < 4 → ∀ R : Nat, R < 88 → fixP R (80 + t) := by decide +kernel
theorem fix_21 : ∀ t : Nat, t < 4 → ∀ R : Nat, R < 88 → fixP R (84 + t) := by decide +kernel
theorem fix_all (R T : Nat) (hR : R < 88) (hT : T < 88) : fixP R T := by
  have h : ∀ k, k < 22 → ∀ t : Nat, t < 4 → ∀ R : Nat, R < 88 → fixP R (4 * k + t) := by
    intro k hk
    match k, hk with
    | 0, _ => exact fix_0
    | 1, _ => exact fix_1
    | 2, _ => exact fix_2
    | 3, _ => exact fix_3
    | 4, _ => exact fix_4
    | 5, _ => exact fix_5
    | 6, _ => exact fix_6
    | 7, _ => exact fix_7
    | 8, _ => exact fix_8
    | 9, _ => exact fix_9
    | 10, _ => exact fix_10
    | 11, _ => exact fix_11
    | 12, _ => exact fix_12
    | 13, _ => exact fix_13
    | 14, _ => exact fix_14
    | 15, _ => exact fix_15
    | 16, _ => exact fix_16
    | 17, _ => exact fix_17
    | 18, _ => exact fix_18
    | 19, _ => exact fix_19
    | 20, _ => exact fix_20
    | 21, _ => exact fix_21
    | k + 22, hk => omega
  have := h (T / 4) (by omega) (T % 4) (by omega) R hR
  rw [show 4 * (T / 4) + T % 4 = T from by omega] at this
  exact this
