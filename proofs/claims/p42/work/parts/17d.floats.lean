/-! SIGHTS: floats that are exact -/
/-- eighths of a difference, from -87 on; sixteenths, from -174 on; eighths of a sum, from -94 on -/
def fdE (D : Nat) : UInt32 := FP.fdiv (FP.i2f (iI ((D : Int) - 87))) 1090519040
def fdS (D : Nat) : UInt32 := FP.fdiv (FP.i2f (iI ((D : Int) - 174))) 1098907648
def fsE (D : Nat) : UInt32 := FP.fdiv (FP.i2f (iI ((D : Int) - 94))) 1090519040
abbrev feP (R T : Nat) : Prop := FP.fsub (fe R) (fe T) = fdE (R + 87 - T) ∧ FP.fadd (fe R) (fe T) = fsE (R + T)
abbrev fsP (S T : Nat) : Prop := FP.fsub (fs S) (fs T) = fdS (S + 174 - T)
theorem fep_0 : ∀ t : Nat, t < 4 → ∀ R : Nat, R < 88 → feP R (0 + t) := by decide +kernel
theorem fep_1 : ∀ t : Nat, t < 4 → ∀ R : Nat, R < 88 → feP R (4 + t) := by decide +kernel
theorem fep_2 : ∀ t : Nat, t < 4 → ∀ R : Nat, R < 88 → feP R (8 + t) := by decide +kernel
theorem fep_3 : ∀ t : Nat, t < 4 → ∀ R : Nat, R < 88 → feP R (12 + t) := by decide +kernel
theorem fep_4 : ∀ t : Nat, t < 4 → ∀ R : Nat, R < 88 → feP R (16 + t) := by decide +kernel
theorem fep_5 : ∀ t : Nat, t < 4 → ∀ R : Nat, R < 88 → feP R (20 + t) := by decide +kernel
theorem fep_6 : ∀ t : Nat, t < 4 → ∀ R : Nat, R < 88 → feP R (24 + t) := by decide +kernel
theorem fep_7 : ∀ t : Nat, t < 4 → ∀ R : Nat, R < 88 → feP R (28 + t) := by decide +kernel
theorem fep_8 : ∀ t : Nat, t < 4 → ∀ R : Nat, R < 88 → feP R (32 + t) := by decide +kernel
theorem fep_9 : ∀ t : Nat, t < 4 → ∀ R : Nat, R < 88 → feP R (36 + t) := by decide +kernel
theorem fep_10 : ∀ t : Nat, t < 4 → ∀ R : Nat, R < 88 → feP R (40 + t) := by decide +kernel
theorem fep_11 : ∀ t : Nat, t < 4 → ∀ R : Nat, R < 88 → feP R (44 + t) := by decide +kernel
theorem fep_12 : ∀ t : Nat, t < 4 → ∀ R : Nat, R < 88 → feP R (48 + t) := by decide +kernel
theorem fep_13 : ∀ t : Nat, t < 4 → ∀ R : Nat, R < 88 → feP R (52 + t) := by decide +kernel
theorem fep_14 : ∀ t : Nat, t < 4 → ∀ R : Nat, R < 88 → feP R (56 + t) := by decide +kernel
theorem fep_15 : ∀ t : Nat, t < 4 → ∀ R : Nat, R < 88 → feP R (60 + t) := by decide +kernel
theorem fep_16 : ∀ t : Nat, t < 4 → ∀ R : Nat, R < 88 → feP R (64 + t) := by decide +kernel
theorem fep_17 : ∀ t : Nat, t < 4 → ∀ R : Nat, R < 88 → feP R (68 + t) := by decide +kernel
theorem fep_18 : ∀ t : Nat, t < 4 → ∀ R : Nat, R < 88 → feP R (72 + t) := by decide +kernel
theorem fep_19 : ∀ t : Nat, t < 4 → ∀ R : Nat, R < 88 → feP R (76 + t) := by decide +kernel
theorem fep_20 : ∀ t : Nat, t < 4 → ∀ R : Nat, R < 88 → feP R (80 + t) := by decide +kernel
theorem fep_21 : ∀ t : Nat, t < 4 → ∀ R : Nat, R < 88 → feP R (84 + t) := by decide +kernel
theorem fsp_0 : ∀ t : Nat, t < 8 → ∀ S : Nat, S < 175 → fsP S (0 + t) := by decide +kernel
theorem fsp_1 : ∀ t : Nat, t < 8 → ∀ S : Nat, S < 175 → fsP S (8 + t) := by decide +kernel
theorem fsp_2 : ∀ t : Nat, t < 8 → ∀ S : Nat, S < 175 → fsP S (16 + t) := by decide +kernel
theorem fsp_3 : ∀ t : Nat, t < 8 → ∀ S : Nat, S < 175 → fsP S (24 + t) := by decide +kernel
theorem fsp_4 : ∀ t : Nat, t < 8 → ∀ S : Nat, S < 175 → fsP S (32 + t) := by decide +kernel
theorem fsp_5 : ∀ t : Nat, t < 8 → ∀ S : Nat, S < 175 → fsP S (40 + t) := by decide +kernel
theorem fsp_6 : ∀ t : Nat, t < 8 → ∀ S : Nat, S < 175 → fsP S (48 + t) := by decide +kernel
theorem fsp_7 : ∀ t : Nat, t < 8 → ∀ S : Nat, S < 175 → fsP S (56 + t) := by decide +kernel
theorem fsp_8 : ∀ t : Nat, t < 8 → ∀ S : Nat, S < 175 → fsP S (64 + t) := by decide +kernel
theorem fsp_9 : ∀ t : Nat, t < 8 → ∀ S : Nat, S < 175 → fsP S (72 + t) := by decide +kernel
theorem fsp_10 : ∀ t : Nat, t < 8 → ∀ S : Nat, S < 175 → fsP S (80 + t) := by decide +kernel
theorem fsp_11 : ∀ t : Nat, t < 8 → ∀ S : Nat, S < 175 → fsP S (88 + t) := by decide +kernel
theorem fsp_12 : ∀ t : Nat, t < 8 → ∀ S : Nat, S < 175 → fsP S (96 + t) := by decide +kernel
theorem fsp_13 : ∀ t : Nat, t < 8 → ∀ S : Nat, S < 175 → fsP S (104 + t) := by decide +kernel
theorem fsp_14 : ∀ t : Nat, t < 8 → ∀ S : Nat, S < 175 → fsP S (112 + t) := by decide +kernel
theorem fsp_15 : ∀ t : Nat, t < 8 → ∀ S : Nat, S < 175 → fsP S (120 + t) := by decide +kernel
theorem fsp_16 : ∀ t : Nat, t < 8 → ∀ S : Nat, S < 175 → fsP S (128 + t) := by decide +kernel
theorem fsp_17 : ∀ t : Nat, t < 8 → ∀ S : Nat, S < 175 → fsP S (136 + t) := by decide +kernel
theorem fsp_18 : ∀ t : Nat, t < 8 → ∀ S : Nat, S < 175 → fsP S (144 + t) := by decide +kernel
theorem fsp_19 : ∀ t : Nat, t < 8 → ∀ S : Nat, S < 175 → fsP S (152 + t) := by decide +kernel
theorem fsp_20 : ∀ t : Nat, t < 8 → ∀ S : Nat, S < 175 → fsP S (160 + t) := by decide +kernel
theorem fsp_21 : ∀ t : Nat, t < 8 → ∀ S : Nat, S < 175 → fsP S (168 + t) := by decide +kernel
theorem fep_all (R T : Nat) (hR : R < 88) (hT : T < 88) : feP R T := by
  have h : ∀ k, k < 22 → ∀ t : Nat, t < 4 → ∀ R : Nat, R < 88 → feP R (4 * k + t) := by
    intro k hk
    match k, hk with
    | 0, _ => exact fep_0
    | 1, _ => exact fep_1
    | 2, _ => exact fep_2
    | 3, _ => exact fep_3
    | 4, _ => exact fep_4
    | 5, _ => exact fep_5
    | 6, _ => exact fep_6
    | 7, _ => exact fep_7
    | 8, _ => exact fep_8
    | 9, _ => exact fep_9
    | 10, _ => exact fep_10
    | 11, _ => exact fep_11
    | 12, _ => exact fep_12
    | 13, _ => exact fep_13
    | 14, _ => exact fep_14
    | 15, _ => exact fep_15
    | 16, _ => exact fep_16
    | 17, _ => exact fep_17
    | 18, _ => exact fep_18
    | 19, _ => exact fep_19
    | 20, _ => exact fep_20
    | 21, _ => exact fep_21
    | k + 22, hk => omega
  have := h (T / 4) (by omega) (T % 4) (by omega) R hR
  rw [show 4 * (T / 4) + T % 4 = T from by omega] at this
  exact this
theorem fsp_all (S T : Nat) (hS : S < 175) (hT : T < 175) : fsP S T := by
  have h : ∀ k, k < 22 → ∀ t : Nat, t < 8 → ∀ S : Nat, S < 175 → fsP S (8 * k + t) := by
    intro k hk
    match k, hk with
    | 0, _ => exact fsp_0
    | 1, _ => exact fsp_1
    | 2, _ => exact fsp_2
    | 3, _ => exact fsp_3
    | 4, _ => exact fsp_4
    | 5, _ => exact fsp_5
    | 6, _ => exact fsp_6
    | 7, _ => exact fsp_7
    | 8, _ => exact fsp_8
    | 9, _ => exact fsp_9
    | 10, _ => exact fsp_10
    | 11, _ => exact fsp_11
    | 12, _ => exact fsp_12
    | 13, _ => exact fsp_13
    | 14, _ => exact fsp_14
    | 15, _ => exact fsp_15
    | 16, _ => exact fsp_16
    | 17, _ => exact fsp_17
    | 18, _ => exact fsp_18
    | 19, _ => exact fsp_19
    | 20, _ => exact fsp_20
    | 21, _ => exact fsp_21
    | k + 22, hk => omega
  have := h (T / 8) (by omega) (T % 8) (by omega) S hS
  rw [show 8 * (T / 8) + T % 8 = T from by omega] at this
  exact this
theorem fdE_all : ∀ D : Nat, D < 175 → okF (fdE D) ∧ (87 ≤ D → ¬ Op.cmpValue (FP.fcmp (fdE D) FP.fconst0) CmpOp.g < 0) ∧ (Op.cmpValue (FP.fcmp (fdE D) FP.fconst0) CmpOp.l = 0 → D = 87) := by decide +kernel
theorem fsE_all : ∀ D : Nat, D < 175 → okF (fsE D) ∧ FP.fadd (fsE D) FP.fconst0 = fsE D := by decide +kernel
theorem fe_zero : ∀ R : Nat, R < 88 → FP.fadd (fe R) FP.fconst0 = fe R ∧ FP.fadd FP.fconst0 (fe R) = fe R ∧ okF (FP.fdiv (fe R) FP.fconst2) := by decide +kernel
theorem f0_zero : FP.fadd FP.fconst0 FP.fconst0 = FP.fconst0 ∧ okF FP.fconst0 ∧ okF (FP.fdiv FP.fconst0 FP.fconst2) := by decide +kernel
theorem f1_zero : ¬ Op.cmpValue (FP.fcmp FP.fconst1 FP.fconst0) CmpOp.g < 0 ∧ ¬ Op.cmpValue (FP.fcmp FP.fconst1 FP.fconst0) CmpOp.l = 0 := by decide +kernel
/-- near each other: told in two ways -/
def mtD (x : UInt32) : Int32 := if 0 ≤ Op.cmpValue (FP.fcmp x (1056964608 : UInt32)) CmpOp.g then nI 0 else if Op.cmpValue (FP.fcmp x (3204448256 : UInt32)) CmpOp.l ≤ 0 then nI 0 else nI 1
theorem fdS_all : ∀ D : Nat, D < 349 → okF (fdS D) ∧ mtD (fdS D) = (if 0 ≤ Op.cmpValue (FP.fcmp (fdS D &&& 0x7fffffff) (1056964608 : UInt32)) CmpOp.g then 0 else 1) := by decide +kernel
theorem fs_sni : ∀ S : Nat, S < 175 → vn_sni2f (UInt32.toInt32 (fs S)) = false := by decide +kernel
theorem mt_abs {S T : Nat} (hS : S < 175) (hT : T < 175) : okF (FP.fsub (fs S) (fs T)) ∧ mtI S T = (if 0 ≤ Op.cmpValue (FP.fcmp (FP.fsub (fs S) (fs T) &&& 0x7fffffff) (1056964608 : UInt32)) CmpOp.g then 0 else 1) := by
  have h := fsp_all S T hS hT
  have g := fdS_all (S + 174 - T) (by omega)
  unfold fsP at h
  unfold mtI
  rw [h]
  exact g
