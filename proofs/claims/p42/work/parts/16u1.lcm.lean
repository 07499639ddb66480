/-! READINGS COMPARED -/
abbrev lcmP (R T : Nat) : Prop := Op.cmpValue (FP.fcmp (fe R) (fe T)) CmpOp.l = (if R = T then 0 else if R < T then -1 else 1)
theorem lcm_0 : ∀ t : Nat, t < 4 → ∀ R : Nat, R < 88 → lcmP R (0 + t) := by decide +kernel
theorem lcm_1 : ∀ t : Nat, t < 4 → ∀ R : Nat, R < 88 → lcmP R (4 + t) := by decide +kernel
theorem lcm_2 : ∀ t : Nat, t < 4 → ∀ R : Nat, R < 88 → lcmP R (8 + t) := by decide +kernel
theorem lcm_3 : ∀ t : Nat, t < 4 → ∀ R : Nat, R < 88 → lcmP R (12 + t) := by decide +kernel
theorem lcm_4 : ∀ t : Nat, t < 4 → ∀ R : Nat, R < 88 → lcmP R (16 + t) := by decide +kernel
theorem lcm_5 : ∀ t : Nat, t < 4 → ∀ R : Nat, R < 88 → lcmP R (20 + t) := by decide +kernel
theorem lcm_6 : ∀ t : Nat, t < 4 → ∀ R : Nat, R < 88 → lcmP R (24 + t) := by decide +kernel
theorem lcm_7 : ∀ t : Nat, t < 4 → ∀ R : Nat, R < 88 → lcmP R (28 + t) := by decide +kernel
theorem lcm_8 : ∀ t : Nat, t < 4 → ∀ R : Nat, R < 88 → lcmP R (32 + t) := by decide +kernel
theorem lcm_9 : ∀ t : Nat, t < 4 → ∀ R : Nat, R < 88 → lcmP R (36 + t) := by decide +kernel
theorem lcm_10 : ∀ t : Nat, t < 4 → ∀ R : Nat, R < 88 → lcmP R (40 + t) := by decide +kernel
theorem lcm_11 : ∀ t : Nat, t < 4 → ∀ R : Nat, R < 88 → lcmP R (44 + t) := by decide +kernel
theorem lcm_12 : ∀ t : Nat, t < 4 → ∀ R : Nat, R < 88 → lcmP R (48 + t) := by decide +kernel
theorem lcm_13 : ∀ t : Nat, t < 4 → ∀ R : Nat, R < 88 → lcmP R (52 + t) := by decide +kernel
theorem lcm_14 : ∀ t : Nat, t < 4 → ∀ R : Nat, R < 88 → lcmP R (56 + t) := by decide +kernel
theorem lcm_15 : ∀ t : Nat, t < 4 → ∀ R : Nat, R < 88 → lcmP R (60 + t) := by decide +kernel
theorem lcm_16 : ∀ t : Nat, t < 4 → ∀ R : Nat, R < 88 → lcmP R (64 + t) := by decide +kernel
theorem lcm_17 : ∀ t : Nat, t < 4 → ∀ R : Nat, R < 88 → lcmP R (68 + t) := by decide +kernel
theorem lcm_18 : ∀ t : Nat, t < 4 → ∀ R : Nat, R < 88 → lcmP R (72 + t) := by decide +kernel
theorem lcm_19 : ∀ t : Nat, t < 4 → ∀ R : Nat, R < 88 → lcmP R (76 + t) := by decide +kernel
theorem lcm_20 : ∀ t : Nat, t < 4 → ∀ R : Nat, R < 88 → lcmP R (80 + t) := by decide +kernel
theorem lcm_21 : ∀ t : Nat, t < 4 → ∀ R : Nat, R < 88 → lcmP R (84 + t) := by decide +kernel
theorem lcm_al (R T : Nat) (hR : R < 88) (hT : T < 88) : lcmP R T := by
  have h : ∀ k, k < 22 → ∀ t : Nat, t < 4 → ∀ R : Nat, R < 88 → lcmP R (4 * k + t) := by
    intro k hk
    match k, hk with
    | 0, _ => exact lcm_0
    | 1, _ => exact lcm_1
    | 2, _ => exact lcm_2
    | 3, _ => exact lcm_3
    | 4, _ => exact lcm_4
    | 5, _ => exact lcm_5
    | 6, _ => exact lcm_6
    | 7, _ => exact lcm_7
    | 8, _ => exact lcm_8
    | 9, _ => exact lcm_9
    | 10, _ => exact lcm_10
    | 11, _ => exact lcm_11
    | 12, _ => exact lcm_12
    | 13, _ => exact lcm_13
    | 14, _ => exact lcm_14
    | 15, _ => exact lcm_15
    | 16, _ => exact lcm_16
    | 17, _ => exact lcm_17
    | 18, _ => exact lcm_18
    | 19, _ => exact lcm_19
    | 20, _ => exact lcm_20
    | 21, _ => exact lcm_21
    | k + 22, hk => omega
  have := h (T / 4) (by omega) (T % 4) (by omega) R hR
  rw [show 4 * (T / 4) + T % 4 = T from by omega] at this
  exact this
theorem lcm_all (R : Nat) (hR : R < 88) (T : Nat) (hT : T < 88) : (Op.cmpValue (FP.fcmp (fe R) (fe T)) CmpOp.l = 0 ↔ R = T) ∧ (Op.cmpValue (FP.fcmp (fe R) (fe T)) CmpOp.l ≤ 0 ↔ R ≤ T) := by
  have h := lcm_al R T hR hT
  unfold lcmP at h
  rw [h]
  by_cases c : R = T
  · rw [if_pos c]
    exact ⟨⟨fun _ => c, fun _ => rfl⟩, ⟨fun _ => by omega, fun _ => by decide⟩⟩
  · by_cases c2 : R < T
    · rw [if_neg c, if_pos c2]
      exact ⟨⟨fun z => absurd z (by decide +kernel), fun z => absurd z c⟩, ⟨fun _ => by omega, fun _ => by decide +kernel⟩⟩
    · rw [if_neg c, if_neg c2]
      exact ⟨⟨fun z => absurd z (by decide +kernel), fun z => absurd z c⟩, ⟨fun z => absurd z (by decide +kernel), fun z => absurd z (by omega)⟩⟩
