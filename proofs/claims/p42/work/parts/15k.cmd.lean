/-- how a command ends: a number of its own, refused, done -/
abbrev Oc : Type := Int32 ⊕ ((Int32 × Int32) ⊕ (Int32 × mA))
def Oc.bad (k : Int32) : Oc := .inl k
def Oc.no (w d : Int32) : Oc := .inr (.inl (w, d))
def Oc.ok (r : Int32) (a : mA) : Oc := .inr (.inr (r, a))
theorem Oc.cs {motive : Oc → Prop} (bad : ∀ k, motive (Oc.bad k)) (no : ∀ w d, motive (Oc.no w d)) (ok : ∀ r a, motive (Oc.ok r a)) (o : Oc) : motive o :=
  match o with
  | .inl k => bad k
  | .inr (.inl (w, d)) => no w d
  | .inr (.inr (r, a)) => ok r a
def zKeep (u : vZ) (w d : Int32) : vZ := (u.1, (u.2.1, (u.2.2.1, (u.2.2.2.1, (up2 (up2 (up2 u.2.2.2.2.1 1 0 w) 2 0 d) 0 2 1, u.2.2.2.2.2)))))
theorem isR_no {f : Nat} {y x w d : Int32} {u : vZ} (hw : w ≠ 0) (h1 : fX5_reasonAgainst f y x u.2.1.1 = some (w, u.2.1.1)) (h2 : fX5_detailOf w y x u.2.1.1 = some (d, u.2.1.1)) : fX7_isRefused f y x u = some (1, zKeep u w d) := by
  rw [fX7_isRefused, h1, obp_some]
  dsimp only [bd]
  rw [if_neg hw, h2, obp_some]
  rfl
theorem isR_ok {f : Nat} {y x : Int32} {u : vZ} (h1 : fX5_reasonAgainst f y x u.2.1.1 = some (nI 0, u.2.1.1)) : fX7_isRefused f y x u = some (nI 0, u) := by
  rw [fX7_isRefused, h1, obp_some]
  dsimp only [bd]
  exact if_pos l32_0.symm
theorem dt_1 (y x : Int32) (u : vH) : fX5_detailOf (nI 1) y x u = some (u.1 0 0, u) := rfl
theorem dt_2 (y x : Int32) (u : vH) : fX5_detailOf (nI 2) y x u = some (x, u) := rfl
theorem dt_3 (y x : Int32) (u : vH) : fX5_detailOf (nI 3) y x u = if y < 0 ∨ 8 ≤ Int32.toNatClampNeg y then none else some (u.1 2 (Int32.toNatClampNeg y), u) := rfl
theorem dt_4 (y x : Int32) (u : vH) : fX5_detailOf (nI 4) y x u = some (y, u) := rfl
/-- the ranges -/
theorem xm_in {m : Nat} (h : m < 65536) : fX5_isMood (nI m) = some (nI 1) := by simp (disch := omega) only [fX5_isMood, lits, nJ_le, nJ_lt, nJ_eq, nJ_clamp, nJ_add, nI_mul, nI_sub, nI_and, nI_or, nI_xor, Nat.add_zero, Nat.not_lt_zero, leF, leT, ltF, ltT, eqF, eqT, bd, obp_some, Option.bind_some, reduceIte, reduceCtorEq, or_self, or_true, true_or, or_false, false_or]
theorem xm_out {x : Int32} (h : x < nI 0 ∨ nI 65536 ≤ x) : fX5_isMood x = some (nI 0) := by
  have e9 : (nI 65535 < x) ↔ nI 65536 ≤ x := lt_le1 (by omega)
  rcases h with h | h
  · simp only [fX5_isMood, h, if_true, lits]
  · by_cases h7 : x < nI 0
    · simp only [fX5_isMood, h7, if_true, lits]
    · simp only [fX5_isMood, h7, e9, h, if_true, if_false, lits]
theorem xw_in {m : Nat} (h : m < 4) : fX5_isWatch (nI m) = some (nI 1) := by simp (disch := omega) only [fX5_isWatch, lits, nJ_le, nJ_lt, nJ_eq, nJ_clamp, nJ_add, nI_mul, nI_sub, nI_and, nI_or, nI_xor, Nat.add_zero, Nat.not_lt_zero, leF, leT, ltF, ltT, eqF, eqT, bd, obp_some, Option.bind_some, reduceIte, reduceCtorEq, or_self, or_true, true_or, or_false, false_or]
theorem xw_out {x : Int32} (h : x < nI 0 ∨ nI 4 ≤ x) : fX5_isWatch x = some (nI 0) := by
  rcases h with h | h
  · simp only [fX5_isWatch, h, if_true, lits]
  · by_cases h7 : x < nI 0
    · simp only [fX5_isWatch, h7, if_true, lits]
    · simp only [fX5_isWatch, h7, h, if_true, if_false, lits]
theorem xh_in {m : Nat} (h : m < 9) : fX5_isHorizon (nI m) = some (nI 1) := by simp (disch := omega) only [fX5_isHorizon, lits, nJ_le, nJ_lt, nJ_eq, nJ_clamp, nJ_add, nI_mul, nI_sub, nI_and, nI_or, nI_xor, Nat.add_zero, Nat.not_lt_zero, leF, leT, ltF, ltT, eqF, eqT, bd, obp_some, Option.bind_some, reduceIte, reduceCtorEq, or_self, or_true, true_or, or_false, false_or]
theorem xh_out {x : Int32} (h : x < nI 0 ∨ nI 9 ≤ x) : fX5_isHorizon x = some (nI 0) := by
  have e9 : (nI 8 < x) ↔ nI 9 ≤ x := lt_le1 (by omega)
  rcases h with h | h
  · simp only [fX5_isHorizon, h, if_true, lits]
  · by_cases h7 : x < nI 0
    · simp only [fX5_isHorizon, h7, if_true, lits]
    · simp only [fX5_isHorizon, h7, e9, h, if_true, if_false, lits]
theorem gift_cases (x : Int32) : (∃ k, 1 ≤ k ∧ k ≤ 9 ∧ x = nI k) ∨ (x < nI 1 ∨ nI 9 < x) := by
  rcases i32_cases x 10 (by omega) with ⟨k, hk, e⟩ | h
  · by_cases h0 : k = 0
    · right; left
      rw [e, h0]
      decide
    · exact Or.inl ⟨k, by omega, by omega, e⟩
  · right
    rcases h with h | h
    · left
      rw [Int32.lt_iff_toInt_lt] at h ⊢
      rw [nJ_toInt (by omega)] at h ⊢
      omega
    · right
      rw [lt_le1 (by omega)]
      exact h
theorem xg_in {m : Nat} (h1 : 1 ≤ m) (h : m ≤ 9) : fX5_isGift (nI m) = some (nI 1) := by simp (disch := omega) only [fX5_isGift, lits, nJ_le, nJ_lt, nJ_eq, nJ_clamp, nJ_add, nI_mul, nI_sub, nI_and, nI_or, nI_xor, Nat.add_zero, Nat.not_lt_zero, leF, leT, ltF, ltT, eqF, eqT, bd, obp_some, Option.bind_some, reduceIte, reduceCtorEq, or_self, or_true, true_or, or_false, false_or]
theorem xg_out {x : Int32} (h : x < nI 1 ∨ nI 9 < x) : fX5_isGift x = some (nI 0) := by
  rcases h with h | h
  · simp only [fX5_isGift, h, if_true, lits]
  · by_cases h7 : x < nI 1
    · simp only [fX5_isGift, h7, if_true, lits]
    · simp only [fX5_isGift, h7, h, if_true, if_false, lits]
theorem err_cases (x : Int32) : (∃ e : Nat, e ≤ 6 ∧ x = iI ((e : Int) - 3)) ∨ (x < -3 ∨ 3 < x) := by
  have t3 : (-3 : Int32).toInt = -3 := by decide
  have t4 : (3 : Int32).toInt = 3 := by decide
  by_cases h : x < -3
  · exact Or.inr (Or.inl h)
  · by_cases h2 : 3 < x
    · exact Or.inr (Or.inr h2)
    · left
      rw [Int32.lt_iff_toInt_lt, t3] at h
      rw [Int32.lt_iff_toInt_lt, t4] at h2
      refine ⟨(x.toInt + 3).toNat, by omega, ?_⟩
      apply Int32.toInt_inj.mp
      rw [iI_toInt (by omega) (by omega)]
      omega
