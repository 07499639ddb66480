theorem nL_toInt {n : Nat} (h : n < 9223372036854775808) : (nL n).toInt = n := by
  have e : nL n = Int64.ofInt (n : Int) := (Int64.ofInt_eq_ofNat).symm
  rw [e]
  exact Int64.toInt_ofInt_of_le (by omega) (by omega)
theorem nL_lt {a b : Nat} (ha : a < 9223372036854775808) (hb : b < 9223372036854775808) : nL a < nL b ↔ a < b := by
  rw [Int64.lt_iff_toInt_lt, nL_toInt ha, nL_toInt hb]
  omega
theorem nL_eq {a b : Nat} (ha : a < 9223372036854775808) (hb : b < 9223372036854775808) : nL a = nL b ↔ a = b := by
  rw [← Int64.toInt_inj, nL_toInt ha, nL_toInt hb]
  omega
theorem nL_div {a b : Nat} (ha : a < 9223372036854775808) (hb : b < 9223372036854775808) : nL a / nL b = nL (a / b) := by
  apply Int64.toInt_inj.mp
  have h1 : a / b ≤ a := Nat.div_le_self a b
  rw [Int64.toInt_div_of_ne_left, nL_toInt ha, nL_toInt hb, nL_toInt (by omega)]
  · rfl
  · intro h
    have := congrArg Int64.toInt h
    rw [nL_toInt ha] at this
    revert this
    have e : (Int64.minValue).toInt = -9223372036854775808 := by decide
    rw [e]
    omega
theorem nL_mul (a b : Nat) : nL a * nL b = nL (a * b) := by
  have e : ∀ n : Nat, nL n = Int64.ofInt (n : Int) := fun n => (Int64.ofInt_eq_ofNat).symm
  rw [e, e, e, ← Int64.ofInt_mul]
  rfl
theorem nL_sub {a b : Nat} (h : b ≤ a) : nL a - nL b = nL (a - b) := by
  have e : ∀ n : Nat, nL n = Int64.ofInt (n : Int) := fun n => (Int64.ofInt_eq_ofNat).symm
  rw [e, e, e, ← Int64.ofInt_sub, Int.ofNat_sub h]
theorem nL_mod {a b : Nat} (ha : a < 9223372036854775808) (hb : b < 9223372036854775808) : nL a - nL a / nL b * nL b = nL (a % b) := by
  rw [nL_div ha hb, nL_mul, nL_sub (Nat.div_mul_le_self a b)]
  congr 1
  have := Nat.div_add_mod a b
  rw [Nat.mul_comm] at this
  omega
theorem cmp_ge {a b : Nat} (ha : a < 9223372036854775808) (hb : b < 9223372036854775808) : (0 ≤ lg_cmp (nL a) (nL b)) ↔ b ≤ a := by
  unfold lg_cmp
  by_cases h : b < a
  · rw [if_pos ((nL_lt hb ha).mpr h)]
    exact ⟨fun _ => by omega, fun _ => by decide⟩
  · rw [if_neg (fun h2 => h ((nL_lt hb ha).mp h2))]
    by_cases h2 : a = b
    · rw [if_pos (by rw [h2])]
      exact ⟨fun _ => by omega, fun _ => by decide⟩
    · rw [if_neg (fun h3 => h2 ((nL_eq ha hb).mp h3))]
      exact ⟨fun h3 => absurd h3 (by decide), fun h3 => by omega⟩
theorem cmp_pos {a : Nat} (ha : a < 9223372036854775808) : (lg_cmp (nL a) (nL 0) ≤ 0) ↔ a = 0 := by
  unfold lg_cmp
  by_cases h : 0 < a
  · rw [if_pos ((nL_lt (by omega) ha).mpr h)]
    exact ⟨fun h3 => absurd h3 (by decide), fun h3 => by omega⟩
  · have : a = 0 := by omega
    subst this
    exact ⟨fun _ => rfl, fun _ => by decide⟩
theorem cmp_one {a : Nat} (ha : a < 9223372036854775808) : (lg_cmp (nL a) (nL 1) = 0) ↔ a = 1 := by
  unfold lg_cmp
  by_cases h : 1 < a
  · rw [if_pos ((nL_lt (by omega) ha).mpr h)]
    exact ⟨fun h3 => absurd h3 (by decide), fun h3 => by omega⟩
  · rw [if_neg (fun h2 => h ((nL_lt (by omega) ha).mp h2))]
    by_cases h2 : a = 1
    · rw [if_pos (by rw [h2])]
      exact ⟨fun _ => h2, fun _ => rfl⟩
    · rw [if_neg (fun h3 => h2 ((nL_eq ha (by omega)).mp h3))]
      exact ⟨fun h3 => absurd h3 (by decide), fun h3 => absurd h3 h2⟩
theorem dig_c : ∀ d : Nat, d < 10 → (Int32.toUInt32 (Int64.toInt32 ((48 : Int64) + nL d)) % 65536).toInt32 = nI (48 + d) := by decide +kernel
theorem p10_le {k : Nat} (h : k ≤ 9) : 10 ^ k ≤ 1000000000 := by
  have : 10 ^ k ≤ 10 ^ 9 := Nat.pow_le_pow_right (by omega) h
  omega
theorem p10_pos (k : Nat) : 1 ≤ 10 ^ k := Nat.one_le_pow k 10 (by omega)
theorem top_p (m : Nat) : ∀ q, m < 10 ^ (q + 1) → ∃ p, p ≤ q ∧ (10 ^ p ≤ m ∨ p = 0) ∧ m < 10 ^ (p + 1) := by
  intro q
  induction q with
  | zero => intro h; exact ⟨0, Nat.le_refl _, Or.inr rfl, h⟩
  | succ q ih =>
    intro h
    by_cases h2 : m < 10 ^ (q + 1)
    · obtain ⟨p, h3, h4⟩ := ih h2
      exact ⟨p, by omega, h4⟩
    · exact ⟨q + 1, Nat.le_refl _, Or.inl (by omega), h⟩
theorem cls_skip {m : Nat} (l : vS) : ∀ d p n, p + d ≤ 9 → m < 10 ^ (p + 1) → fX3_putNumber_23 (n + d) (nL m) (nL (10 ^ (p + d))) l = fX3_putNumber_23 n (nL m) (nL (10 ^ p)) l := by
  intro d
  induction d with
  | zero => intro p n _ _; rfl
  | succ d ih =>
    intro p n h1 h2
    have hp := p10_le h1
    have hp1 := p10_pos (p + d)
    have hps : 10 ^ (p + (d + 1)) = 10 ^ (p + d) * 10 := Nat.pow_succ 10 (p + d)
    have hle : 10 ^ (p + 1) ≤ 10 ^ (p + (d + 1)) := Nat.pow_le_pow_right (by omega) (by omega)
    have hdiv : 10 ^ (p + (d + 1)) / 10 = 10 ^ (p + d) := by omega
    rw [← ih p n (by omega) h2]
    generalize hP : 10 ^ (p + (d + 1)) = P at *
    have c1 : ¬ lg_cmp (nL P) (0 : Int64) ≤ 0 := by
      have := cmp_pos (a := P) (by omega)
      intro h
      have := this.mp h
      omega
    have c2 : ¬ 0 ≤ lg_cmp (nL m) (nL P) := by
      rw [cmp_ge (by omega) (by omega)]
      omega
    have c3 : ¬ lg_cmp (nL P) (1 : Int64) = 0 := by
      have := cmp_one (a := P) (by omega)
      intro h
      have := this.mp h
      omega
    show fX3_putNumber_23 (n + d + 1) (nL m) (nL P) l = _
    rw [fX3_putNumber_23, if_neg c1, if_neg c2, if_neg c3]
    dsimp only [bd]
    rw [show (10 : Int64) = nL 10 from rfl, nL_div (by omega) (by omega), hdiv]
theorem neg_all : ∀ k : Nat, k < 20 → 0 < k → ¬ (0 ≤ lg_cmp (Int32.toInt64 (iI (-(k : Int)))) (0 : Int64)) ∧ -(Int32.toInt64 (iI (-(k : Int)))) = nL k ∧ -(iI (-(k : Int))) = nI k ∧ ¬ (0 : Int32) ≤ iI (-(k : Int)) := by decide +kernel

