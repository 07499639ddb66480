/-! THE JDK'S TEXTS: decimal digits as letters; what stringSize and getChars do -/
theorem bdE {α β : Type} (a : α) (f : α → β) : bd a f = f a := by
  have h : bd a f = f a := rfl
  exact h.trans rfl
def dTf : Nat → Nat → List Nat
  | 0, _ => []
  | n + 1, v => if v < 10 then [48 + v] else dTf n (v / 10) ++ [48 + v % 10]
def dT (v : Nat) : List Nat := dTf 11 v
def iT (z : Int) : List Nat := (if z < 0 then [45] else []) ++ dT z.natAbs
theorem dTf_s (n v : Nat) : dTf (n + 1) v = if v < 10 then [48 + v] else dTf n (v / 10) ++ [48 + v % 10] := by rw [dTf]
theorem dTf_up : ∀ n v, v < 10 ^ (n + 1) → dTf (n + 2) v = dTf (n + 1) v
  | 0, v, h => by
    have h1 : v < 10 := by simpa using h
    rw [dTf_s 1 v, dTf_s 0 v, if_pos h1, if_pos h1]
  | n + 1, v, h => by
    rw [dTf_s (n + 2) v, dTf_s (n + 1) v]
    by_cases h1 : v < 10
    · rw [if_pos h1, if_pos h1]
    · have e : (10 : Nat) ^ (n + 1 + 1) = 10 ^ (n + 1) * 10 := Nat.pow_succ 10 (n + 1)
      rw [if_neg h1, if_neg h1, dTf_up n (v / 10) (by omega)]
theorem dT_lt {v : Nat} (h : v < 10) : dT v = [48 + v] := by rw [dT, dTf, if_pos h]
theorem dT_10 {v : Nat} (h : 10 ≤ v) (h2 : v < 100000000000) : dT v = dT (v / 10) ++ [48 + v % 10] := by
  rw [dT, dTf, if_neg (by omega), dT, dTf_up 9 (v / 10) (by
    have e : (10 : Nat) ^ (9 + 1) = 10000000000 := by decide
    rw [e]; omega)]
theorem dT_100 {v : Nat} (h : 100 ≤ v) (h2 : v < 100000000000) : dT v = dT (v / 100) ++ [48 + v % 100 / 10] ++ [48 + v % 100 % 10] := by
  rw [dT_10 (by omega) h2, dT_10 (v := v / 10) (by omega) (by omega), show v / 10 / 10 = v / 100 by omega, show v / 10 % 10 = v % 100 / 10 by omega, show v % 10 = v % 100 % 10 by omega]
theorem dT_99 {v : Nat} (h : 10 ≤ v) (h2 : v < 100) : dT v = [48 + v / 10] ++ [48 + v % 10] := by
  rw [dT_10 h (by omega), dT_lt (by omega)]
theorem dT_len : ∀ k v, v < 10 ^ (k + 1) → (10 ^ k ≤ v ∨ k = 0) → k ≤ 10 → (dT v).length = k + 1
  | 0, v, h, _, _ => by rw [dT_lt (by simpa using h)]; rfl
  | k + 1, v, h, h2, h3 => by
    have e1 : (10 : Nat) ^ (k + 1 + 1) = 10 ^ (k + 1) * 10 := Nat.pow_succ 10 (k + 1)
    have e2 : (10 : Nat) ^ (k + 1) = 10 ^ k * 10 := Nat.pow_succ 10 k
    have h4 : 10 ^ (k + 1) ≤ v := by
      rcases h2 with h2 | h2
      · exact h2
      · omega
    have h5 : 1 ≤ 10 ^ k := Nat.one_le_pow k 10 (by omega)
    have h6 : (10 : Nat) ^ (k + 1 + 1) ≤ 10 ^ 11 := Nat.pow_le_pow_right (by omega) (by omega)
    have h7 : (10 : Nat) ^ 11 = 100000000000 := by decide
    rw [dT_10 (by omega) (by omega), List.length_append, dT_len k (v / 10) (by omega) (Or.inl (by omega)) (by omega)]
    rfl
theorem dT_pos (v : Nat) : 1 ≤ (dT v).length := by
  rw [dT, dTf]
  split
  · exact Nat.le_refl 1
  · rw [List.length_append]; exact Nat.le_add_left 1 _
