theorem i32_cases (x : Int32) (n : Nat) (hn : n < 2147483648) : (∃ k, k < n ∧ x = nI k) ∨ (x < nI 0 ∨ nI n ≤ x) := by
  by_cases h : x < nI 0
  · exact Or.inr (Or.inl h)
  · by_cases h2 : nI n ≤ x
    · exact Or.inr (Or.inr h2)
    · left
      rw [Int32.lt_iff_toInt_lt, nJ_toInt (by omega)] at h
      rw [Int32.le_iff_toInt_le, nJ_toInt hn] at h2
      refine ⟨x.toInt.toNat, by omega, ?_⟩
      apply Int32.toInt_inj.mp
      rw [nJ_toInt (by omega)]
      omega
theorem not_in {x : Int32} {n : Nat} (hn : n < 2147483648) (h : ∀ k, k < n → x ≠ nI k) : x < nI 0 ∨ nI n ≤ x := by
  rcases i32_cases x n hn with ⟨k, hk, e⟩ | h2
  · exact absurd e (h k hk)
  · exact h2
theorem le_sub1 {x : Int32} {n : Nat} (hn : n < 2147483648) : (nI n - nI 1 < x) ↔ nI n ≤ x := by
  rw [Int32.lt_iff_toInt_lt, Int32.le_iff_toInt_le, nJ_toInt hn]
  have e : nI n - nI 1 = iI ((n : Int) - 1) := by
    rw [nI_iI, nI_iI, iI_sub]
    rfl
  rw [e, iI_toInt (by omega) (by omega)]
  omega
theorem lt_le1 {x : Int32} {n : Nat} (hn : n < 2147483647) : (nI n < x) ↔ nI (n + 1) ≤ x := by
  rw [Int32.lt_iff_toInt_lt, Int32.le_iff_toInt_le, nJ_toInt (by omega), nJ_toInt (by omega)]
  omega
theorem nI_in0 {a n : Nat} (h : a < n) (hn : n < 2147483648) : (nI a < nI 0 ∨ n ≤ (nI a).toNatClampNeg) ↔ False := nJ_in h hn
section
variable {B : Nat} {a : mA} {u : vH}
theorem xq_has (w : WF B a) (r : RX a u) {k : Nat} (hk : k < a 0 0) : fX5_hasSailor (nI k) u = some (nI 1, u) := by
  have := wf_n w
  have h1 : ¬ a 0 0 ≤ k := by omega
  have h2 : ¬ k < 0 := by omega
  simp (disch := omega) only [fX5_hasSailor, rx_n r, lits, nJ_le, nJ_lt, nJ_eq, nJ_clamp, nJ_add, nI_mul, nI_sub, nI_and, nI_or, nI_xor, Nat.add_zero, Nat.not_lt_zero, leF, leT, ltF, ltT, eqF, eqT, bd, obp_some, Option.bind_some, reduceIte, reduceCtorEq, or_self, or_true, true_or, or_false, false_or, h1, h2]
theorem xq_hasnt (w : WF B a) (r : RX a u) {x : Int32} (h : x < nI 0 ∨ nI (a 0 0) ≤ x) : fX5_hasSailor x u = some (nI 0, u) := by
  simp only [fX5_hasSailor, rx_n r, lits]
  rcases h with h | h
  · rw [if_pos h]
  · rw [if_pos h, ite_self]
theorem xq_sightsOf (w : WF B a) (r : RX a u) {s : Nat} (hs : s < 8) : fX5_sightsOf (nI s) u = some (nI (sumN (a 0 3) (fun k => if a 5 k = s then 1 else 0)), u) := by
  have hl := wf_l w
  have hn := wf_n w
  have hg := wf_g w
  rw [fX5_sightsOf]
  have e0 : (0 : Int32) = nI (sumN 0 (fun k => if a 5 k = s then 1 else 0)) := rfl
  refine loop_to (F := fun n i => fX5_sightsOf_4 n (nI s) (nI (sumN i (fun k => if a 5 k = s then 1 else 0))) (nI i) u) (a 0 3) (by omega) (fun n i hi => ?_) (fun n => ?_)
  · have h2 := hg i hi
    simp (disch := omega) only [fX5_sightsOf_4, rx_n r, rx_e r, rx_h r, rx_l r, rx_m r, rx_c r, rx_w r, rx_z r, rx_s r, rx_t r, rx_f r, lits, nJ_le, nJ_lt, nJ_eq, nJ_clamp, nJ_add, nI_mul, nI_sub, nI_and, nI_or, nI_xor, Nat.add_zero, Nat.not_lt_zero, leF, leT, ltF, ltT, eqF, eqT, bd, obp_some, Option.bind_some, reduceIte, reduceCtorEq, or_self, or_true, true_or, or_false, false_or, sumN]
    by_cases h3 : a 5 i = s
    · simp only [h3, if_true]
    · simp only [h3, if_false, Nat.add_zero]
  · simp (disch := omega) only [fX5_sightsOf_4, rx_n r, rx_e r, rx_h r, rx_l r, rx_m r, rx_c r, rx_w r, rx_z r, rx_s r, rx_t r, rx_f r, lits, nJ_le, nJ_lt, nJ_eq, nJ_clamp, nJ_add, nI_mul, nI_sub, nI_and, nI_or, nI_xor, Nat.add_zero, Nat.not_lt_zero, leF, leT, ltF, ltT, eqF, eqT, bd, obp_some, Option.bind_some, reduceIte, reduceCtorEq, or_self, or_true, true_or, or_false, false_or]
end

