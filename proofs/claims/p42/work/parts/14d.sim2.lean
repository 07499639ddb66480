abbrev okD (x : UInt64) : Prop := x &&& 0x7fffffffffffffff ≤ 0x7ff0000000000000
theorem ang_ok : ∀ z : Nat, z < 40 → okD (FP.f2d (FP.fdiv (FP.i2f (iI ((z : Int) - 19))) 1082130432)) := by decide +kernel
theorem ang_ok0 : okD (FP.f2d FP.fconst0) := by decide +kernel
theorem mean_ok : ∀ n : Nat, n < 9 → 0 < n → ∀ z : Nat, z < 300 → okD (FP.ddiv (FP.i2d (iI ((z : Int) - 150))) (FP.i2d (nI n))) := by decide +kernel
theorem sumZ_b {N : Nat} {f : Nat → Int} (h : ∀ i, i < N → -16 ≤ f i ∧ f i ≤ 17) : -16 * (N : Int) ≤ sumZ N f ∧ sumZ N f ≤ 17 * (N : Int) := by
  induction N with
  | zero => exact ⟨Int.le_refl _, Int.le_refl _⟩
  | succ N ih =>
    have h1 := ih (fun i hi => h i (by omega))
    have h2 := h N (by omega)
    unfold sumZ
    omega
section
variable {B : Nat} {a : mA} {u : vZ} {v : vS}
theorem xq_sight (w : WF B a) {u : vH} (r : RX a u) {k : Nat} (hk : k < a 0 3) : fX5_hasSight (nI k) u = some (nI 1, u) := by
  have := wf_l w
  have h1 : ¬ a 0 3 ≤ k := by omega
  simp (disch := omega) only [fX5_hasSight, rx_n r, rx_e r, rx_h r, rx_l r, rx_m r, rx_c r, rx_w r, rx_z r, rx_s r, rx_t r, rx_f r, lits, nJ_le, nJ_lt, nJ_eq, nJ_clamp, nJ_add, nI_mul, nI_sub, nI_and, nI_or, nI_xor, Nat.add_zero, Nat.not_lt_zero, leF, leT, ltF, ltT, eqF, eqT, bd, obp_some, Option.bind_some, reduceIte, reduceCtorEq, or_self, or_true, true_or, or_false, false_or, h1]
theorem xq_sightnt (w : WF B a) {u : vH} (r : RX a u) {x : Int32} (h : x < nI 0 ∨ nI (a 0 3) ≤ x) : fX5_hasSight x u = some (nI 0, u) := by
  simp only [fX5_hasSight, rx_l r, lits]
  rcases h with h | h
  · rw [if_pos h]
  · rw [if_pos h, ite_self]
/-- two sailors, or not -/
theorem xq_both (w : WF B a) {u : vH} (r : RX a u) {s o : Nat} (hs : s < a 0 0) (ho : o < a 0 0) : fX5_hasBoth (nI s) (nI o) u = some (nI 1, u) := by
  have hn := wf_n w
  simp (disch := omega) only [fX5_hasBoth, xq_has w r hs, xq_has w r ho, lits, nJ_le, nJ_lt, nJ_eq, nJ_clamp, nJ_add, nI_mul, nI_sub, nI_and, nI_or, nI_xor, Nat.add_zero, Nat.not_lt_zero, leF, leT, ltF, ltT, eqF, eqT, bd, obp_some, Option.bind_some, reduceIte, reduceCtorEq, or_self, or_true, true_or, or_false, false_or]
theorem xq_bothn1 (w : WF B a) {u : vH} (r : RX a u) {x y : Int32} (h : x < nI 0 ∨ nI (a 0 0) ≤ x) : fX5_hasBoth x y u = some (nI 0, u) := (by rw [fX5_hasBoth, xq_hasnt w r h, obp_some]; (try dsimp only [bd]); exact if_pos l32_0.symm)
theorem xq_bothn2 (w : WF B a) {u : vH} (r : RX a u) {s : Nat} {y : Int32} (hs : s < a 0 0) (h : y < nI 0 ∨ nI (a 0 0) ≤ y) : fX5_hasBoth (nI s) y u = some (nI 0, u) := by
  have hn := wf_n w
  rw [fX5_hasBoth, xq_has w r hs, obp_some, if_neg (by decide), xq_hasnt w r h, obp_some]
  exact if_pos l32_0.symm
end

