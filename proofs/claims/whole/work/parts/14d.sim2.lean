abbrev okD (x : UInt64) : Prop := x &&& 0x7fffffffffffffff ≤ 0x7ff0000000000000
theorem ang_ok : ∀ z : Nat, z < 40 → okD (FP.f2d (FP.fdiv (FP.i2f (iI ((z : Int) - 19))) 1082130432)) := by decide +kernel
theorem ang_ok0 : okD (FP.f2d FP.fconst0) := by decide +kernel
theorem mean_ok : ∀ n : Nat, n < 9 → 0 < n → ∀ z : Nat, z < 300 → okD (FP.ddiv (FP.i2d (iI ((z : Int) - 150))) (FP.i2d (nI n))) := by decide +kernel
theorem sumZ_b {N : Nat} {f : Nat → Int} (h : ∀ i, i < N → -16 ≤ f i ∧ f i ≤ 17) : -16 * (N : Int) ≤ sumZ N f ∧ sumZ N f ≤ 17 * (N : Int) := by
  induction N with
  | zero => exact ⟨Int.le_refl _, Int.le_refl _⟩
  | succ N ih =>
    have h1 := ih (fun i hi => h i (by omega))
    have h2 := h N (by omega)
    unfold sumZ
    omega
section
variable {B : Nat} {a : mA} {u : vZ} {v : vS}
theorem xq_sight (w : WF B a) {u : vH} (r : RX a u) {k : Nat} (hk : k < a 0 3) : fX5_hasSight (nI k) u = some (nI 1, u) := by
  have := wf_l w
  have h1 : ¬ a 0 3 ≤ k := by omega
  simp (disch := omega) only [fX5_hasSight, rx_n r, rx_e r, rx_h r, rx_l r, rx_m r, rx_c r, rx_w r, rx_z r, rx_s r, rx_t r, rx_f r, lits, nJ_le, nJ_lt, nJ_eq, nJ_clamp, nJ_add, nI_mul, nI_sub, nI_and, nI_or, nI_xor, Nat.add_zero, Nat.not_lt_zero, leF, leT, ltF, ltT, eqF, eqT, bd, obp_some, Option.bind_some, reduceIte, reduceCtorEq, or_self, or_true, true_or, or_false, false_or, h1]
theorem xq_sightnt (w : WF B a) {u : vH} (r : RX a u) {x : Int32} (h : x < nI 0 ∨ nI (a 0 3) ≤ x) : fX5_hasSight x u = some (nI 0, u) := by
  simp only [fX5_hasSight, rx_l r, lits]
  rcases h with h | h
  · rw [if_pos h]
  · rw [if_pos h, ite_self]
theorem in_no {y : Int32} {n : Nat} (hn : n < 2147483647) (h : y < nI 0 ∨ nI (n + 1) ≤ y) : fX8_isIn y (nI 0) (nI n) = some (nI 0) := by
  have e9 : (nI n < y) ↔ nI (n + 1) ≤ y := lt_le1 hn
  rcases h with h | h
  · simp only [fX8_isIn, h, if_true, l32_0]
  · by_cases h7 : y < nI 0
    · simp only [fX8_isIn, h7, if_true, l32_0]
    · simp only [fX8_isIn, h7, e9, h, if_true, if_false, l32_0]
theorem in_no1 {y : Int32} {n : Nat} (hn : n < 2147483647) (h : y < nI 0 ∨ nI n ≤ y) : fX8_isIn y (nI 0) (nI n - nI 1) = some (nI 0) := by
  have e9 : (nI n - nI 1 < y) ↔ nI n ≤ y := le_sub1 (by omega)
  rcases h with h | h
  · simp only [fX8_isIn, h, if_true, l32_0]
  · by_cases h7 : y < nI 0
    · simp only [fX8_isIn, h7, if_true, l32_0]
    · simp only [fX8_isIn, h7, e9, h, if_true, if_false, l32_0]
theorem q_sightOf (w : WF B a) (r : RX a u.2.1.1) (q : RR a (v 1)) (x y : Int32) : QS (fX7_sightOf x y u) (fX8_sightOf x y v) u v := by
  have hl := wf_l w
  rcases i32_cases x (a 0 3) (by omega) with ⟨k, hk, rfl⟩ | hx
  · have h1 := wf_g w k hk
    have g0 := xq_sight w r hk
    have g1 : fX8_isIn (nI k) (nI 0) (nI (a 0 3 - 1)) = some (nI 1) := by simp (disch := omega) only [fX8_isIn, lits, nJ_le, nJ_lt, nJ_eq, nJ_clamp, nJ_add, nI_mul, nI_sub, nI_and, nI_or, nI_xor, Nat.add_zero, Nat.not_lt_zero, leF, leT, ltF, ltT, eqF, eqT, bd, obp_some, Option.bind_some, reduceIte, reduceCtorEq, or_self, or_true, true_or, or_false, false_or]
    have i1 : ∀ k, k < 3 → fX8_isIn (nI k) (nI 0) (nI 2) = some (nI 1) := by
      intro k hk
      simp (disch := omega) only [fX8_isIn, lits, nJ_le, nJ_lt, nJ_eq, nJ_clamp, nJ_add, nI_mul, nI_sub, nI_and, nI_or, nI_xor, Nat.add_zero, Nat.not_lt_zero, leF, leT, ltF, ltT, eqF, eqT, bd, obp_some, Option.bind_some, reduceIte, reduceCtorEq, or_self, or_true, true_or, or_false, false_or]
    by_cases e0 : y = nI 0
    · subst e0
      exact ⟨nI (a 5 k), (by simp (disch := omega) only [fX7_sightOf, g0, rx_n r, rx_e r, rx_h r, rx_l r, rx_m r, rx_c r, rx_w r, rx_z r, rx_s r, rx_t r, rx_f r, rx_k4 r, rx_k5 r, rx_k6 r, rx_k7 r, peta, if_true, if_false, not_true, not_false_iff, lits, nJ_le, nJ_lt, nJ_eq, nJ_clamp, nJ_add, nI_mul, nI_sub, nI_and, nI_or, nI_xor, Nat.add_zero, Nat.not_lt_zero, leF, leT, ltF, ltT, eqF, eqT, bd, obp_some, Option.bind_some, reduceIte, reduceCtorEq, or_self, or_true, true_or, or_false, false_or]), (by simp (disch := omega) only [fX8_sightOf, g1, i1, rr_n q, rr_e q, rr_h q, rr_l q, rr_m q, rr_c q, rr_w q, rr_z q, rr_s q, rr_t q, rr_f q, rr_k4 q, rr_k5 q, rr_k6 q, rr_k7 q, peta, if_true, if_false, not_true, not_false_iff, lits, nJ_le, nJ_lt, nJ_eq, nJ_clamp, nJ_add, nI_mul, nI_sub, nI_and, nI_or, nI_xor, Nat.add_zero, Nat.not_lt_zero, leF, leT, ltF, ltT, eqF, eqT, bd, obp_some, Option.bind_some, reduceIte, reduceCtorEq, or_self, or_true, true_or, or_false, false_or])⟩
    by_cases e1 : y = nI 1
    · subst e1
      exact ⟨nI (a 6 k), (by simp (disch := omega) only [fX7_sightOf, g0, rx_n r, rx_e r, rx_h r, rx_l r, rx_m r, rx_c r, rx_w r, rx_z r, rx_s r, rx_t r, rx_f r, rx_k4 r, rx_k5 r, rx_k6 r, rx_k7 r, peta, if_true, if_false, not_true, not_false_iff, lits, nJ_le, nJ_lt, nJ_eq, nJ_clamp, nJ_add, nI_mul, nI_sub, nI_and, nI_or, nI_xor, Nat.add_zero, Nat.not_lt_zero, leF, leT, ltF, ltT, eqF, eqT, bd, obp_some, Option.bind_some, reduceIte, reduceCtorEq, or_self, or_true, true_or, or_false, false_or]), (by simp (disch := omega) only [fX8_sightOf, g1, i1, rr_n q, rr_e q, rr_h q, rr_l q, rr_m q, rr_c q, rr_w q, rr_z q, rr_s q, rr_t q, rr_f q, rr_k4 q, rr_k5 q, rr_k6 q, rr_k7 q, peta, if_true, if_false, not_true, not_false_iff, lits, nJ_le, nJ_lt, nJ_eq, nJ_clamp, nJ_add, nI_mul, nI_sub, nI_and, nI_or, nI_xor, Nat.add_zero, Nat.not_lt_zero, leF, leT, ltF, ltT, eqF, eqT, bd, obp_some, Option.bind_some, reduceIte, reduceCtorEq, or_self, or_true, true_or, or_false, false_or])⟩
    by_cases e2 : y = nI 2
    · subst e2
      have g := fe_bits (a 7 k) h1.2.2
      exact ⟨UInt32.toInt32 (fe (a 7 k)), (by simp (disch := omega) only [fX7_sightOf, g0, g, rx_n r, rx_e r, rx_h r, rx_l r, rx_m r, rx_c r, rx_w r, rx_z r, rx_s r, rx_t r, rx_f r, rx_k4 r, rx_k5 r, rx_k6 r, rx_k7 r, peta, if_true, if_false, not_true, not_false_iff, lits, nJ_le, nJ_lt, nJ_eq, nJ_clamp, nJ_add, nI_mul, nI_sub, nI_and, nI_or, nI_xor, Nat.add_zero, Nat.not_lt_zero, leF, leT, ltF, ltT, eqF, eqT, bd, obp_some, Option.bind_some, reduceIte, reduceCtorEq, or_self, or_true, true_or, or_false, false_or]), (by simp (disch := omega) only [fX8_sightOf, g1, i1, rr_n q, rr_e q, rr_h q, rr_l q, rr_m q, rr_c q, rr_w q, rr_z q, rr_s q, rr_t q, rr_f q, rr_k4 q, rr_k5 q, rr_k6 q, rr_k7 q, peta, if_true, if_false, not_true, not_false_iff, lits, nJ_le, nJ_lt, nJ_eq, nJ_clamp, nJ_add, nI_mul, nI_sub, nI_and, nI_or, nI_xor, Nat.add_zero, Nat.not_lt_zero, leF, leT, ltF, ltT, eqF, eqT, bd, obp_some, Option.bind_some, reduceIte, reduceCtorEq, or_self, or_true, true_or, or_false, false_or])⟩
    have i2 : fX8_isIn y (nI 0) (nI 2) = some (nI 0) := by
      have h := not_in (x := y) (n := 3) (by omega) (fun k hk => by
        have : k = 0 ∨ k = 1 ∨ k = 2 := by omega
        rcases this with e | e | e <;> subst e <;> assumption)
      exact in_no (by omega) h
    exact ⟨-100002, (by simp (disch := omega) only [fX7_sightOf, g0, e0, e1, e2, rx_n r, rx_e r, rx_h r, rx_l r, rx_m r, rx_c r, rx_w r, rx_z r, rx_s r, rx_t r, rx_f r, rx_k4 r, rx_k5 r, rx_k6 r, rx_k7 r, peta, if_true, if_false, not_true, not_false_iff, lits, nJ_le, nJ_lt, nJ_eq, nJ_clamp, nJ_add, nI_mul, nI_sub, nI_and, nI_or, nI_xor, Nat.add_zero, Nat.not_lt_zero, leF, leT, ltF, ltT, eqF, eqT, bd, obp_some, Option.bind_some, reduceIte, reduceCtorEq, or_self, or_true, true_or, or_false, false_or]), (by simp (disch := omega) only [fX8_sightOf, g1, i2, rr_n q, rr_e q, rr_h q, rr_l q, rr_m q, rr_c q, rr_w q, rr_z q, rr_s q, rr_t q, rr_f q, rr_k4 q, rr_k5 q, rr_k6 q, rr_k7 q, peta, if_true, if_false, not_true, not_false_iff, lits, nJ_le, nJ_lt, nJ_eq, nJ_clamp, nJ_add, nI_mul, nI_sub, nI_and, nI_or, nI_xor, Nat.add_zero, Nat.not_lt_zero, leF, leT, ltF, ltT, eqF, eqT, bd, obp_some, Option.bind_some, reduceIte, reduceCtorEq, or_self, or_true, true_or, or_false, false_or])⟩
  · refine ⟨-100001, (by rw [fX7_sightOf, xq_sightnt w r hx, obp_some]; (try dsimp only [bd]); exact if_pos l32_0.symm), ?_⟩
    have e := in_no1 (n := a 0 3) (by omega) hx
    rw [← l32_1, ← l32_0] at e
    rw [fX8_sightOf, rr_l q, e, Option.bind_some]
    exact if_pos rfl
theorem q_angle (w : WF B a) (r : RX a u.2.1.1) (q : RR a (v 1)) (x : Int32) : ∃ y, fX7_angle x u = some (y, u) ∧ fX8_angle x v = some (y, v) ∧ okD (FP.f2d y) := by
  have hn := wf_n w
  rcases i32_cases x (a 0 0) (by omega) with ⟨s, hs, rfl⟩ | hx
  · have g0 := xq_has w r hs
    have g1 := rq_is w q hs
    have hb := ang_b w hs
    have hz := rdg_all (ang a s + 19).toNat (by omega) 0 (by omega)
    have ho := ang_ok (ang a s + 19).toNat (by omega)
    have e1 : (((ang a s + 19).toNat : Nat) : Int) - 19 = ang a s := by omega
    rw [e1] at hz ho
    have h1 := hz.1
    unfold okF at h1
    exact ⟨FP.fdiv (FP.i2f (iI (ang a s))) 1082130432, (by simp (disch := omega) only [fX7_angle, g0, xq_angle0 w r hs, h1, rx_n r, rx_e r, rx_h r, rx_l r, rx_m r, rx_c r, rx_w r, rx_z r, rx_s r, rx_t r, rx_f r, rx_k4 r, rx_k5 r, rx_k6 r, rx_k7 r, peta, if_true, if_false, not_true, not_false_iff, lits, nJ_le, nJ_lt, nJ_eq, nJ_clamp, nJ_add, nI_mul, nI_sub, nI_and, nI_or, nI_xor, Nat.add_zero, Nat.not_lt_zero, leF, leT, ltF, ltT, eqF, eqT, bd, obp_some, Option.bind_some, reduceIte, reduceCtorEq, or_self, or_true, true_or, or_false, false_or]), (by simp (disch := omega) only [fX8_angle, g1, rq_angled w q hs, h1, rr_n q, rr_e q, rr_h q, rr_l q, rr_m q, rr_c q, rr_w q, rr_z q, rr_s q, rr_t q, rr_f q, rr_k4 q, rr_k5 q, rr_k6 q, rr_k7 q, peta, if_true, if_false, not_true, not_false_iff, lits, nJ_le, nJ_lt, nJ_eq, nJ_clamp, nJ_add, nI_mul, nI_sub, nI_and, nI_or, nI_xor, Nat.add_zero, Nat.not_lt_zero, leF, leT, ltF, ltT, eqF, eqT, bd, obp_some, Option.bind_some, reduceIte, reduceCtorEq, or_self, or_true, true_or, or_false, false_or]), ho⟩
  · exact ⟨FP.fconst0, (by rw [fX7_angle, xq_hasnt w r hx, obp_some]; (try dsimp only [bd]); exact if_pos l32_0.symm), (by rw [fX8_angle, rq_isnt w q hx, obp_some]; (try dsimp only [bd]); exact if_pos l32_0.symm), ang_ok0⟩
theorem q_readBits (w : WF B a) (r : RX a u.2.1.1) (q : RR a (v 1)) (x : Int32) : QS (fX7_readBits x u) (fX8_readBits x v) u v := by
  have hn := wf_n w
  rcases i32_cases x (a 0 0) (by omega) with ⟨s, hs, rfl⟩ | hx
  · have g0 := xq_has w r hs
    have g1 := rq_is w q hs
    have h1 := rdR_lt w hs
    have h2 := fe_bits _ h1
    have h3 := (fe_ok _ h1).2.2
    exact ⟨UInt32.toInt32 (fe (rdR a s)), (by simp (disch := omega) only [fX7_readBits, g0, xq_reading w r hs, h2, rx_n r, rx_e r, rx_h r, rx_l r, rx_m r, rx_c r, rx_w r, rx_z r, rx_s r, rx_t r, rx_f r, rx_k4 r, rx_k5 r, rx_k6 r, rx_k7 r, peta, if_true, if_false, not_true, not_false_iff, lits, nJ_le, nJ_lt, nJ_eq, nJ_clamp, nJ_add, nI_mul, nI_sub, nI_and, nI_or, nI_xor, Nat.add_zero, Nat.not_lt_zero, leF, leT, ltF, ltT, eqF, eqT, bd, obp_some, Option.bind_some, reduceIte, reduceCtorEq, or_self, or_true, true_or, or_false, false_or]), (by simp (disch := omega) only [fX8_readBits, g1, rq_reads w q hs, h3, rr_n q, rr_e q, rr_h q, rr_l q, rr_m q, rr_c q, rr_w q, rr_z q, rr_s q, rr_t q, rr_f q, rr_k4 q, rr_k5 q, rr_k6 q, rr_k7 q, peta, if_true, if_false, not_true, not_false_iff, lits, nJ_le, nJ_lt, nJ_eq, nJ_clamp, nJ_add, nI_mul, nI_sub, nI_and, nI_or, nI_xor, Nat.add_zero, Nat.not_lt_zero, leF, leT, ltF, ltT, eqF, eqT, bd, obp_some, Option.bind_some, reduceIte, reduceCtorEq, or_self, or_true, true_or, or_false, false_or])⟩
  · exact ⟨-100001, (by rw [fX7_readBits, xq_hasnt w r hx, obp_some]; (try dsimp only [bd]); exact if_pos l32_0.symm), (by rw [fX8_readBits, rq_isnt w q hx, obp_some]; (try dsimp only [bd]); exact if_pos l32_0.symm)⟩
theorem q_fix2 (w : WF B a) (r : RX a u.2.1.1) (q : RR a (v 1)) (x : Int32) : ∃ y, fX7_fixBits x u = some (y, u) ∧ fX7_fixAgain x u = some (y, u) ∧ fX8_fixBits x v = some (y, v) := by
  have hn := wf_n w
  have hl := wf_l w
  rcases i32_cases x (a 0 0) (by omega) with ⟨s, hs, rfl⟩ | hx
  · have g0 := xq_has w r hs
    have g1 := rq_is w q hs
    have g2 := xq_hasFix w r hs
    have g3 := rq_sights w q (s := s) (by omega)
    have hb : cntS a s ≤ a 0 3 * 1 := sumN_bound (fun i _ => by split <;> omega)
    by_cases h : cntS a s < 2
    · simp only [h, if_true] at g2
      exact ⟨-100006, (by simp (disch := omega) only [fX7_fixBits, g0, g2, rx_n r, rx_e r, rx_h r, rx_l r, rx_m r, rx_c r, rx_w r, rx_z r, rx_s r, rx_t r, rx_f r, rx_k4 r, rx_k5 r, rx_k6 r, rx_k7 r, peta, if_true, if_false, not_true, not_false_iff, lits, nJ_le, nJ_lt, nJ_eq, nJ_clamp, nJ_add, nI_mul, nI_sub, nI_and, nI_or, nI_xor, Nat.add_zero, Nat.not_lt_zero, leF, leT, ltF, ltT, eqF, eqT, bd, obp_some, Option.bind_some, reduceIte, reduceCtorEq, or_self, or_true, true_or, or_false, false_or]), (by simp (disch := omega) only [fX7_fixAgain, g0, g2, rx_n r, rx_e r, rx_h r, rx_l r, rx_m r, rx_c r, rx_w r, rx_z r, rx_s r, rx_t r, rx_f r, rx_k4 r, rx_k5 r, rx_k6 r, rx_k7 r, peta, if_true, if_false, not_true, not_false_iff, lits, nJ_le, nJ_lt, nJ_eq, nJ_clamp, nJ_add, nI_mul, nI_sub, nI_and, nI_or, nI_xor, Nat.add_zero, Nat.not_lt_zero, leF, leT, ltF, ltT, eqF, eqT, bd, obp_some, Option.bind_some, reduceIte, reduceCtorEq, or_self, or_true, true_or, or_false, false_or]), (by simp (disch := omega) only [fX8_fixBits, g1, g3, rr_n q, rr_e q, rr_h q, rr_l q, rr_m q, rr_c q, rr_w q, rr_z q, rr_s q, rr_t q, rr_f q, rr_k4 q, rr_k5 q, rr_k6 q, rr_k7 q, peta, if_true, if_false, not_true, not_false_iff, lits, nJ_le, nJ_lt, nJ_eq, nJ_clamp, nJ_add, nI_mul, nI_sub, nI_and, nI_or, nI_xor, Nat.add_zero, Nat.not_lt_zero, leF, leT, ltF, ltT, eqF, eqT, bd, obp_some, Option.bind_some, reduceIte, reduceCtorEq, or_self, or_true, true_or, or_false, false_or])⟩
    · simp only [h, if_false] at g2
      obtain ⟨k1, k2, f⟩ := fx_of (a := a) (s := s) (by omega)
      obtain ⟨p1, p2⟩ := xq_fixOf w r hs f
      have p3 := rq_fixed w q hs f
      obtain ⟨f1, f2, f3, f4, f5, f6⟩ := f
      have y1 := wf_g w k1 (by omega)
      have y2 := wf_g w k2 f2
      have h2 := fs_bits (a 7 k1 + a 7 k2) (by omega)
      have h3 := (fs_ok (a 7 k1 + a 7 k2) (by omega)).2.1
      exact ⟨UInt32.toInt32 (fs (a 7 k1 + a 7 k2)), (by simp (disch := omega) only [fX7_fixBits, g0, g2, p1, h2, rx_n r, rx_e r, rx_h r, rx_l r, rx_m r, rx_c r, rx_w r, rx_z r, rx_s r, rx_t r, rx_f r, rx_k4 r, rx_k5 r, rx_k6 r, rx_k7 r, peta, if_true, if_false, not_true, not_false_iff, lits, nJ_le, nJ_lt, nJ_eq, nJ_clamp, nJ_add, nI_mul, nI_sub, nI_and, nI_or, nI_xor, Nat.add_zero, Nat.not_lt_zero, leF, leT, ltF, ltT, eqF, eqT, bd, obp_some, Option.bind_some, reduceIte, reduceCtorEq, or_self, or_true, true_or, or_false, false_or]), (by simp (disch := omega) only [fX7_fixAgain, g0, g2, p2, h2, rx_n r, rx_e r, rx_h r, rx_l r, rx_m r, rx_c r, rx_w r, rx_z r, rx_s r, rx_t r, rx_f r, rx_k4 r, rx_k5 r, rx_k6 r, rx_k7 r, peta, if_true, if_false, not_true, not_false_iff, lits, nJ_le, nJ_lt, nJ_eq, nJ_clamp, nJ_add, nI_mul, nI_sub, nI_and, nI_or, nI_xor, Nat.add_zero, Nat.not_lt_zero, leF, leT, ltF, ltT, eqF, eqT, bd, obp_some, Option.bind_some, reduceIte, reduceCtorEq, or_self, or_true, true_or, or_false, false_or]), (by simp (disch := omega) only [fX8_fixBits, g1, g3, p3, h3, rr_n q, rr_e q, rr_h q, rr_l q, rr_m q, rr_c q, rr_w q, rr_z q, rr_s q, rr_t q, rr_f q, rr_k4 q, rr_k5 q, rr_k6 q, rr_k7 q, peta, if_true, if_false, not_true, not_false_iff, lits, nJ_le, nJ_lt, nJ_eq, nJ_clamp, nJ_add, nI_mul, nI_sub, nI_and, nI_or, nI_xor, Nat.add_zero, Nat.not_lt_zero, leF, leT, ltF, ltT, eqF, eqT, bd, obp_some, Option.bind_some, reduceIte, reduceCtorEq, or_self, or_true, true_or, or_false, false_or])⟩
  · exact ⟨-100001, (by rw [fX7_fixBits, xq_hasnt w r hx, obp_some]; (try dsimp only [bd]); exact if_pos l32_0.symm), (by rw [fX7_fixAgain, xq_hasnt w r hx, obp_some]; (try dsimp only [bd]); exact if_pos l32_0.symm), (by rw [fX8_fixBits, rq_isnt w q hx, obp_some]; (try dsimp only [bd]); exact if_pos l32_0.symm)⟩
theorem q_fixBits (w : WF B a) (r : RX a u.2.1.1) (q : RR a (v 1)) (x : Int32) : QS (fX7_fixBits x u) (fX8_fixBits x v) u v := by
  obtain ⟨y, h1, h2, h3⟩ := q_fix2 w r q x
  exact ⟨y, h1, h3⟩
theorem q_fixAgain (w : WF B a) (r : RX a u.2.1.1) (q : RR a (v 1)) (x : Int32) : QS (fX7_fixAgain x u) (fX8_fixAgain x v) u v := by
  obtain ⟨y, h1, h2, h3⟩ := q_fix2 w r q x
  refine ⟨y, h2, ?_⟩
  rw [fX8_fixAgain, h3, obp_some]
/-- two sailors, or not -/
theorem xq_both (w : WF B a) {u : vH} (r : RX a u) {s o : Nat} (hs : s < a 0 0) (ho : o < a 0 0) : fX5_hasBoth (nI s) (nI o) u = some (nI 1, u) := by
  have hn := wf_n w
  simp (disch := omega) only [fX5_hasBoth, xq_has w r hs, xq_has w r ho, lits, nJ_le, nJ_lt, nJ_eq, nJ_clamp, nJ_add, nI_mul, nI_sub, nI_and, nI_or, nI_xor, Nat.add_zero, Nat.not_lt_zero, leF, leT, ltF, ltT, eqF, eqT, bd, obp_some, Option.bind_some, reduceIte, reduceCtorEq, or_self, or_true, true_or, or_false, false_or]
theorem xq_bothn1 (w : WF B a) {u : vH} (r : RX a u) {x y : Int32} (h : x < nI 0 ∨ nI (a 0 0) ≤ x) : fX5_hasBoth x y u = some (nI 0, u) := (by rw [fX5_hasBoth, xq_hasnt w r h, obp_some]; (try dsimp only [bd]); exact if_pos l32_0.symm)
theorem xq_bothn2 (w : WF B a) {u : vH} (r : RX a u) {s : Nat} {y : Int32} (hs : s < a 0 0) (h : y < nI 0 ∨ nI (a 0 0) ≤ y) : fX5_hasBoth (nI s) y u = some (nI 0, u) := by
  have hn := wf_n w
  rw [fX5_hasBoth, xq_has w r hs, obp_some, if_neg (by decide), xq_hasnt w r h, obp_some]
  exact if_pos l32_0.symm
theorem q_meet (w : WF B a) (r : RX a u.2.1.1) (q : RR a (v 1)) (x y : Int32) : QS (fX7_meet x y u) (fX8_meet x y v) u v := by
  have hn := wf_n w
  have hl := wf_l w
  rcases i32_cases x (a 0 0) (by omega) with ⟨s, hs, rfl⟩ | hx
  · rcases i32_cases y (a 0 0) (by omega) with ⟨o, ho, rfl⟩ | hy
    · have g0 := xq_both w r hs ho
      have g1 := rq_is w q hs
      have g2 := rq_is w q ho
      have g3 := xq_hasFix w r hs
      have g4 := xq_hasFix w r ho
      have g5 := rq_sights w q (s := s) (by omega)
      have g6 := rq_sights w q (s := o) (by omega)
      have hb : cntS a s ≤ a 0 3 * 1 := sumN_bound (fun i _ => by split <;> omega)
      have hb2 : cntS a o ≤ a 0 3 * 1 := sumN_bound (fun i _ => by split <;> omega)
      by_cases h : cntS a s < 2
      · simp only [h, if_true] at g3
        exact ⟨-100006, (by simp (disch := omega) only [fX7_meet, g0, g3, rx_n r, rx_e r, rx_h r, rx_l r, rx_m r, rx_c r, rx_w r, rx_z r, rx_s r, rx_t r, rx_f r, rx_k4 r, rx_k5 r, rx_k6 r, rx_k7 r, peta, if_true, if_false, not_true, not_false_iff, lits, nJ_le, nJ_lt, nJ_eq, nJ_clamp, nJ_add, nI_mul, nI_sub, nI_and, nI_or, nI_xor, Nat.add_zero, Nat.not_lt_zero, leF, leT, ltF, ltT, eqF, eqT, bd, obp_some, Option.bind_some, reduceIte, reduceCtorEq, or_self, or_true, true_or, or_false, false_or]), (by simp (disch := omega) only [fX8_meet, g1, g2, g5, rr_n q, rr_e q, rr_h q, rr_l q, rr_m q, rr_c q, rr_w q, rr_z q, rr_s q, rr_t q, rr_f q, rr_k4 q, rr_k5 q, rr_k6 q, rr_k7 q, peta, if_true, if_false, not_true, not_false_iff, lits, nJ_le, nJ_lt, nJ_eq, nJ_clamp, nJ_add, nI_mul, nI_sub, nI_and, nI_or, nI_xor, Nat.add_zero, Nat.not_lt_zero, leF, leT, ltF, ltT, eqF, eqT, bd, obp_some, Option.bind_some, reduceIte, reduceCtorEq, or_self, or_true, true_or, or_false, false_or])⟩
      by_cases h' : cntS a o < 2
      · simp only [h, h', if_true, if_false] at g3 g4
        exact ⟨-100006, (by simp (disch := omega) only [fX7_meet, g0, g3, g4, rx_n r, rx_e r, rx_h r, rx_l r, rx_m r, rx_c r, rx_w r, rx_z r, rx_s r, rx_t r, rx_f r, rx_k4 r, rx_k5 r, rx_k6 r, rx_k7 r, peta, if_true, if_false, not_true, not_false_iff, lits, nJ_le, nJ_lt, nJ_eq, nJ_clamp, nJ_add, nI_mul, nI_sub, nI_and, nI_or, nI_xor, Nat.add_zero, Nat.not_lt_zero, leF, leT, ltF, ltT, eqF, eqT, bd, obp_some, Option.bind_some, reduceIte, reduceCtorEq, or_self, or_true, true_or, or_false, false_or]), (by simp (disch := omega) only [fX8_meet, g1, g2, g5, g6, rr_n q, rr_e q, rr_h q, rr_l q, rr_m q, rr_c q, rr_w q, rr_z q, rr_s q, rr_t q, rr_f q, rr_k4 q, rr_k5 q, rr_k6 q, rr_k7 q, peta, if_true, if_false, not_true, not_false_iff, lits, nJ_le, nJ_lt, nJ_eq, nJ_clamp, nJ_add, nI_mul, nI_sub, nI_and, nI_or, nI_xor, Nat.add_zero, Nat.not_lt_zero, leF, leT, ltF, ltT, eqF, eqT, bd, obp_some, Option.bind_some, reduceIte, reduceCtorEq, or_self, or_true, true_or, or_false, false_or])⟩
      simp only [h, h', if_false] at g3 g4
      obtain ⟨k1, k2, f⟩ := fx_of (a := a) (s := s) (by omega)
      obtain ⟨p1, -⟩ := xq_fixOf w r hs f
      have p3 := rq_fixed w q hs f
      obtain ⟨j1, j2, f'⟩ := fx_of (a := a) (s := o) (by omega)
      obtain ⟨p1', -⟩ := xq_fixOf w r ho f'
      have p3' := rq_fixed w q ho f'
      obtain ⟨f1, f2, f3, f4, f5, f6⟩ := f
      obtain ⟨f1', f2', f3', f4', f5', f6'⟩ := f'
      have y1 := wf_g w k1 (by omega)
      have y2 := wf_g w k2 f2
      have y3 := wf_g w j1 (by omega)
      have y4 := wf_g w j2 f2'
      have m := meet_all (a 7 k1 + a 7 k2) (a 7 j1 + a 7 j2) (by omega) (by omega)
      unfold okF at m
      by_cases c1 : 0 ≤ Op.cmpValue (FP.fcmp (FP.fsub (fs (a 7 k1 + a 7 k2)) (fs (a 7 j1 + a 7 j2))) (1056964608 : UInt32)) CmpOp.g
      · rw [l32_0] at c1
        exact ⟨nI 0, (by simp (disch := omega) only [fX7_meet, g0, g3, g4, p1, p1', m, c1, rx_n r, rx_e r, rx_h r, rx_l r, rx_m r, rx_c r, rx_w r, rx_z r, rx_s r, rx_t r, rx_f r, rx_k4 r, rx_k5 r, rx_k6 r, rx_k7 r, peta, if_true, if_false, not_true, not_false_iff, lits, nJ_le, nJ_lt, nJ_eq, nJ_clamp, nJ_add, nI_mul, nI_sub, nI_and, nI_or, nI_xor, Nat.add_zero, Nat.not_lt_zero, leF, leT, ltF, ltT, eqF, eqT, bd, obp_some, Option.bind_some, reduceIte, reduceCtorEq, or_self, or_true, true_or, or_false, false_or]), (by simp (disch := omega) only [fX8_meet, g1, g2, g5, g6, p3, p3', m, c1, rr_n q, rr_e q, rr_h q, rr_l q, rr_m q, rr_c q, rr_w q, rr_z q, rr_s q, rr_t q, rr_f q, rr_k4 q, rr_k5 q, rr_k6 q, rr_k7 q, peta, if_true, if_false, not_true, not_false_iff, lits, nJ_le, nJ_lt, nJ_eq, nJ_clamp, nJ_add, nI_mul, nI_sub, nI_and, nI_or, nI_xor, Nat.add_zero, Nat.not_lt_zero, leF, leT, ltF, ltT, eqF, eqT, bd, obp_some, Option.bind_some, reduceIte, reduceCtorEq, or_self, or_true, true_or, or_false, false_or])⟩
      by_cases c2 : Op.cmpValue (FP.fcmp (FP.fsub (fs (a 7 k1 + a 7 k2)) (fs (a 7 j1 + a 7 j2))) (3204448256 : UInt32)) CmpOp.l ≤ 0
      · rw [l32_0] at c1 c2
        exact ⟨nI 0, (by simp (disch := omega) only [fX7_meet, g0, g3, g4, p1, p1', m, c1, c2, rx_n r, rx_e r, rx_h r, rx_l r, rx_m r, rx_c r, rx_w r, rx_z r, rx_s r, rx_t r, rx_f r, rx_k4 r, rx_k5 r, rx_k6 r, rx_k7 r, peta, if_true, if_false, not_true, not_false_iff, lits, nJ_le, nJ_lt, nJ_eq, nJ_clamp, nJ_add, nI_mul, nI_sub, nI_and, nI_or, nI_xor, Nat.add_zero, Nat.not_lt_zero, leF, leT, ltF, ltT, eqF, eqT, bd, obp_some, Option.bind_some, reduceIte, reduceCtorEq, or_self, or_true, true_or, or_false, false_or]), (by simp (disch := omega) only [fX8_meet, g1, g2, g5, g6, p3, p3', m, c1, c2, rr_n q, rr_e q, rr_h q, rr_l q, rr_m q, rr_c q, rr_w q, rr_z q, rr_s q, rr_t q, rr_f q, rr_k4 q, rr_k5 q, rr_k6 q, rr_k7 q, peta, if_true, if_false, not_true, not_false_iff, lits, nJ_le, nJ_lt, nJ_eq, nJ_clamp, nJ_add, nI_mul, nI_sub, nI_and, nI_or, nI_xor, Nat.add_zero, Nat.not_lt_zero, leF, leT, ltF, ltT, eqF, eqT, bd, obp_some, Option.bind_some, reduceIte, reduceCtorEq, or_self, or_true, true_or, or_false, false_or])⟩
      · rw [l32_0] at c1 c2
        exact ⟨nI 1, (by simp (disch := omega) only [fX7_meet, g0, g3, g4, p1, p1', m, c1, c2, rx_n r, rx_e r, rx_h r, rx_l r, rx_m r, rx_c r, rx_w r, rx_z r, rx_s r, rx_t r, rx_f r, rx_k4 r, rx_k5 r, rx_k6 r, rx_k7 r, peta, if_true, if_false, not_true, not_false_iff, lits, nJ_le, nJ_lt, nJ_eq, nJ_clamp, nJ_add, nI_mul, nI_sub, nI_and, nI_or, nI_xor, Nat.add_zero, Nat.not_lt_zero, leF, leT, ltF, ltT, eqF, eqT, bd, obp_some, Option.bind_some, reduceIte, reduceCtorEq, or_self, or_true, true_or, or_false, false_or]), (by simp (disch := omega) only [fX8_meet, g1, g2, g5, g6, p3, p3', m, c1, c2, rr_n q, rr_e q, rr_h q, rr_l q, rr_m q, rr_c q, rr_w q, rr_z q, rr_s q, rr_t q, rr_f q, rr_k4 q, rr_k5 q, rr_k6 q, rr_k7 q, peta, if_true, if_false, not_true, not_false_iff, lits, nJ_le, nJ_lt, nJ_eq, nJ_clamp, nJ_add, nI_mul, nI_sub, nI_and, nI_or, nI_xor, Nat.add_zero, Nat.not_lt_zero, leF, leT, ltF, ltT, eqF, eqT, bd, obp_some, Option.bind_some, reduceIte, reduceCtorEq, or_self, or_true, true_or, or_false, false_or])⟩
    · refine ⟨-100001, (by rw [fX7_meet, xq_bothn2 w r hs hy, obp_some]; (try dsimp only [bd]); exact if_pos l32_0.symm), ?_⟩
      rw [fX8_meet, rq_is w q hs, obp_some, if_neg (by decide), rq_isnt w q hy, obp_some]
      exact if_pos l32_0.symm
  · exact ⟨-100001, (by rw [fX7_meet, xq_bothn1 w r hx, obp_some]; (try dsimp only [bd]); exact if_pos l32_0.symm), (by rw [fX8_meet, rq_isnt w q hx, obp_some]; (try dsimp only [bd]); exact if_pos l32_0.symm)⟩
theorem q_unl (w : WF B a) (r : RX a u.2.1.1) (q : RR a (v 1)) (x y : Int32) : ∃ z, fX7_unlike x y u = some (z, u) ∧ fX7_unlikeAgain x y u = some (z, u) ∧ fX8_unlike x y v = some (z, v) := by
  have hn := wf_n w
  rcases i32_cases x (a 0 0) (by omega) with ⟨s, hs, rfl⟩ | hx
  · rcases i32_cases y (a 0 0) (by omega) with ⟨o, ho, rfl⟩ | hy
    · have g0 := xq_both w r hs ho
      have g1 := rq_is w q hs
      have g2 := rq_is w q ho
      have h1 := wf_s w s hs
      have h2 := wf_s w o ho
      exact ⟨nI (pc (a 1 s ^^^ a 1 o)), (by simp (disch := omega) only [fX7_unlike, g0, xq_unlike, rx_n r, rx_e r, rx_h r, rx_l r, rx_m r, rx_c r, rx_w r, rx_z r, rx_s r, rx_t r, rx_f r, rx_k4 r, rx_k5 r, rx_k6 r, rx_k7 r, peta, if_true, if_false, not_true, not_false_iff, lits, nJ_le, nJ_lt, nJ_eq, nJ_clamp, nJ_add, nI_mul, nI_sub, nI_and, nI_or, nI_xor, Nat.add_zero, Nat.not_lt_zero, leF, leT, ltF, ltT, eqF, eqT, bd, obp_some, Option.bind_some, reduceIte, reduceCtorEq, or_self, or_true, true_or, or_false, false_or]), (by simp (disch := omega) only [fX7_unlikeAgain, g0, xq_counts, rx_n r, rx_e r, rx_h r, rx_l r, rx_m r, rx_c r, rx_w r, rx_z r, rx_s r, rx_t r, rx_f r, rx_k4 r, rx_k5 r, rx_k6 r, rx_k7 r, peta, if_true, if_false, not_true, not_false_iff, lits, nJ_le, nJ_lt, nJ_eq, nJ_clamp, nJ_add, nI_mul, nI_sub, nI_and, nI_or, nI_xor, Nat.add_zero, Nat.not_lt_zero, leF, leT, ltF, ltT, eqF, eqT, bd, obp_some, Option.bind_some, reduceIte, reduceCtorEq, or_self, or_true, true_or, or_false, false_or]), (by simp (disch := omega) only [fX8_unlike, g1, g2, rq_differs w q hs ho, rr_n q, rr_e q, rr_h q, rr_l q, rr_m q, rr_c q, rr_w q, rr_z q, rr_s q, rr_t q, rr_f q, rr_k4 q, rr_k5 q, rr_k6 q, rr_k7 q, peta, if_true, if_false, not_true, not_false_iff, lits, nJ_le, nJ_lt, nJ_eq, nJ_clamp, nJ_add, nI_mul, nI_sub, nI_and, nI_or, nI_xor, Nat.add_zero, Nat.not_lt_zero, leF, leT, ltF, ltT, eqF, eqT, bd, obp_some, Option.bind_some, reduceIte, reduceCtorEq, or_self, or_true, true_or, or_false, false_or])⟩
    · refine ⟨-100001, (by rw [fX7_unlike, xq_bothn2 w r hs hy, obp_some]; (try dsimp only [bd]); exact if_pos l32_0.symm), (by rw [fX7_unlikeAgain, xq_bothn2 w r hs hy, obp_some]; (try dsimp only [bd]); exact if_pos l32_0.symm), ?_⟩
      rw [fX8_unlike, rq_is w q hs, obp_some, if_neg (by decide), rq_isnt w q hy, obp_some]
      exact if_pos l32_0.symm
  · exact ⟨-100001, (by rw [fX7_unlike, xq_bothn1 w r hx, obp_some]; (try dsimp only [bd]); exact if_pos l32_0.symm), (by rw [fX7_unlikeAgain, xq_bothn1 w r hx, obp_some]; (try dsimp only [bd]); exact if_pos l32_0.symm), (by rw [fX8_unlike, rq_isnt w q hx, obp_some]; (try dsimp only [bd]); exact if_pos l32_0.symm)⟩
theorem q_unlike (w : WF B a) (r : RX a u.2.1.1) (q : RR a (v 1)) (x y : Int32) : QS (fX7_unlike x y u) (fX8_unlike x y v) u v := by
  obtain ⟨z, h1, h2, h3⟩ := q_unl w r q x y
  exact ⟨z, h1, h3⟩
theorem q_unlikeAgain (w : WF B a) (r : RX a u.2.1.1) (q : RR a (v 1)) (x y : Int32) : QS (fX7_unlikeAgain x y u) (fX8_unlikeAgain x y v) u v := by
  obtain ⟨z, h1, h2, h3⟩ := q_unl w r q x y
  refine ⟨z, h2, ?_⟩
  rw [fX8_unlikeAgain, h3, obp_some]
theorem q_closest (w : WF B a) (r : RX a u.2.1.1) (q : RR a (v 1)) (x y : Int32) : QS (fX7_closest x y u) (fX8_closest x y v) u v := by
  have hn := wf_n w
  rcases i32_cases x (a 0 0) (by omega) with ⟨s, hs, rfl⟩ | hx
  · rcases i32_cases y (a 0 0) (by omega) with ⟨o, ho, rfl⟩ | hy
    · have g0 := xq_both w r hs ho
      have h1 := wf_s w s hs
      have h2 := wf_s w o ho
      exact ⟨nI (bst (clG (a 1 s) (a 1 o)) 16), (by simp (disch := omega) only [fX7_closest, g0, xq_closest, rx_n r, rx_e r, rx_h r, rx_l r, rx_m r, rx_c r, rx_w r, rx_z r, rx_s r, rx_t r, rx_f r, rx_k4 r, rx_k5 r, rx_k6 r, rx_k7 r, peta, if_true, if_false, not_true, not_false_iff, lits, nJ_le, nJ_lt, nJ_eq, nJ_clamp, nJ_add, nI_mul, nI_sub, nI_and, nI_or, nI_xor, Nat.add_zero, Nat.not_lt_zero, leF, leT, ltF, ltT, eqF, eqT, bd, obp_some, Option.bind_some, reduceIte, reduceCtorEq, or_self, or_true, true_or, or_false, false_or]), rq_closest w q hs ho⟩
    · refine ⟨-100001, (by rw [fX7_closest, xq_bothn2 w r hs hy, obp_some]; (try dsimp only [bd]); exact if_pos l32_0.symm), ?_⟩
      rw [fX8_closest, rq_is w q hs, obp_some, if_neg (by decide), rq_isnt w q hy, obp_some]
      exact if_pos l32_0.symm
  · exact ⟨-100001, (by rw [fX7_closest, xq_bothn1 w r hx, obp_some]; (try dsimp only [bd]); exact if_pos l32_0.symm), (by rw [fX8_closest, rq_isnt w q hx, obp_some]; (try dsimp only [bd]); exact if_pos l32_0.symm)⟩
theorem q_messes (w : WF B a) (r : RX a u.2.1.1) (q : RR a (v 1)) : QS (fX7_messes u) (fX8_messes v) u v := by
  exact ⟨nI (sumN (a 0 0) (fun s => if mss a s &&& (1 <<< s - 1) = 0 then 1 else 0)), by rw [fX7_messes, xq_allMesses w r, obp_some]; rfl, rq_messes w q⟩
theorem q_isCounted (w : WF B a) (r : RX a u.2.1.1) (q : RR a (v 1)) : QS (fX7_isCounted u) (fX8_isCounted v) u v := by
  have h8 : fX8_isCounted v = some (if nI (a 0 5) = nI (sumN (a 0 0) (a 2)) + nI (a 0 6) + nI (a 0 7) then nI 1 else nI 0, v) := by
    rw [fX8_isCounted, rq_allRum w q, obp_some, rr_k5 q, rr_k6 q, rr_k7 q]
    split <;> rfl
  have h7 := xq_rumCounted w r
  refine ⟨_, ?_, h8⟩
  rw [fX7_isCounted, xq_unlikeAlike w r, obp_some]
  try dsimp only [bd]
  rw [if_neg (by decide), xq_fixAlike w r, obp_some]
  try dsimp only [bd]
  rw [if_neg (by decide), xq_logOfCrew w r, obp_some]
  try dsimp only [bd]
  rw [if_neg (by decide), h7, obp_some]
  by_cases h : nI (a 0 5) = nI (sumN (a 0 0) (a 2)) + nI (a 0 6) + nI (a 0 7)
  · rw [if_pos h]
    exact if_neg (by decide)
  · rw [if_neg h]
    exact if_pos l32_0.symm
theorem q_meanAngle (w : WF B a) (r : RX a u.2.1.1) (q : RR a (v 1)) : QS (fX7_meanAngle u) (fX8_meanAngle v) u v := by
  have hn := wf_n w
  have hb := sumZ_b (N := a 0 0) (f := ang a) (fun i hi => ang_b w hi)
  have h8 : ∀ y, (∀ n, fX8_meanAngle_4 (n + 1) (iI (sumZ (a 0 0) (ang a))) (nI (a 0 0)) v = some (y, v)) → fX8_meanAngle v = some (y, v) := by
    intro y hy
    rw [fX8_meanAngle]
    refine loop_to (F := fun n i => fX8_meanAngle_4 n (iI (sumZ i (ang a))) (nI i) v) (a 0 0) (by omega) (fun n i hi => ?_) hy
    have h2 := rq_angled w q hi
    simp (disch := omega) only [fX8_meanAngle_4, rr_n q, rr_e q, rr_h q, rr_l q, rr_m q, rr_c q, rr_w q, rr_z q, rr_s q, rr_t q, rr_f q, rr_k4 q, rr_k5 q, rr_k6 q, rr_k7 q, h2, iI_add, lits, nJ_le, nJ_lt, nJ_eq, nJ_clamp, nJ_add, nI_mul, nI_sub, nI_and, nI_or, nI_xor, Nat.add_zero, Nat.not_lt_zero, leF, leT, ltF, ltT, eqF, eqT, bd, obp_some, Option.bind_some, reduceIte, reduceCtorEq, or_self, or_true, true_or, or_false, false_or, sumZ]
  by_cases h0 : a 0 0 = 0
  · refine ⟨FP.dconst0, ?_, h8 _ (fun n => ?_)⟩
    · rw [fX7_meanAngle, rx_n r, h0]
      exact if_pos rfl
    · simp (disch := omega) only [fX8_meanAngle_4, rr_n q, rr_e q, rr_h q, rr_l q, rr_m q, rr_c q, rr_w q, rr_z q, rr_s q, rr_t q, rr_f q, rr_k4 q, rr_k5 q, rr_k6 q, rr_k7 q, lits, nJ_le, nJ_lt, nJ_eq, nJ_clamp, nJ_add, nI_mul, nI_sub, nI_and, nI_or, nI_xor, Nat.add_zero, Nat.not_lt_zero, leF, leT, ltF, ltT, eqF, eqT, bd, obp_some, Option.bind_some, reduceIte, reduceCtorEq, or_self, or_true, true_or, or_false, false_or]
  · have m := mean_ok (a 0 0) (by omega) (by omega) (sumZ (a 0 0) (ang a) + 150).toNat (by omega)
    have e1 : (((sumZ (a 0 0) (ang a) + 150).toNat : Nat) : Int) - 150 = sumZ (a 0 0) (ang a) := by omega
    rw [e1] at m
    unfold okD at m
    exact ⟨FP.ddiv (FP.i2d (iI (sumZ (a 0 0) (ang a)))) (FP.i2d (nI (a 0 0))), (by simp (disch := omega) only [fX7_meanAngle, xq_allAngles w r, m, rx_n r, rx_e r, rx_h r, rx_l r, rx_m r, rx_c r, rx_w r, rx_z r, rx_s r, rx_t r, rx_f r, rx_k4 r, rx_k5 r, rx_k6 r, rx_k7 r, peta, if_true, if_false, not_true, not_false_iff, lits, nJ_le, nJ_lt, nJ_eq, nJ_clamp, nJ_add, nI_mul, nI_sub, nI_and, nI_or, nI_xor, Nat.add_zero, Nat.not_lt_zero, leF, leT, ltF, ltT, eqF, eqT, bd, obp_some, Option.bind_some, reduceIte, reduceCtorEq, or_self, or_true, true_or, or_false, false_or]), h8 _ (fun n => by simp (disch := omega) only [fX8_meanAngle_4, rr_n q, rr_e q, rr_h q, rr_l q, rr_m q, rr_c q, rr_w q, rr_z q, rr_s q, rr_t q, rr_f q, rr_k4 q, rr_k5 q, rr_k6 q, rr_k7 q, m, peta, if_true, if_false, not_true, not_false_iff, lits, nJ_le, nJ_lt, nJ_eq, nJ_clamp, nJ_add, nI_mul, nI_sub, nI_and, nI_or, nI_xor, Nat.add_zero, Nat.not_lt_zero, leF, leT, ltF, ltT, eqF, eqT, bd, obp_some, Option.bind_some, reduceIte, reduceCtorEq, or_self, or_true, true_or, or_false, false_or])⟩
theorem q_account (w : WF B a) (r : RX a u.2.1.1) (q : RR a (v 1)) (t : u.2.2.2.2.2.1.1 0 1 = v 0 18) (h : u.2.1.2.1 2 = v 0 1) (x : Int32) : QS (fX7_account x u) (fX8_account x v) u v := by
  have hn := wf_n w
  by_cases e0 : x = nI 0
  · subst e0
    exact ⟨nI (a 0 0), (by simp (disch := omega) only [fX7_account, rx_n r, rx_e r, rx_h r, rx_l r, rx_m r, rx_c r, rx_w r, rx_z r, rx_s r, rx_t r, rx_f r, rx_k4 r, rx_k5 r, rx_k6 r, rx_k7 r, peta, if_true, if_false, not_true, not_false_iff, lits, nJ_le, nJ_lt, nJ_eq, nJ_clamp, nJ_add, nI_mul, nI_sub, nI_and, nI_or, nI_xor, Nat.add_zero, Nat.not_lt_zero, leF, leT, ltF, ltT, eqF, eqT, bd, obp_some, Option.bind_some, reduceIte, reduceCtorEq, or_self, or_true, true_or, or_false, false_or]), (by simp (disch := omega) only [fX8_account, rr_n q, rr_e q, rr_h q, rr_l q, rr_m q, rr_c q, rr_w q, rr_z q, rr_s q, rr_t q, rr_f q, rr_k4 q, rr_k5 q, rr_k6 q, rr_k7 q, peta, if_true, if_false, not_true, not_false_iff, lits, nJ_le, nJ_lt, nJ_eq, nJ_clamp, nJ_add, nI_mul, nI_sub, nI_and, nI_or, nI_xor, Nat.add_zero, Nat.not_lt_zero, leF, leT, ltF, ltT, eqF, eqT, bd, obp_some, Option.bind_some, reduceIte, reduceCtorEq, or_self, or_true, true_or, or_false, false_or])⟩
  by_cases e1 : x = nI 1
  · subst e1
    exact ⟨nI (a 0 1), (by simp (disch := omega) only [fX7_account, rx_n r, rx_e r, rx_h r, rx_l r, rx_m r, rx_c r, rx_w r, rx_z r, rx_s r, rx_t r, rx_f r, rx_k4 r, rx_k5 r, rx_k6 r, rx_k7 r, peta, if_true, if_false, not_true, not_false_iff, lits, nJ_le, nJ_lt, nJ_eq, nJ_clamp, nJ_add, nI_mul, nI_sub, nI_and, nI_or, nI_xor, Nat.add_zero, Nat.not_lt_zero, leF, leT, ltF, ltT, eqF, eqT, bd, obp_some, Option.bind_some, reduceIte, reduceCtorEq, or_self, or_true, true_or, or_false, false_or]), (by simp (disch := omega) only [fX8_account, rr_n q, rr_e q, rr_h q, rr_l q, rr_m q, rr_c q, rr_w q, rr_z q, rr_s q, rr_t q, rr_f q, rr_k4 q, rr_k5 q, rr_k6 q, rr_k7 q, peta, if_true, if_false, not_true, not_false_iff, lits, nJ_le, nJ_lt, nJ_eq, nJ_clamp, nJ_add, nI_mul, nI_sub, nI_and, nI_or, nI_xor, Nat.add_zero, Nat.not_lt_zero, leF, leT, ltF, ltT, eqF, eqT, bd, obp_some, Option.bind_some, reduceIte, reduceCtorEq, or_self, or_true, true_or, or_false, false_or])⟩
  by_cases e2 : x = nI 2
  · subst e2
    exact ⟨iI ((a 0 2 : Int) - 3), (by simp (disch := omega) only [fX7_account, rx_n r, rx_e r, rx_h r, rx_l r, rx_m r, rx_c r, rx_w r, rx_z r, rx_s r, rx_t r, rx_f r, rx_k4 r, rx_k5 r, rx_k6 r, rx_k7 r, peta, if_true, if_false, not_true, not_false_iff, lits, nJ_le, nJ_lt, nJ_eq, nJ_clamp, nJ_add, nI_mul, nI_sub, nI_and, nI_or, nI_xor, Nat.add_zero, Nat.not_lt_zero, leF, leT, ltF, ltT, eqF, eqT, bd, obp_some, Option.bind_some, reduceIte, reduceCtorEq, or_self, or_true, true_or, or_false, false_or]), (by simp (disch := omega) only [fX8_account, rr_n q, rr_e q, rr_h q, rr_l q, rr_m q, rr_c q, rr_w q, rr_z q, rr_s q, rr_t q, rr_f q, rr_k4 q, rr_k5 q, rr_k6 q, rr_k7 q, peta, if_true, if_false, not_true, not_false_iff, lits, nJ_le, nJ_lt, nJ_eq, nJ_clamp, nJ_add, nI_mul, nI_sub, nI_and, nI_or, nI_xor, Nat.add_zero, Nat.not_lt_zero, leF, leT, ltF, ltT, eqF, eqT, bd, obp_some, Option.bind_some, reduceIte, reduceCtorEq, or_self, or_true, true_or, or_false, false_or])⟩
  by_cases e3 : x = nI 3
  · subst e3
    exact ⟨nI (a 0 3), (by simp (disch := omega) only [fX7_account, rx_n r, rx_e r, rx_h r, rx_l r, rx_m r, rx_c r, rx_w r, rx_z r, rx_s r, rx_t r, rx_f r, rx_k4 r, rx_k5 r, rx_k6 r, rx_k7 r, peta, if_true, if_false, not_true, not_false_iff, lits, nJ_le, nJ_lt, nJ_eq, nJ_clamp, nJ_add, nI_mul, nI_sub, nI_and, nI_or, nI_xor, Nat.add_zero, Nat.not_lt_zero, leF, leT, ltF, ltT, eqF, eqT, bd, obp_some, Option.bind_some, reduceIte, reduceCtorEq, or_self, or_true, true_or, or_false, false_or]), (by simp (disch := omega) only [fX8_account, rr_n q, rr_e q, rr_h q, rr_l q, rr_m q, rr_c q, rr_w q, rr_z q, rr_s q, rr_t q, rr_f q, rr_k4 q, rr_k5 q, rr_k6 q, rr_k7 q, peta, if_true, if_false, not_true, not_false_iff, lits, nJ_le, nJ_lt, nJ_eq, nJ_clamp, nJ_add, nI_mul, nI_sub, nI_and, nI_or, nI_xor, Nat.add_zero, Nat.not_lt_zero, leF, leT, ltF, ltT, eqF, eqT, bd, obp_some, Option.bind_some, reduceIte, reduceCtorEq, or_self, or_true, true_or, or_false, false_or])⟩
  by_cases e4 : x = nI 4
  · subst e4
    exact ⟨nI (a 0 4), (by simp (disch := omega) only [fX7_account, rx_n r, rx_e r, rx_h r, rx_l r, rx_m r, rx_c r, rx_w r, rx_z r, rx_s r, rx_t r, rx_f r, rx_k4 r, rx_k5 r, rx_k6 r, rx_k7 r, peta, if_true, if_false, not_true, not_false_iff, lits, nJ_le, nJ_lt, nJ_eq, nJ_clamp, nJ_add, nI_mul, nI_sub, nI_and, nI_or, nI_xor, Nat.add_zero, Nat.not_lt_zero, leF, leT, ltF, ltT, eqF, eqT, bd, obp_some, Option.bind_some, reduceIte, reduceCtorEq, or_self, or_true, true_or, or_false, false_or]), (by simp (disch := omega) only [fX8_account, rr_n q, rr_e q, rr_h q, rr_l q, rr_m q, rr_c q, rr_w q, rr_z q, rr_s q, rr_t q, rr_f q, rr_k4 q, rr_k5 q, rr_k6 q, rr_k7 q, peta, if_true, if_false, not_true, not_false_iff, lits, nJ_le, nJ_lt, nJ_eq, nJ_clamp, nJ_add, nI_mul, nI_sub, nI_and, nI_or, nI_xor, Nat.add_zero, Nat.not_lt_zero, leF, leT, ltF, ltT, eqF, eqT, bd, obp_some, Option.bind_some, reduceIte, reduceCtorEq, or_self, or_true, true_or, or_false, false_or])⟩
  by_cases e5 : x = nI 5
  · subst e5
    exact ⟨nI (sumN (a 0 0) (a 2)), (by simp (disch := omega) only [fX7_account, xq_allCups w r, rx_n r, rx_e r, rx_h r, rx_l r, rx_m r, rx_c r, rx_w r, rx_z r, rx_s r, rx_t r, rx_f r, rx_k4 r, rx_k5 r, rx_k6 r, rx_k7 r, peta, if_true, if_false, not_true, not_false_iff, lits, nJ_le, nJ_lt, nJ_eq, nJ_clamp, nJ_add, nI_mul, nI_sub, nI_and, nI_or, nI_xor, Nat.add_zero, Nat.not_lt_zero, leF, leT, ltF, ltT, eqF, eqT, bd, obp_some, Option.bind_some, reduceIte, reduceCtorEq, or_self, or_true, true_or, or_false, false_or]), (by simp (disch := omega) only [fX8_account, rq_allRum w q, rr_n q, rr_e q, rr_h q, rr_l q, rr_m q, rr_c q, rr_w q, rr_z q, rr_s q, rr_t q, rr_f q, rr_k4 q, rr_k5 q, rr_k6 q, rr_k7 q, peta, if_true, if_false, not_true, not_false_iff, lits, nJ_le, nJ_lt, nJ_eq, nJ_clamp, nJ_add, nI_mul, nI_sub, nI_and, nI_or, nI_xor, Nat.add_zero, Nat.not_lt_zero, leF, leT, ltF, ltT, eqF, eqT, bd, obp_some, Option.bind_some, reduceIte, reduceCtorEq, or_self, or_true, true_or, or_false, false_or])⟩
  by_cases e6 : x = nI 6
  · subst e6
    exact ⟨nI (a 0 5), (by simp (disch := omega) only [fX7_account, rx_n r, rx_e r, rx_h r, rx_l r, rx_m r, rx_c r, rx_w r, rx_z r, rx_s r, rx_t r, rx_f r, rx_k4 r, rx_k5 r, rx_k6 r, rx_k7 r, peta, if_true, if_false, not_true, not_false_iff, lits, nJ_le, nJ_lt, nJ_eq, nJ_clamp, nJ_add, nI_mul, nI_sub, nI_and, nI_or, nI_xor, Nat.add_zero, Nat.not_lt_zero, leF, leT, ltF, ltT, eqF, eqT, bd, obp_some, Option.bind_some, reduceIte, reduceCtorEq, or_self, or_true, true_or, or_false, false_or]), (by simp (disch := omega) only [fX8_account, Nat.reduceSub, rr_n q, rr_e q, rr_h q, rr_l q, rr_m q, rr_c q, rr_w q, rr_z q, rr_s q, rr_t q, rr_f q, rr_k4 q, rr_k5 q, rr_k6 q, rr_k7 q, peta, if_true, if_false, not_true, not_false_iff, lits, nJ_le, nJ_lt, nJ_eq, nJ_clamp, nJ_add, nI_mul, nI_sub, nI_and, nI_or, nI_xor, Nat.add_zero, Nat.not_lt_zero, leF, leT, ltF, ltT, eqF, eqT, bd, obp_some, Option.bind_some, reduceIte, reduceCtorEq, or_self, or_true, true_or, or_false, false_or])⟩
  by_cases e7 : x = nI 7
  · subst e7
    exact ⟨nI (a 0 6), (by simp (disch := omega) only [fX7_account, rx_n r, rx_e r, rx_h r, rx_l r, rx_m r, rx_c r, rx_w r, rx_z r, rx_s r, rx_t r, rx_f r, rx_k4 r, rx_k5 r, rx_k6 r, rx_k7 r, peta, if_true, if_false, not_true, not_false_iff, lits, nJ_le, nJ_lt, nJ_eq, nJ_clamp, nJ_add, nI_mul, nI_sub, nI_and, nI_or, nI_xor, Nat.add_zero, Nat.not_lt_zero, leF, leT, ltF, ltT, eqF, eqT, bd, obp_some, Option.bind_some, reduceIte, reduceCtorEq, or_self, or_true, true_or, or_false, false_or]), (by simp (disch := omega) only [fX8_account, Nat.reduceSub, rr_n q, rr_e q, rr_h q, rr_l q, rr_m q, rr_c q, rr_w q, rr_z q, rr_s q, rr_t q, rr_f q, rr_k4 q, rr_k5 q, rr_k6 q, rr_k7 q, peta, if_true, if_false, not_true, not_false_iff, lits, nJ_le, nJ_lt, nJ_eq, nJ_clamp, nJ_add, nI_mul, nI_sub, nI_and, nI_or, nI_xor, Nat.add_zero, Nat.not_lt_zero, leF, leT, ltF, ltT, eqF, eqT, bd, obp_some, Option.bind_some, reduceIte, reduceCtorEq, or_self, or_true, true_or, or_false, false_or])⟩
  by_cases e8 : x = nI 8
  · subst e8
    exact ⟨nI (a 0 7), (by simp (disch := omega) only [fX7_account, rx_n r, rx_e r, rx_h r, rx_l r, rx_m r, rx_c r, rx_w r, rx_z r, rx_s r, rx_t r, rx_f r, rx_k4 r, rx_k5 r, rx_k6 r, rx_k7 r, peta, if_true, if_false, not_true, not_false_iff, lits, nJ_le, nJ_lt, nJ_eq, nJ_clamp, nJ_add, nI_mul, nI_sub, nI_and, nI_or, nI_xor, Nat.add_zero, Nat.not_lt_zero, leF, leT, ltF, ltT, eqF, eqT, bd, obp_some, Option.bind_some, reduceIte, reduceCtorEq, or_self, or_true, true_or, or_false, false_or]), (by simp (disch := omega) only [fX8_account, Nat.reduceSub, rr_n q, rr_e q, rr_h q, rr_l q, rr_m q, rr_c q, rr_w q, rr_z q, rr_s q, rr_t q, rr_f q, rr_k4 q, rr_k5 q, rr_k6 q, rr_k7 q, peta, if_true, if_false, not_true, not_false_iff, lits, nJ_le, nJ_lt, nJ_eq, nJ_clamp, nJ_add, nI_mul, nI_sub, nI_and, nI_or, nI_xor, Nat.add_zero, Nat.not_lt_zero, leF, leT, ltF, ltT, eqF, eqT, bd, obp_some, Option.bind_some, reduceIte, reduceCtorEq, or_self, or_true, true_or, or_false, false_or])⟩
  by_cases e9 : x = nI 9
  · subst e9
    exact ⟨v 0 18, (by simp (disch := omega) only [fX7_account, t, rx_n r, rx_e r, rx_h r, rx_l r, rx_m r, rx_c r, rx_w r, rx_z r, rx_s r, rx_t r, rx_f r, rx_k4 r, rx_k5 r, rx_k6 r, rx_k7 r, peta, if_true, if_false, not_true, not_false_iff, lits, nJ_le, nJ_lt, nJ_eq, nJ_clamp, nJ_add, nI_mul, nI_sub, nI_and, nI_or, nI_xor, Nat.add_zero, Nat.not_lt_zero, leF, leT, ltF, ltT, eqF, eqT, bd, obp_some, Option.bind_some, reduceIte, reduceCtorEq, or_self, or_true, true_or, or_false, false_or]), (by simp (disch := omega) only [fX8_account, rr_n q, rr_e q, rr_h q, rr_l q, rr_m q, rr_c q, rr_w q, rr_z q, rr_s q, rr_t q, rr_f q, rr_k4 q, rr_k5 q, rr_k6 q, rr_k7 q, peta, if_true, if_false, not_true, not_false_iff, lits, nJ_le, nJ_lt, nJ_eq, nJ_clamp, nJ_add, nI_mul, nI_sub, nI_and, nI_or, nI_xor, Nat.add_zero, Nat.not_lt_zero, leF, leT, ltF, ltT, eqF, eqT, bd, obp_some, Option.bind_some, reduceIte, reduceCtorEq, or_self, or_true, true_or, or_false, false_or])⟩
  by_cases e10 : x = nI 10
  · subst e10
    exact ⟨v 0 1, (by simp (disch := omega) only [fX7_account, h, rx_n r, rx_e r, rx_h r, rx_l r, rx_m r, rx_c r, rx_w r, rx_z r, rx_s r, rx_t r, rx_f r, rx_k4 r, rx_k5 r, rx_k6 r, rx_k7 r, peta, if_true, if_false, not_true, not_false_iff, lits, nJ_le, nJ_lt, nJ_eq, nJ_clamp, nJ_add, nI_mul, nI_sub, nI_and, nI_or, nI_xor, Nat.add_zero, Nat.not_lt_zero, leF, leT, ltF, ltT, eqF, eqT, bd, obp_some, Option.bind_some, reduceIte, reduceCtorEq, or_self, or_true, true_or, or_false, false_or]), (by simp (disch := omega) only [fX8_account, rr_n q, rr_e q, rr_h q, rr_l q, rr_m q, rr_c q, rr_w q, rr_z q, rr_s q, rr_t q, rr_f q, rr_k4 q, rr_k5 q, rr_k6 q, rr_k7 q, peta, if_true, if_false, not_true, not_false_iff, lits, nJ_le, nJ_lt, nJ_eq, nJ_clamp, nJ_add, nI_mul, nI_sub, nI_and, nI_or, nI_xor, Nat.add_zero, Nat.not_lt_zero, leF, leT, ltF, ltT, eqF, eqT, bd, obp_some, Option.bind_some, reduceIte, reduceCtorEq, or_self, or_true, true_or, or_false, false_or])⟩
  exact ⟨-100002, (by simp (disch := omega) only [fX7_account, e0, e1, e2, e3, e4, e5, e6, e7, e8, e9, e10, rx_n r, rx_e r, rx_h r, rx_l r, rx_m r, rx_c r, rx_w r, rx_z r, rx_s r, rx_t r, rx_f r, rx_k4 r, rx_k5 r, rx_k6 r, rx_k7 r, peta, if_true, if_false, not_true, not_false_iff, lits, nJ_le, nJ_lt, nJ_eq, nJ_clamp, nJ_add, nI_mul, nI_sub, nI_and, nI_or, nI_xor, Nat.add_zero, Nat.not_lt_zero, leF, leT, ltF, ltT, eqF, eqT, bd, obp_some, Option.bind_some, reduceIte, reduceCtorEq, or_self, or_true, true_or, or_false, false_or]), (by simp (disch := omega) only [fX8_account, e0, e1, e2, e3, e4, e5, e6, e7, e8, e9, e10, rr_n q, rr_e q, rr_h q, rr_l q, rr_m q, rr_c q, rr_w q, rr_z q, rr_s q, rr_t q, rr_f q, rr_k4 q, rr_k5 q, rr_k6 q, rr_k7 q, peta, if_true, if_false, not_true, not_false_iff, lits, nJ_le, nJ_lt, nJ_eq, nJ_clamp, nJ_add, nI_mul, nI_sub, nI_and, nI_or, nI_xor, Nat.add_zero, Nat.not_lt_zero, leF, leT, ltF, ltT, eqF, eqT, bd, obp_some, Option.bind_some, reduceIte, reduceCtorEq, or_self, or_true, true_or, or_false, false_or])⟩
end
