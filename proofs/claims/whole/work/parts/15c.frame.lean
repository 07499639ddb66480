theorem rr_congr {a : mA} {v v' : Nat → Int32} (h8 : a 0 0 ≤ 8) (h10 : a 0 3 ≤ 10) (e : ∀ k, k < 66 → v' k = v k) (q : RR a v) : RR a v' := by
  refine ⟨⟨?_, ?_, ?_, ?_⟩, ⟨?_, ?_, ?_, ?_⟩, fun i hi => ?_, fun i hi => ?_, fun i hi => ?_, fun i hi => ?_, fun i hi => ?_, fun i hi => ?_, fun i hi => ?_⟩
  · rw [e _ (by omega)]; exact rr_n q
  · rw [e _ (by omega)]; exact rr_e q
  · rw [e _ (by omega)]; exact rr_h q
  · rw [e _ (by omega)]; exact rr_l q
  · rw [e _ (by omega)]; exact rr_k4 q
  · rw [e _ (by omega)]; exact rr_k5 q
  · rw [e _ (by omega)]; exact rr_k6 q
  · rw [e _ (by omega)]; exact rr_k7 q
  · rw [e _ (by omega)]; exact rr_m q i hi
  · rw [e _ (by omega)]; exact rr_c q i hi
  · rw [e _ (by omega)]; exact rr_w q i hi
  · rw [e _ (by omega)]; exact rr_z q i hi
  · rw [e _ (by omega)]; exact rr_s q i hi
  · rw [e _ (by omega)]; exact rr_t q i hi
  · rw [e _ (by omega)]; exact rr_f q i hi
theorem cpy_in {α : Type} (f g : Nat → α) {n i : Nat} (h : i < n) : va_cpy f g 0 0 n i = f i := by
  unfold va_cpy
  rw [if_pos ⟨Nat.zero_le _, by omega⟩]
  rw [Nat.zero_add, Nat.sub_zero]
/-- a copy of a ship -/
theorem xq_copy (d s : vH) : ∃ d', fX5_copyFrom (d, s) = some (d', s) ∧ ∀ a : mA, a 0 0 ≤ 8 → a 0 3 ≤ 10 → RX a s → RX a d' := by
  refine ⟨_, rfl, fun a h8 h10 r => ⟨⟨(rx_n r :), (rx_e r :), (rx_h r :), (rx_l r :)⟩, ⟨(rx_k4 r :), (rx_k5 r :), (rx_k6 r :), (rx_k7 r :)⟩, fun i hi => ?_, fun i hi => ?_, fun i hi => ?_, fun i hi => ?_, fun i hi => ?_, fun i hi => ?_, fun i hi => ?_⟩⟩
  · exact Eq.trans (cpy_in (s.1 1) _ (n := 8) (by omega)) (rx_m r i hi)
  · exact Eq.trans (cpy_in (s.1 2) _ (n := 8) (by omega)) (rx_c r i hi)
  · exact Eq.trans (cpy_in (s.1 3) _ (n := 8) (by omega)) (rx_w r i hi)
  · exact Eq.trans (cpy_in (s.1 4) _ (n := 4) (by omega)) (rx_z r i hi)
  · exact Eq.trans (cpy_in (s.1 5) _ (n := 10) (by omega)) (rx_s r i hi)
  · exact Eq.trans (cpy_in (s.1 6) _ (n := 10) (by omega)) (rx_t r i hi)
  · exact Eq.trans (cpy_in s.2 _ (n := 10) (by omega)) (rx_f r i hi)
/-- rows of the reference laid over one another -/
def cpS (v : vS) (p q n : Nat) : vS := fun b => if b = p then (fun k => if k < n then v q k else v p k) else v b
theorem cp_0 (v : vS) (p q : Nat) : cpS v p q 0 = v := by
  funext b
  unfold cpS
  split
  · rename_i h
    subst h
    funext k
    rw [if_neg (Nat.not_lt_zero k)]
  · rfl
theorem cp_step (v : vS) {p q : Nat} (h : p ≠ q) (i : Nat) : up2 (cpS v p q i) p i (cpS v p q i q i) = cpS v p q (i + 1) := by
  funext b
  unfold up2
  by_cases e : b = p
  · rw [if_pos e]
    unfold cpS
    rw [if_pos rfl, if_neg (fun h2 => h h2.symm), if_pos e]
    funext k
    unfold upd
    by_cases e2 : k = i
    · rw [if_pos e2, if_pos (by omega), e2]
    · rw [if_neg e2]
      try dsimp only
      by_cases e3 : k < i
      · rw [if_pos e3, if_pos (by omega)]
      · rw [if_neg e3, if_neg (by omega)]
  · rw [if_neg e]
    unfold cpS
    rw [if_neg e, if_neg e]
theorem rl_21 (v : vS) : fX8_lays_2_1 v = some (cpS v 2 1 66) := by
  rw [fX8_lays_2_1]
  have h := loop_to (F := fun n i => fX8_lays_2_1_2 n (nI i) (cpS v 2 1 i)) 66 (r := some (cpS v 2 1 66)) (by omega) (fun n i hi => ?_) (fun n => ?_)
  · rw [cp_0] at h
    exact h
  · simp (disch := omega) only [fX8_lays_2_1_2, cp_step, ne_eq, Nat.reduceEqDiff, not_false_iff, lits, nJ_le, nJ_lt, nJ_eq, nJ_clamp, nJ_add, nI_mul, nI_sub, nI_and, nI_or, nI_xor, Nat.add_zero, Nat.not_lt_zero, leF, leT, ltF, ltT, eqF, eqT, bd, obp_some, Option.bind_some, reduceIte, reduceCtorEq, or_self, or_true, true_or, or_false, false_or]
  · simp (disch := omega) only [fX8_lays_2_1_2, lits, nJ_le, nJ_lt, nJ_eq, nJ_clamp, nJ_add, nI_mul, nI_sub, nI_and, nI_or, nI_xor, Nat.add_zero, Nat.not_lt_zero, leF, leT, ltF, ltT, eqF, eqT, bd, obp_some, Option.bind_some, reduceIte, reduceCtorEq, or_self, or_true, true_or, or_false, false_or]
theorem rl_12 (v : vS) : fX8_lays_1_2 v = some (cpS v 1 2 66) := by
  rw [fX8_lays_1_2]
  have h := loop_to (F := fun n i => fX8_lays_1_2_2 n (nI i) (cpS v 1 2 i)) 66 (r := some (cpS v 1 2 66)) (by omega) (fun n i hi => ?_) (fun n => ?_)
  · rw [cp_0] at h
    exact h
  · simp (disch := omega) only [fX8_lays_1_2_2, cp_step, ne_eq, Nat.reduceEqDiff, not_false_iff, lits, nJ_le, nJ_lt, nJ_eq, nJ_clamp, nJ_add, nI_mul, nI_sub, nI_and, nI_or, nI_xor, Nat.add_zero, Nat.not_lt_zero, leF, leT, ltF, ltT, eqF, eqT, bd, obp_some, Option.bind_some, reduceIte, reduceCtorEq, or_self, or_true, true_or, or_false, false_or]
  · simp (disch := omega) only [fX8_lays_1_2_2, lits, nJ_le, nJ_lt, nJ_eq, nJ_clamp, nJ_add, nI_mul, nI_sub, nI_and, nI_or, nI_xor, Nat.add_zero, Nat.not_lt_zero, leF, leT, ltF, ltT, eqF, eqT, bd, obp_some, Option.bind_some, reduceIte, reduceCtorEq, or_self, or_true, true_or, or_false, false_or]
theorem rl_41 (v : vS) : fX8_lays_4_1 v = some (cpS v 4 1 66) := by
  rw [fX8_lays_4_1]
  have h := loop_to (F := fun n i => fX8_lays_4_1_2 n (nI i) (cpS v 4 1 i)) 66 (r := some (cpS v 4 1 66)) (by omega) (fun n i hi => ?_) (fun n => ?_)
  · rw [cp_0] at h
    exact h
  · simp (disch := omega) only [fX8_lays_4_1_2, cp_step, ne_eq, Nat.reduceEqDiff, not_false_iff, lits, nJ_le, nJ_lt, nJ_eq, nJ_clamp, nJ_add, nI_mul, nI_sub, nI_and, nI_or, nI_xor, Nat.add_zero, Nat.not_lt_zero, leF, leT, ltF, ltT, eqF, eqT, bd, obp_some, Option.bind_some, reduceIte, reduceCtorEq, or_self, or_true, true_or, or_false, false_or]
  · simp (disch := omega) only [fX8_lays_4_1_2, lits, nJ_le, nJ_lt, nJ_eq, nJ_clamp, nJ_add, nI_mul, nI_sub, nI_and, nI_or, nI_xor, Nat.add_zero, Nat.not_lt_zero, leF, leT, ltF, ltT, eqF, eqT, bd, obp_some, Option.bind_some, reduceIte, reduceCtorEq, or_self, or_true, true_or, or_false, false_or]
theorem rl_14 (v : vS) : fX8_lays_1_4 v = some (cpS v 1 4 66) := by
  rw [fX8_lays_1_4]
  have h := loop_to (F := fun n i => fX8_lays_1_4_2 n (nI i) (cpS v 1 4 i)) 66 (r := some (cpS v 1 4 66)) (by omega) (fun n i hi => ?_) (fun n => ?_)
  · rw [cp_0] at h
    exact h
  · simp (disch := omega) only [fX8_lays_1_4_2, cp_step, ne_eq, Nat.reduceEqDiff, not_false_iff, lits, nJ_le, nJ_lt, nJ_eq, nJ_clamp, nJ_add, nI_mul, nI_sub, nI_and, nI_or, nI_xor, Nat.add_zero, Nat.not_lt_zero, leF, leT, ltF, ltT, eqF, eqT, bd, obp_some, Option.bind_some, reduceIte, reduceCtorEq, or_self, or_true, true_or, or_false, false_or]
  · simp (disch := omega) only [fX8_lays_1_4_2, lits, nJ_le, nJ_lt, nJ_eq, nJ_clamp, nJ_add, nI_mul, nI_sub, nI_and, nI_or, nI_xor, Nat.add_zero, Nat.not_lt_zero, leF, leT, ltF, ltT, eqF, eqT, bd, obp_some, Option.bind_some, reduceIte, reduceCtorEq, or_self, or_true, true_or, or_false, false_or]
theorem rl_31 (v : vS) : fX8_lays_3_1 v = some (cpS v 3 1 66) := by
  rw [fX8_lays_3_1]
  have h := loop_to (F := fun n i => fX8_lays_3_1_2 n (nI i) (cpS v 3 1 i)) 66 (r := some (cpS v 3 1 66)) (by omega) (fun n i hi => ?_) (fun n => ?_)
  · rw [cp_0] at h
    exact h
  · simp (disch := omega) only [fX8_lays_3_1_2, cp_step, ne_eq, Nat.reduceEqDiff, not_false_iff, lits, nJ_le, nJ_lt, nJ_eq, nJ_clamp, nJ_add, nI_mul, nI_sub, nI_and, nI_or, nI_xor, Nat.add_zero, Nat.not_lt_zero, leF, leT, ltF, ltT, eqF, eqT, bd, obp_some, Option.bind_some, reduceIte, reduceCtorEq, or_self, or_true, true_or, or_false, false_or]
  · simp (disch := omega) only [fX8_lays_3_1_2, lits, nJ_le, nJ_lt, nJ_eq, nJ_clamp, nJ_add, nI_mul, nI_sub, nI_and, nI_or, nI_xor, Nat.add_zero, Nat.not_lt_zero, leF, leT, ltF, ltT, eqF, eqT, bd, obp_some, Option.bind_some, reduceIte, reduceCtorEq, or_self, or_true, true_or, or_false, false_or]
theorem rl_13 (v : vS) : fX8_lays_1_3 v = some (cpS v 1 3 66) := by
  rw [fX8_lays_1_3]
  have h := loop_to (F := fun n i => fX8_lays_1_3_2 n (nI i) (cpS v 1 3 i)) 66 (r := some (cpS v 1 3 66)) (by omega) (fun n i hi => ?_) (fun n => ?_)
  · rw [cp_0] at h
    exact h
  · simp (disch := omega) only [fX8_lays_1_3_2, cp_step, ne_eq, Nat.reduceEqDiff, not_false_iff, lits, nJ_le, nJ_lt, nJ_eq, nJ_clamp, nJ_add, nI_mul, nI_sub, nI_and, nI_or, nI_xor, Nat.add_zero, Nat.not_lt_zero, leF, leT, ltF, ltT, eqF, eqT, bd, obp_some, Option.bind_some, reduceIte, reduceCtorEq, or_self, or_true, true_or, or_false, false_or]
  · simp (disch := omega) only [fX8_lays_1_3_2, lits, nJ_le, nJ_lt, nJ_eq, nJ_clamp, nJ_add, nI_mul, nI_sub, nI_and, nI_or, nI_xor, Nat.add_zero, Nat.not_lt_zero, leF, leT, ltF, ltT, eqF, eqT, bd, obp_some, Option.bind_some, reduceIte, reduceCtorEq, or_self, or_true, true_or, or_false, false_or]
/-- a row laid at a place of the past, and back; the past moved down -/
def pushS (v : vS) (off n : Nat) : vS := fun b => if b = 5 then (fun k => if off ≤ k ∧ k < off + n then v 2 (k - off) else v 5 k) else v b
def pullS (v : vS) (off n : Nat) : vS := fun b => if b = 1 then (fun k => if k < n then v 5 (off + k) else v 1 k) else v b
def downS (v : vS) (n : Nat) : vS := fun b => if b = 5 then (fun k => if k < n then v 5 (k + 66) else v 5 k) else v b
theorem push_0 (v : vS) (off : Nat) : pushS v off 0 = v := by
  funext b
  unfold pushS
  split
  · rename_i h
    subst h
    funext k
    rw [if_neg (by omega)]
  · rfl
theorem push_step (v : vS) (off i : Nat) : up2 (pushS v off i) 5 (off + i) (pushS v off i 2 i) = pushS v off (i + 1) := by
  funext b
  unfold up2
  by_cases e : b = 5
  · rw [if_pos e]
    unfold pushS
    rw [if_pos rfl, if_neg (by omega), if_pos e]
    funext k
    unfold upd
    by_cases e2 : k = off + i
    · rw [if_pos e2, if_pos (by omega), e2, Nat.add_sub_cancel_left]
    · rw [if_neg e2]
      try dsimp only
      by_cases e3 : off ≤ k ∧ k < off + i
      · rw [if_pos e3, if_pos (by omega)]
      · rw [if_neg e3, if_neg (by omega)]
  · rw [if_neg e]
    unfold pushS
    rw [if_neg e, if_neg e]
theorem pull_0 (v : vS) (off : Nat) : pullS v off 0 = v := by
  funext b
  unfold pullS
  split
  · rename_i h
    subst h
    funext k
    rw [if_neg (by omega)]
  · rfl
theorem pull_step (v : vS) (off i : Nat) : up2 (pullS v off i) 1 i (pullS v off i 5 (off + i)) = pullS v off (i + 1) := by
  funext b
  unfold up2
  by_cases e : b = 1
  · rw [if_pos e]
    unfold pullS
    rw [if_pos rfl, if_neg (by omega), if_pos e]
    funext k
    unfold upd
    by_cases e2 : k = i
    · rw [if_pos e2, if_pos (by omega), e2]
    · rw [if_neg e2]
      try dsimp only
      by_cases e3 : k < i
      · rw [if_pos e3, if_pos (by omega)]
      · rw [if_neg e3, if_neg (by omega)]
  · rw [if_neg e]
    unfold pullS
    rw [if_neg e, if_neg e]
theorem down_0 (v : vS) : downS v 0 = v := by
  funext b
  unfold downS
  split
  · rename_i h
    subst h
    funext k
    rw [if_neg (by omega)]
  · rfl
theorem down_step (v : vS) (i : Nat) : up2 (downS v i) 5 i (downS v i 5 (i + 66)) = downS v (i + 1) := by
  funext b
  unfold up2
  by_cases e : b = 5
  · rw [if_pos e]
    unfold downS
    rw [if_pos rfl, if_pos e]
    funext k
    unfold upd
    dsimp only
    by_cases e2 : k = i
    · rw [if_pos e2, if_neg (by omega), if_pos (by omega), e2]
    · rw [if_neg e2]
      try dsimp only
      by_cases e3 : k < i
      · rw [if_pos e3, if_pos (by omega)]
      · rw [if_neg e3, if_neg (by omega)]
  · rw [if_neg e]
    unfold downS
    rw [if_neg e, if_neg e]
theorem rl_push (v : vS) (is : Int32) {c : Nat} (hc : c < 8) (h0 : v 0 1 = nI c) : fX8_ends_74 vF is (nI 0) v = some (is, up2 (pushS v (66 * c) 66) 0 1 (nI (c + 1))) := by
  have k0 : ∀ i, pushS v (66 * c) i 0 1 = nI c := fun i => h0
  have h := loop_to (F := fun n i => fX8_ends_74 n is (nI i) (pushS v (66 * c) i)) 66 (r := some (is, up2 (pushS v (66 * c) 66) 0 1 (nI (c + 1)))) (by omega) (fun n i hi => ?_) (fun n => ?_)
  · rw [push_0] at h
    exact h
  · have e : c * 66 + i = 66 * c + i := by omega
    simp (disch := omega) only [fX8_ends_74, k0, e, push_step, lits, nJ_le, nJ_lt, nJ_eq, nJ_clamp, nJ_add, nI_mul, nI_sub, nI_and, nI_or, nI_xor, Nat.add_zero, Nat.not_lt_zero, leF, leT, ltF, ltT, eqF, eqT, bd, obp_some, Option.bind_some, reduceIte, reduceCtorEq, or_self, or_true, true_or, or_false, false_or]
  · simp (disch := omega) only [fX8_ends_74, k0, lits, nJ_le, nJ_lt, nJ_eq, nJ_clamp, nJ_add, nI_mul, nI_sub, nI_and, nI_or, nI_xor, Nat.add_zero, Nat.not_lt_zero, leF, leT, ltF, ltT, eqF, eqT, bd, obp_some, Option.bind_some, reduceIte, reduceCtorEq, or_self, or_true, true_or, or_false, false_or]
theorem rl_down (v : vS) (is : Int32) (h0 : v 0 1 = nI 8) : fX8_ends_34 vF is (nI 0) v = fX8_ends_74 vF is (nI 0) (up2 (downS v 462) 0 1 (nI 7)) := by
  have k0 : ∀ i, downS v i 0 1 = nI 8 := fun i => h0
  have h := loop_to (F := fun n i => fX8_ends_34 n is (nI i) (downS v i)) 462 (r := fX8_ends_74 vF is (nI 0) (up2 (downS v 462) 0 1 (nI 7))) (by omega) (fun n i hi => ?_) (fun n => ?_)
  · rw [down_0] at h
    exact h
  · simp (disch := omega) only [fX8_ends_34, k0, down_step, lits, nJ_le, nJ_lt, nJ_eq, nJ_clamp, nJ_add, nI_mul, nI_sub, nI_and, nI_or, nI_xor, Nat.add_zero, Nat.not_lt_zero, leF, leT, ltF, ltT, eqF, eqT, bd, obp_some, Option.bind_some, reduceIte, reduceCtorEq, or_self, or_true, true_or, or_false, false_or]
  · simp (disch := omega) only [fX8_ends_34, k0, Nat.reduceSub, lits, nJ_le, nJ_lt, nJ_eq, nJ_clamp, nJ_add, nI_mul, nI_sub, nI_and, nI_or, nI_xor, Nat.add_zero, Nat.not_lt_zero, leF, leT, ltF, ltT, eqF, eqT, bd, obp_some, Option.bind_some, reduceIte, reduceCtorEq, or_self, or_true, true_or, or_false, false_or]
theorem rl_undo (v : vS) {c : Nat} (hc : c < 8) (h0 : v 0 1 = nI c) : fX8_undo_22 vF (nI 0) v = some (nI c, pullS v (66 * c) 66) := by
  have k0 : ∀ i, pullS v (66 * c) i 0 1 = nI c := fun i => h0
  have h := loop_to (F := fun n i => fX8_undo_22 n (nI i) (pullS v (66 * c) i)) 66 (r := some (nI c, pullS v (66 * c) 66)) (by omega) (fun n i hi => ?_) (fun n => ?_)
  · rw [pull_0] at h
    exact h
  · have e : c * 66 + i = 66 * c + i := by omega
    simp (disch := omega) only [fX8_undo_22, k0, e, pull_step, lits, nJ_le, nJ_lt, nJ_eq, nJ_clamp, nJ_add, nI_mul, nI_sub, nI_and, nI_or, nI_xor, Nat.add_zero, Nat.not_lt_zero, leF, leT, ltF, ltT, eqF, eqT, bd, obp_some, Option.bind_some, reduceIte, reduceCtorEq, or_self, or_true, true_or, or_false, false_or]
  · simp (disch := omega) only [fX8_undo_22, k0, lits, nJ_le, nJ_lt, nJ_eq, nJ_clamp, nJ_add, nI_mul, nI_sub, nI_and, nI_or, nI_xor, Nat.add_zero, Nat.not_lt_zero, leF, leT, ltF, ltT, eqF, eqT, bd, obp_some, Option.bind_some, reduceIte, reduceCtorEq, or_self, or_true, true_or, or_false, false_or]
theorem rl_begins (v : vS) : fX8_begins v = some (cpS (up2 v 0 0 (nI 0)) 2 1 66) := by
  rw [fX8_begins, l32_0]
  dsimp only [bd]
  rw [rl_21, Option.bind_some]
