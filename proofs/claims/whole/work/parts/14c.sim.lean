def QS {R : Type} (f7 : Option (R × vZ)) (f8 : Option (R × vS)) (u : vZ) (v : vS) : Prop := ∃ r, f7 = some (r, u) ∧ f8 = some (r, v)
theorem peta {α β : Type} (p : α × β) : (p.1, p.2) = p := rfl
theorem mk3 (x : Nat → Int32) (u : vZ) : (u.1, ((u.2.1.1, u.2.1.2), u.2.2)) = u := rfl
section
variable {B : Nat} {a : mA} {u : vZ} {v : vS}
theorem rq_mess8 (w : WF B a) (q : RR a (v 1)) {s : Nat} (hs : s < a 0 0) : (obp (fX8_mates (nI s) v) fun y26 u25 => (fX8_bits y26).bind fun y27 => some (y27, u25)) = some (nI (pc (mts a s (a 0 0))), v) := by
  have h1 := mts_lt8 w s
  simp (disch := omega) only [rq_mates w q hs, obp_some, rq_bits, Option.bind_some]
theorem q_sailorOf (w : WF B a) (r : RX a u.2.1.1) (q : RR a (v 1)) (x y : Int32) : QS (fX7_sailorOf x y u) (fX8_sailorOf x y v) u v := by
  have hn := wf_n w
  rcases i32_cases x (a 0 0) (by omega) with ⟨s, hs, rfl⟩ | hx
  · have h1 := wf_s w s hs
    have g0 := xq_has w r hs
    have g1 := rq_is w q hs
    by_cases e0 : y = nI 0
    · subst e0
      exact ⟨nI (a 1 s), (by simp (disch := omega) only [fX7_sailorOf, g0, rx_n r, rx_e r, rx_h r, rx_l r, rx_m r, rx_c r, rx_w r, rx_z r, rx_s r, rx_t r, rx_f r, rx_k4 r, rx_k5 r, rx_k6 r, rx_k7 r, peta, if_true, if_false, not_true, not_false_iff, lits, nJ_le, nJ_lt, nJ_eq, nJ_clamp, nJ_add, nI_mul, nI_sub, nI_and, nI_or, nI_xor, Nat.add_zero, Nat.not_lt_zero, leF, leT, ltF, ltT, eqF, eqT, bd, obp_some, Option.bind_some, reduceIte, reduceCtorEq, or_self, or_true, true_or, or_false, false_or]), (by simp (disch := omega) only [fX8_sailorOf, fX8_at, g1, rr_n q, rr_e q, rr_h q, rr_l q, rr_m q, rr_c q, rr_w q, rr_z q, rr_s q, rr_t q, rr_f q, rr_k4 q, rr_k5 q, rr_k6 q, rr_k7 q, peta, if_true, if_false, not_true, not_false_iff, lits, nJ_le, nJ_lt, nJ_eq, nJ_clamp, nJ_add, nI_mul, nI_sub, nI_and, nI_or, nI_xor, Nat.add_zero, Nat.not_lt_zero, leF, leT, ltF, ltT, eqF, eqT, bd, obp_some, Option.bind_some, reduceIte, reduceCtorEq, or_self, or_true, true_or, or_false, false_or])⟩
    by_cases e1 : y = nI 1
    · subst e1
      exact ⟨nI (a 2 s), (by simp (disch := omega) only [fX7_sailorOf, g0, rx_n r, rx_e r, rx_h r, rx_l r, rx_m r, rx_c r, rx_w r, rx_z r, rx_s r, rx_t r, rx_f r, rx_k4 r, rx_k5 r, rx_k6 r, rx_k7 r, peta, if_true, if_false, not_true, not_false_iff, lits, nJ_le, nJ_lt, nJ_eq, nJ_clamp, nJ_add, nI_mul, nI_sub, nI_and, nI_or, nI_xor, Nat.add_zero, Nat.not_lt_zero, leF, leT, ltF, ltT, eqF, eqT, bd, obp_some, Option.bind_some, reduceIte, reduceCtorEq, or_self, or_true, true_or, or_false, false_or]), (by simp (disch := omega) only [fX8_sailorOf, fX8_at, g1, rr_n q, rr_e q, rr_h q, rr_l q, rr_m q, rr_c q, rr_w q, rr_z q, rr_s q, rr_t q, rr_f q, rr_k4 q, rr_k5 q, rr_k6 q, rr_k7 q, peta, if_true, if_false, not_true, not_false_iff, lits, nJ_le, nJ_lt, nJ_eq, nJ_clamp, nJ_add, nI_mul, nI_sub, nI_and, nI_or, nI_xor, Nat.add_zero, Nat.not_lt_zero, leF, leT, ltF, ltT, eqF, eqT, bd, obp_some, Option.bind_some, reduceIte, reduceCtorEq, or_self, or_true, true_or, or_false, false_or])⟩
    by_cases e2 : y = nI 2
    · subst e2
      exact ⟨nI (a 3 s), (by simp (disch := omega) only [fX7_sailorOf, g0, rx_n r, rx_e r, rx_h r, rx_l r, rx_m r, rx_c r, rx_w r, rx_z r, rx_s r, rx_t r, rx_f r, rx_k4 r, rx_k5 r, rx_k6 r, rx_k7 r, peta, if_true, if_false, not_true, not_false_iff, lits, nJ_le, nJ_lt, nJ_eq, nJ_clamp, nJ_add, nI_mul, nI_sub, nI_and, nI_or, nI_xor, Nat.add_zero, Nat.not_lt_zero, leF, leT, ltF, ltT, eqF, eqT, bd, obp_some, Option.bind_some, reduceIte, reduceCtorEq, or_self, or_true, true_or, or_false, false_or]), (by simp (disch := omega) only [fX8_sailorOf, fX8_at, g1, rr_n q, rr_e q, rr_h q, rr_l q, rr_m q, rr_c q, rr_w q, rr_z q, rr_s q, rr_t q, rr_f q, rr_k4 q, rr_k5 q, rr_k6 q, rr_k7 q, peta, if_true, if_false, not_true, not_false_iff, lits, nJ_le, nJ_lt, nJ_eq, nJ_clamp, nJ_add, nI_mul, nI_sub, nI_and, nI_or, nI_xor, Nat.add_zero, Nat.not_lt_zero, leF, leT, ltF, ltT, eqF, eqT, bd, obp_some, Option.bind_some, reduceIte, reduceCtorEq, or_self, or_true, true_or, or_false, false_or])⟩
    by_cases e3 : y = nI 3
    · subst e3
      exact ⟨nI (chr (a 1 s)), (by simp (disch := omega) only [fX7_sailorOf, g0, xq_cheer, rx_n r, rx_e r, rx_h r, rx_l r, rx_m r, rx_c r, rx_w r, rx_z r, rx_s r, rx_t r, rx_f r, rx_k4 r, rx_k5 r, rx_k6 r, rx_k7 r, peta, if_true, if_false, not_true, not_false_iff, lits, nJ_le, nJ_lt, nJ_eq, nJ_clamp, nJ_add, nI_mul, nI_sub, nI_and, nI_or, nI_xor, Nat.add_zero, Nat.not_lt_zero, leF, leT, ltF, ltT, eqF, eqT, bd, obp_some, Option.bind_some, reduceIte, reduceCtorEq, or_self, or_true, true_or, or_false, false_or]), (by simp (disch := omega) only [fX8_sailorOf, fX8_at, g1, rq_cheer w q hs, rr_n q, rr_e q, rr_h q, rr_l q, rr_m q, rr_c q, rr_w q, rr_z q, rr_s q, rr_t q, rr_f q, rr_k4 q, rr_k5 q, rr_k6 q, rr_k7 q, peta, if_true, if_false, not_true, not_false_iff, lits, nJ_le, nJ_lt, nJ_eq, nJ_clamp, nJ_add, nI_mul, nI_sub, nI_and, nI_or, nI_xor, Nat.add_zero, Nat.not_lt_zero, leF, leT, ltF, ltT, eqF, eqT, bd, obp_some, Option.bind_some, reduceIte, reduceCtorEq, or_self, or_true, true_or, or_false, false_or])⟩
    by_cases e4 : y = nI 4
    · subst e4
      exact ⟨nI (drd (a 1 s)), (by simp (disch := omega) only [fX7_sailorOf, g0, xq_dread, rx_n r, rx_e r, rx_h r, rx_l r, rx_m r, rx_c r, rx_w r, rx_z r, rx_s r, rx_t r, rx_f r, rx_k4 r, rx_k5 r, rx_k6 r, rx_k7 r, peta, if_true, if_false, not_true, not_false_iff, lits, nJ_le, nJ_lt, nJ_eq, nJ_clamp, nJ_add, nI_mul, nI_sub, nI_and, nI_or, nI_xor, Nat.add_zero, Nat.not_lt_zero, leF, leT, ltF, ltT, eqF, eqT, bd, obp_some, Option.bind_some, reduceIte, reduceCtorEq, or_self, or_true, true_or, or_false, false_or]), (by simp (disch := omega) only [fX8_sailorOf, fX8_at, g1, rq_dread w q hs, rr_n q, rr_e q, rr_h q, rr_l q, rr_m q, rr_c q, rr_w q, rr_z q, rr_s q, rr_t q, rr_f q, rr_k4 q, rr_k5 q, rr_k6 q, rr_k7 q, peta, if_true, if_false, not_true, not_false_iff, lits, nJ_le, nJ_lt, nJ_eq, nJ_clamp, nJ_add, nI_mul, nI_sub, nI_and, nI_or, nI_xor, Nat.add_zero, Nat.not_lt_zero, leF, leT, ltF, ltT, eqF, eqT, bd, obp_some, Option.bind_some, reduceIte, reduceCtorEq, or_self, or_true, true_or, or_false, false_or])⟩
    by_cases e5 : y = nI 5
    · subst e5
      exact ⟨iI (ang a s), (by simp (disch := omega) only [fX7_sailorOf, g0, xq_angle0 w r hs, rx_n r, rx_e r, rx_h r, rx_l r, rx_m r, rx_c r, rx_w r, rx_z r, rx_s r, rx_t r, rx_f r, rx_k4 r, rx_k5 r, rx_k6 r, rx_k7 r, peta, if_true, if_false, not_true, not_false_iff, lits, nJ_le, nJ_lt, nJ_eq, nJ_clamp, nJ_add, nI_mul, nI_sub, nI_and, nI_or, nI_xor, Nat.add_zero, Nat.not_lt_zero, leF, leT, ltF, ltT, eqF, eqT, bd, obp_some, Option.bind_some, reduceIte, reduceCtorEq, or_self, or_true, true_or, or_false, false_or]), (by simp (disch := omega) only [fX8_sailorOf, fX8_at, g1, rq_angled w q hs, rr_n q, rr_e q, rr_h q, rr_l q, rr_m q, rr_c q, rr_w q, rr_z q, rr_s q, rr_t q, rr_f q, rr_k4 q, rr_k5 q, rr_k6 q, rr_k7 q, peta, if_true, if_false, not_true, not_false_iff, lits, nJ_le, nJ_lt, nJ_eq, nJ_clamp, nJ_add, nI_mul, nI_sub, nI_and, nI_or, nI_xor, Nat.add_zero, Nat.not_lt_zero, leF, leT, ltF, ltT, eqF, eqT, bd, obp_some, Option.bind_some, reduceIte, reduceCtorEq, or_self, or_true, true_or, or_false, false_or])⟩
    by_cases e6 : y = nI 6
    · subst e6
      have e := xq_sightsOf w r (s := s) (by omega)
      have e2 : sumN (a 0 3) (fun k => if a 5 k = s then 1 else 0) = cntS a s := rfl
      rw [e2] at e
      exact ⟨nI (cntS a s), (by simp (disch := omega) only [fX7_sailorOf, g0, e, rx_n r, rx_e r, rx_h r, rx_l r, rx_m r, rx_c r, rx_w r, rx_z r, rx_s r, rx_t r, rx_f r, rx_k4 r, rx_k5 r, rx_k6 r, rx_k7 r, peta, if_true, if_false, not_true, not_false_iff, lits, nJ_le, nJ_lt, nJ_eq, nJ_clamp, nJ_add, nI_mul, nI_sub, nI_and, nI_or, nI_xor, Nat.add_zero, Nat.not_lt_zero, leF, leT, ltF, ltT, eqF, eqT, bd, obp_some, Option.bind_some, reduceIte, reduceCtorEq, or_self, or_true, true_or, or_false, false_or]), (by simp (disch := omega) only [fX8_sailorOf, fX8_at, g1, rq_sights w q, rr_n q, rr_e q, rr_h q, rr_l q, rr_m q, rr_c q, rr_w q, rr_z q, rr_s q, rr_t q, rr_f q, rr_k4 q, rr_k5 q, rr_k6 q, rr_k7 q, peta, if_true, if_false, not_true, not_false_iff, lits, nJ_le, nJ_lt, nJ_eq, nJ_clamp, nJ_add, nI_mul, nI_sub, nI_and, nI_or, nI_xor, Nat.add_zero, Nat.not_lt_zero, leF, leT, ltF, ltT, eqF, eqT, bd, obp_some, Option.bind_some, reduceIte, reduceCtorEq, or_self, or_true, true_or, or_false, false_or])⟩
    by_cases e7 : y = nI 7
    · subst e7
      exact ⟨nI (pc (mts a s (a 0 0))), (by simp (disch := omega) only [fX7_sailorOf, g0, xq_matesOf w r hs, rx_n r, rx_e r, rx_h r, rx_l r, rx_m r, rx_c r, rx_w r, rx_z r, rx_s r, rx_t r, rx_f r, rx_k4 r, rx_k5 r, rx_k6 r, rx_k7 r, peta, if_true, if_false, not_true, not_false_iff, lits, nJ_le, nJ_lt, nJ_eq, nJ_clamp, nJ_add, nI_mul, nI_sub, nI_and, nI_or, nI_xor, Nat.add_zero, Nat.not_lt_zero, leF, leT, ltF, ltT, eqF, eqT, bd, obp_some, Option.bind_some, reduceIte, reduceCtorEq, or_self, or_true, true_or, or_false, false_or]), (by simp (disch := omega) only [fX8_sailorOf, fX8_at, g1, rq_mess8 w q hs, rr_n q, rr_e q, rr_h q, rr_l q, rr_m q, rr_c q, rr_w q, rr_z q, rr_s q, rr_t q, rr_f q, rr_k4 q, rr_k5 q, rr_k6 q, rr_k7 q, peta, if_true, if_false, not_true, not_false_iff, lits, nJ_le, nJ_lt, nJ_eq, nJ_clamp, nJ_add, nI_mul, nI_sub, nI_and, nI_or, nI_xor, Nat.add_zero, Nat.not_lt_zero, leF, leT, ltF, ltT, eqF, eqT, bd, obp_some, Option.bind_some, reduceIte, reduceCtorEq, or_self, or_true, true_or, or_false, false_or])⟩
    by_cases e8 : y = nI 8
    · subst e8
      exact ⟨nI (mss a s), (by simp (disch := omega) only [fX7_sailorOf, g0, xq_messOf w r hs, rx_n r, rx_e r, rx_h r, rx_l r, rx_m r, rx_c r, rx_w r, rx_z r, rx_s r, rx_t r, rx_f r, rx_k4 r, rx_k5 r, rx_k6 r, rx_k7 r, peta, if_true, if_false, not_true, not_false_iff, lits, nJ_le, nJ_lt, nJ_eq, nJ_clamp, nJ_add, nI_mul, nI_sub, nI_and, nI_or, nI_xor, Nat.add_zero, Nat.not_lt_zero, leF, leT, ltF, ltT, eqF, eqT, bd, obp_some, Option.bind_some, reduceIte, reduceCtorEq, or_self, or_true, true_or, or_false, false_or]), (by simp (disch := omega) only [fX8_sailorOf, fX8_at, g1, rq_mess w q hs, rr_n q, rr_e q, rr_h q, rr_l q, rr_m q, rr_c q, rr_w q, rr_z q, rr_s q, rr_t q, rr_f q, rr_k4 q, rr_k5 q, rr_k6 q, rr_k7 q, peta, if_true, if_false, not_true, not_false_iff, lits, nJ_le, nJ_lt, nJ_eq, nJ_clamp, nJ_add, nI_mul, nI_sub, nI_and, nI_or, nI_xor, Nat.add_zero, Nat.not_lt_zero, leF, leT, ltF, ltT, eqF, eqT, bd, obp_some, Option.bind_some, reduceIte, reduceCtorEq, or_self, or_true, true_or, or_false, false_or])⟩
    exact ⟨-100002, (by simp (disch := omega) only [fX7_sailorOf, g0, e0, e1, e2, e3, e4, e5, e6, e7, e8, rx_n r, rx_e r, rx_h r, rx_l r, rx_m r, rx_c r, rx_w r, rx_z r, rx_s r, rx_t r, rx_f r, rx_k4 r, rx_k5 r, rx_k6 r, rx_k7 r, peta, if_true, if_false, not_true, not_false_iff, lits, nJ_le, nJ_lt, nJ_eq, nJ_clamp, nJ_add, nI_mul, nI_sub, nI_and, nI_or, nI_xor, Nat.add_zero, Nat.not_lt_zero, leF, leT, ltF, ltT, eqF, eqT, bd, obp_some, Option.bind_some, reduceIte, reduceCtorEq, or_self, or_true, true_or, or_false, false_or]), (by simp (disch := omega) only [fX8_sailorOf, fX8_at, g1, e0, e1, e2, e3, e4, e5, e6, e7, e8, rr_n q, rr_e q, rr_h q, rr_l q, rr_m q, rr_c q, rr_w q, rr_z q, rr_s q, rr_t q, rr_f q, rr_k4 q, rr_k5 q, rr_k6 q, rr_k7 q, peta, if_true, if_false, not_true, not_false_iff, lits, nJ_le, nJ_lt, nJ_eq, nJ_clamp, nJ_add, nI_mul, nI_sub, nI_and, nI_or, nI_xor, Nat.add_zero, Nat.not_lt_zero, leF, leT, ltF, ltT, eqF, eqT, bd, obp_some, Option.bind_some, reduceIte, reduceCtorEq, or_self, or_true, true_or, or_false, false_or])⟩
  · exact ⟨-100001, (by rw [fX7_sailorOf, xq_hasnt w r hx, obp_some]; (try dsimp only [bd]); exact if_pos l32_0.symm), (by rw [fX8_sailorOf, rq_isnt w q hx, obp_some]; (try dsimp only [bd]); exact if_pos l32_0.symm)⟩
theorem rq_watchLoop (w : WF B a) (q : RR a (v 1)) {p : Nat} (hp : p < 4) (y : Int32) (g : Nat → Nat) (hy : ∀ i, i < a 0 0 → ∀ (K : Int32 → vS → Option (Int32 × vS)) (c : Nat), (if y = nI 1 then K (nI (c + 1)) v else if y = nI 2 then obp (fX8_cheer (nI i) v) fun y15 u14 => K (nI c + y15) u14 else obp (fX8_dread (nI i) v) fun y11 u10 => K (nI c + y11) u10) = K (nI (c + g i)) v) : fX8_watchOf_27 vF (nI p) y (nI 0) (nI 0) v = some (if y = nI 0 then nI (a 4 p) else nI (sumN (a 0 0) (fun i => if a 3 i = p then g i else 0)), v) := by
  have hn := wf_n w
  have hg := wf_s w
  refine loop_to (F := fun n i => fX8_watchOf_27 n (nI p) y (nI (sumN i (fun i => if a 3 i = p then g i else 0))) (nI i) v) (a 0 0) (by omega) (fun n i hi => ?_) (fun n => ?_)
  · have h2 := hg i hi
    have h4 := hy i hi (fun z t => fX8_watchOf_27 n (nI p) y z (nI (i + 1)) t) (sumN i (fun i => if a 3 i = p then g i else 0))
    simp (disch := omega) only [fX8_watchOf_27, fX8_at, rr_n q, rr_e q, rr_h q, rr_l q, rr_m q, rr_c q, rr_w q, rr_z q, rr_s q, rr_t q, rr_f q, rr_k4 q, rr_k5 q, rr_k6 q, rr_k7 q, lits, nJ_le, nJ_lt, nJ_eq, nJ_clamp, nJ_add, nI_mul, nI_sub, nI_and, nI_or, nI_xor, Nat.add_zero, Nat.not_lt_zero, leF, leT, ltF, ltT, eqF, eqT, bd, obp_some, Option.bind_some, reduceIte, reduceCtorEq, or_self, or_true, true_or, or_false, false_or, sumN]
    by_cases h3 : a 3 i = p
    · simp only [h3, if_true]
      exact h4
    · simp only [h3, if_false, Nat.add_zero]
  · by_cases h5 : y = nI 0
    · simp (disch := omega) only [fX8_watchOf_27, fX8_at, rr_n q, rr_e q, rr_h q, rr_l q, rr_m q, rr_c q, rr_w q, rr_z q, rr_s q, rr_t q, rr_f q, rr_k4 q, rr_k5 q, rr_k6 q, rr_k7 q, lits, nJ_le, nJ_lt, nJ_eq, nJ_clamp, nJ_add, nI_mul, nI_sub, nI_and, nI_or, nI_xor, Nat.add_zero, Nat.not_lt_zero, leF, leT, ltF, ltT, eqF, eqT, bd, obp_some, Option.bind_some, reduceIte, reduceCtorEq, or_self, or_true, true_or, or_false, false_or, h5, if_true]
    · simp (disch := omega) only [fX8_watchOf_27, fX8_at, rr_n q, rr_e q, rr_h q, rr_l q, rr_m q, rr_c q, rr_w q, rr_z q, rr_s q, rr_t q, rr_f q, rr_k4 q, rr_k5 q, rr_k6 q, rr_k7 q, lits, nJ_le, nJ_lt, nJ_eq, nJ_clamp, nJ_add, nI_mul, nI_sub, nI_and, nI_or, nI_xor, Nat.add_zero, Nat.not_lt_zero, leF, leT, ltF, ltT, eqF, eqT, bd, obp_some, Option.bind_some, reduceIte, reduceCtorEq, or_self, or_true, true_or, or_false, false_or, h5, if_false]
theorem q_watchOf (w : WF B a) (r : RX a u.2.1.1) (q : RR a (v 1)) (x y : Int32) : QS (fX7_watchOf x y u) (fX8_watchOf x y v) u v := by
  have hn := wf_n w
  have k0 : ∀ a b : Nat, a < 10 → b < 10 → a ≠ b → ¬ nI a = nI b := by
    intro a b h1 h2 h3 h4
    rw [nJ_eq (by omega) (by omega)] at h4
    exact h3 h4
  rcases i32_cases x 4 (by omega) with ⟨p, hp, rfl⟩ | hx
  · have g0 : fX5_isWatch (nI p) = some (nI 1) := by simp (disch := omega) only [fX5_isWatch, lits, nJ_le, nJ_lt, nJ_eq, nJ_clamp, nJ_add, nI_mul, nI_sub, nI_and, nI_or, nI_xor, Nat.add_zero, Nat.not_lt_zero, leF, leT, ltF, ltT, eqF, eqT, bd, obp_some, Option.bind_some, reduceIte, reduceCtorEq, or_self, or_true, true_or, or_false, false_or]
    have g1 : fX8_isWatch (nI p) = some (nI 1) := by simp (disch := omega) only [fX8_isWatch, fX8_isIn, lits, nJ_le, nJ_lt, nJ_eq, nJ_clamp, nJ_add, nI_mul, nI_sub, nI_and, nI_or, nI_xor, Nat.add_zero, Nat.not_lt_zero, leF, leT, ltF, ltT, eqF, eqT, bd, obp_some, Option.bind_some, reduceIte, reduceCtorEq, or_self, or_true, true_or, or_false, false_or]
    have i1 : ∀ k, k < 4 → fX8_isIn (nI k) (nI 0) (nI 3) = some (nI 1) := by
      intro k hk
      simp (disch := omega) only [fX8_isIn, lits, nJ_le, nJ_lt, nJ_eq, nJ_clamp, nJ_add, nI_mul, nI_sub, nI_and, nI_or, nI_xor, Nat.add_zero, Nat.not_lt_zero, leF, leT, ltF, ltT, eqF, eqT, bd, obp_some, Option.bind_some, reduceIte, reduceCtorEq, or_self, or_true, true_or, or_false, false_or]
    by_cases e0 : y = nI 0
    · subst e0
      have h := rq_watchLoop w q hp (nI 0) (fun i => drd (a 1 i)) (fun i hi K c => by
        rw [if_neg (k0 0 1 (by omega) (by omega) (by omega)), if_neg (k0 0 2 (by omega) (by omega) (by omega)), rq_dread w q hi, obp_some, nJ_add])
      rw [if_pos rfl] at h
      exact ⟨nI (a 4 p), (by simp (disch := omega) only [fX7_watchOf, g0, rx_n r, rx_e r, rx_h r, rx_l r, rx_m r, rx_c r, rx_w r, rx_z r, rx_s r, rx_t r, rx_f r, rx_k4 r, rx_k5 r, rx_k6 r, rx_k7 r, peta, if_true, if_false, not_true, not_false_iff, lits, nJ_le, nJ_lt, nJ_eq, nJ_clamp, nJ_add, nI_mul, nI_sub, nI_and, nI_or, nI_xor, Nat.add_zero, Nat.not_lt_zero, leF, leT, ltF, ltT, eqF, eqT, bd, obp_some, Option.bind_some, reduceIte, reduceCtorEq, or_self, or_true, true_or, or_false, false_or]), (by simp (disch := omega) only [fX8_watchOf, g1, i1, h, rr_n q, rr_e q, rr_h q, rr_l q, rr_m q, rr_c q, rr_w q, rr_z q, rr_s q, rr_t q, rr_f q, rr_k4 q, rr_k5 q, rr_k6 q, rr_k7 q, peta, if_true, if_false, not_true, not_false_iff, lits, nJ_le, nJ_lt, nJ_eq, nJ_clamp, nJ_add, nI_mul, nI_sub, nI_and, nI_or, nI_xor, Nat.add_zero, Nat.not_lt_zero, leF, leT, ltF, ltT, eqF, eqT, bd, obp_some, Option.bind_some, reduceIte, reduceCtorEq, or_self, or_true, true_or, or_false, false_or])⟩
    by_cases e1 : y = nI 1
    · subst e1
      have h := rq_watchLoop w q hp (nI 1) (fun i => 1) (fun i hi K c => by
        rw [if_pos rfl])
      rw [if_neg (k0 1 0 (by omega) (by omega) (by omega))] at h
      exact ⟨nI (sumN (a 0 0) (fun i => if a 3 i = p then 1 else 0)), (by simp (disch := omega) only [fX7_watchOf, g0, xq_sailorsIn w r hp, rx_n r, rx_e r, rx_h r, rx_l r, rx_m r, rx_c r, rx_w r, rx_z r, rx_s r, rx_t r, rx_f r, rx_k4 r, rx_k5 r, rx_k6 r, rx_k7 r, peta, if_true, if_false, not_true, not_false_iff, lits, nJ_le, nJ_lt, nJ_eq, nJ_clamp, nJ_add, nI_mul, nI_sub, nI_and, nI_or, nI_xor, Nat.add_zero, Nat.not_lt_zero, leF, leT, ltF, ltT, eqF, eqT, bd, obp_some, Option.bind_some, reduceIte, reduceCtorEq, or_self, or_true, true_or, or_false, false_or]), (by simp (disch := omega) only [fX8_watchOf, g1, i1, h, rr_n q, rr_e q, rr_h q, rr_l q, rr_m q, rr_c q, rr_w q, rr_z q, rr_s q, rr_t q, rr_f q, rr_k4 q, rr_k5 q, rr_k6 q, rr_k7 q, peta, if_true, if_false, not_true, not_false_iff, lits, nJ_le, nJ_lt, nJ_eq, nJ_clamp, nJ_add, nI_mul, nI_sub, nI_and, nI_or, nI_xor, Nat.add_zero, Nat.not_lt_zero, leF, leT, ltF, ltT, eqF, eqT, bd, obp_some, Option.bind_some, reduceIte, reduceCtorEq, or_self, or_true, true_or, or_false, false_or])⟩
    by_cases e2 : y = nI 2
    · subst e2
      have h := rq_watchLoop w q hp (nI 2) (fun i => chr (a 1 i)) (fun i hi K c => by
        rw [if_neg (k0 2 1 (by omega) (by omega) (by omega)), if_pos rfl, rq_cheer w q hi, obp_some, nJ_add])
      rw [if_neg (k0 2 0 (by omega) (by omega) (by omega))] at h
      exact ⟨nI (sumN (a 0 0) (fun i => if a 3 i = p then chr (a 1 i) else 0)), (by simp (disch := omega) only [fX7_watchOf, g0, xq_watchCheer w r hp, rx_n r, rx_e r, rx_h r, rx_l r, rx_m r, rx_c r, rx_w r, rx_z r, rx_s r, rx_t r, rx_f r, rx_k4 r, rx_k5 r, rx_k6 r, rx_k7 r, peta, if_true, if_false, not_true, not_false_iff, lits, nJ_le, nJ_lt, nJ_eq, nJ_clamp, nJ_add, nI_mul, nI_sub, nI_and, nI_or, nI_xor, Nat.add_zero, Nat.not_lt_zero, leF, leT, ltF, ltT, eqF, eqT, bd, obp_some, Option.bind_some, reduceIte, reduceCtorEq, or_self, or_true, true_or, or_false, false_or]), (by simp (disch := omega) only [fX8_watchOf, g1, i1, h, rr_n q, rr_e q, rr_h q, rr_l q, rr_m q, rr_c q, rr_w q, rr_z q, rr_s q, rr_t q, rr_f q, rr_k4 q, rr_k5 q, rr_k6 q, rr_k7 q, peta, if_true, if_false, not_true, not_false_iff, lits, nJ_le, nJ_lt, nJ_eq, nJ_clamp, nJ_add, nI_mul, nI_sub, nI_and, nI_or, nI_xor, Nat.add_zero, Nat.not_lt_zero, leF, leT, ltF, ltT, eqF, eqT, bd, obp_some, Option.bind_some, reduceIte, reduceCtorEq, or_self, or_true, true_or, or_false, false_or])⟩
    by_cases e3 : y = nI 3
    · subst e3
      have h := rq_watchLoop w q hp (nI 3) (fun i => drd (a 1 i)) (fun i hi K c => by
        rw [if_neg (k0 3 1 (by omega) (by omega) (by omega)), if_neg (k0 3 2 (by omega) (by omega) (by omega)), rq_dread w q hi, obp_some, nJ_add])
      rw [if_neg (k0 3 0 (by omega) (by omega) (by omega))] at h
      exact ⟨nI (sumN (a 0 0) (fun i => if a 3 i = p then drd (a 1 i) else 0)), (by simp (disch := omega) only [fX7_watchOf, g0, xq_watchDread w r hp, rx_n r, rx_e r, rx_h r, rx_l r, rx_m r, rx_c r, rx_w r, rx_z r, rx_s r, rx_t r, rx_f r, rx_k4 r, rx_k5 r, rx_k6 r, rx_k7 r, peta, if_true, if_false, not_true, not_false_iff, lits, nJ_le, nJ_lt, nJ_eq, nJ_clamp, nJ_add, nI_mul, nI_sub, nI_and, nI_or, nI_xor, Nat.add_zero, Nat.not_lt_zero, leF, leT, ltF, ltT, eqF, eqT, bd, obp_some, Option.bind_some, reduceIte, reduceCtorEq, or_self, or_true, true_or, or_false, false_or]), (by simp (disch := omega) only [fX8_watchOf, g1, i1, h, rr_n q, rr_e q, rr_h q, rr_l q, rr_m q, rr_c q, rr_w q, rr_z q, rr_s q, rr_t q, rr_f q, rr_k4 q, rr_k5 q, rr_k6 q, rr_k7 q, peta, if_true, if_false, not_true, not_false_iff, lits, nJ_le, nJ_lt, nJ_eq, nJ_clamp, nJ_add, nI_mul, nI_sub, nI_and, nI_or, nI_xor, Nat.add_zero, Nat.not_lt_zero, leF, leT, ltF, ltT, eqF, eqT, bd, obp_some, Option.bind_some, reduceIte, reduceCtorEq, or_self, or_true, true_or, or_false, false_or])⟩
    have i2 : fX8_isIn y (nI 0) (nI 3) = some (nI 0) := by
      have h := not_in (x := y) (n := 4) (by omega) (fun k hk => by
        have : k = 0 ∨ k = 1 ∨ k = 2 ∨ k = 3 := by omega
        rcases this with e | e | e | e <;> subst e <;> assumption)
      have e9 : (nI 3 < y) ↔ nI 4 ≤ y := lt_le1 (by omega)
      rcases h with h | h
      · simp only [fX8_isIn, h, if_true, lits]
      · by_cases h7 : y < nI 0
        · simp only [fX8_isIn, h7, if_true, lits]
        · simp only [fX8_isIn, h7, e9, h, if_true, if_false, lits]
    exact ⟨-100002, (by simp (disch := omega) only [fX7_watchOf, g0, e0, e1, e2, e3, rx_n r, rx_e r, rx_h r, rx_l r, rx_m r, rx_c r, rx_w r, rx_z r, rx_s r, rx_t r, rx_f r, rx_k4 r, rx_k5 r, rx_k6 r, rx_k7 r, peta, if_true, if_false, not_true, not_false_iff, lits, nJ_le, nJ_lt, nJ_eq, nJ_clamp, nJ_add, nI_mul, nI_sub, nI_and, nI_or, nI_xor, Nat.add_zero, Nat.not_lt_zero, leF, leT, ltF, ltT, eqF, eqT, bd, obp_some, Option.bind_some, reduceIte, reduceCtorEq, or_self, or_true, true_or, or_false, false_or]), (by simp (disch := omega) only [fX8_watchOf, g1, i2, rr_n q, rr_e q, rr_h q, rr_l q, rr_m q, rr_c q, rr_w q, rr_z q, rr_s q, rr_t q, rr_f q, rr_k4 q, rr_k5 q, rr_k6 q, rr_k7 q, peta, if_true, if_false, not_true, not_false_iff, lits, nJ_le, nJ_lt, nJ_eq, nJ_clamp, nJ_add, nI_mul, nI_sub, nI_and, nI_or, nI_xor, Nat.add_zero, Nat.not_lt_zero, leF, leT, ltF, ltT, eqF, eqT, bd, obp_some, Option.bind_some, reduceIte, reduceCtorEq, or_self, or_true, true_or, or_false, false_or])⟩
  · have e9 : (nI 3 < x) ↔ nI 4 ≤ x := lt_le1 (by omega)
    have g0 : fX5_isWatch x = some (nI 0) := by
      rcases hx with h | h
      · simp only [fX5_isWatch, h, if_true, lits]
      · by_cases h7 : x < nI 0
        · simp only [fX5_isWatch, h7, if_true, lits]
        · simp only [fX5_isWatch, h7, h, if_true, if_false, lits]
    have g1 : fX8_isWatch x = some (nI 0) := by
      rcases hx with h | h
      · simp only [fX8_isWatch, fX8_isIn, h, if_true, lits, Option.bind_some, true_or]
      · by_cases h7 : x < nI 0
        · simp only [fX8_isWatch, fX8_isIn, h7, if_true, lits, Option.bind_some, true_or]
        · simp only [fX8_isWatch, fX8_isIn, h7, e9, h, if_true, if_false, lits, Option.bind_some, true_or]
    exact ⟨-100001, (by simp (disch := omega) only [fX7_watchOf, g0, rx_n r, rx_e r, rx_h r, rx_l r, rx_m r, rx_c r, rx_w r, rx_z r, rx_s r, rx_t r, rx_f r, rx_k4 r, rx_k5 r, rx_k6 r, rx_k7 r, peta, if_true, if_false, not_true, not_false_iff, lits, nJ_le, nJ_lt, nJ_eq, nJ_clamp, nJ_add, nI_mul, nI_sub, nI_and, nI_or, nI_xor, Nat.add_zero, Nat.not_lt_zero, leF, leT, ltF, ltT, eqF, eqT, bd, obp_some, Option.bind_some, reduceIte, reduceCtorEq, or_self, or_true, true_or, or_false, false_or]), (by simp (disch := omega) only [fX8_watchOf, g1, rr_n q, rr_e q, rr_h q, rr_l q, rr_m q, rr_c q, rr_w q, rr_z q, rr_s q, rr_t q, rr_f q, rr_k4 q, rr_k5 q, rr_k6 q, rr_k7 q, peta, if_true, if_false, not_true, not_false_iff, lits, nJ_le, nJ_lt, nJ_eq, nJ_clamp, nJ_add, nI_mul, nI_sub, nI_and, nI_or, nI_xor, Nat.add_zero, Nat.not_lt_zero, leF, leT, ltF, ltT, eqF, eqT, bd, obp_some, Option.bind_some, reduceIte, reduceCtorEq, or_self, or_true, true_or, or_false, false_or])⟩
end
