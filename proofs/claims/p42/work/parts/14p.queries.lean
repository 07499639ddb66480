/-! THE CLASS'S ANSWERS, by the state that it holds -/
section
variable {B : Nat} {a : mA} {u : vZ}
theorem z_so0 (w : WF B a) (r : RX a u.2.1.1) {s : Nat} (hs : s < a 0 0) : fX7_sailorOf (nI s) (0 : Int32) u = some (nI (a 1 s), u) := by
  have hn := wf_n w
  have g0 := xq_has w r hs
  exact (by simp (disch := omega) only [fX7_sailorOf, g0, rx_n r, rx_e r, rx_h r, rx_l r, rx_m r, rx_c r, rx_w r, rx_z r, rx_s r, rx_t r, rx_f r, rx_k4 r, rx_k5 r, rx_k6 r, rx_k7 r, peta, if_true, if_false, not_true, not_false_iff, lits, nJ_le, nJ_lt, nJ_eq, nJ_clamp, nJ_add, nI_mul, nI_sub, nI_and, nI_or, nI_xor, Nat.add_zero, Nat.not_lt_zero, leF, leT, ltF, ltT, eqF, eqT, bd, obp_some, Option.bind_some, reduceIte, reduceCtorEq, or_self, or_true, true_or, or_false, false_or])
theorem z_so1 (w : WF B a) (r : RX a u.2.1.1) {s : Nat} (hs : s < a 0 0) : fX7_sailorOf (nI s) (1 : Int32) u = some (nI (a 2 s), u) := by
  have hn := wf_n w
  have g0 := xq_has w r hs
  exact (by simp (disch := omega) only [fX7_sailorOf, g0, rx_n r, rx_e r, rx_h r, rx_l r, rx_m r, rx_c r, rx_w r, rx_z r, rx_s r, rx_t r, rx_f r, rx_k4 r, rx_k5 r, rx_k6 r, rx_k7 r, peta, if_true, if_false, not_true, not_false_iff, lits, nJ_le, nJ_lt, nJ_eq, nJ_clamp, nJ_add, nI_mul, nI_sub, nI_and, nI_or, nI_xor, Nat.add_zero, Nat.not_lt_zero, leF, leT, ltF, ltT, eqF, eqT, bd, obp_some, Option.bind_some, reduceIte, reduceCtorEq, or_self, or_true, true_or, or_false, false_or])
theorem z_so2 (w : WF B a) (r : RX a u.2.1.1) {s : Nat} (hs : s < a 0 0) : fX7_sailorOf (nI s) (2 : Int32) u = some (nI (a 3 s), u) := by
  have hn := wf_n w
  have g0 := xq_has w r hs
  exact (by simp (disch := omega) only [fX7_sailorOf, g0, rx_n r, rx_e r, rx_h r, rx_l r, rx_m r, rx_c r, rx_w r, rx_z r, rx_s r, rx_t r, rx_f r, rx_k4 r, rx_k5 r, rx_k6 r, rx_k7 r, peta, if_true, if_false, not_true, not_false_iff, lits, nJ_le, nJ_lt, nJ_eq, nJ_clamp, nJ_add, nI_mul, nI_sub, nI_and, nI_or, nI_xor, Nat.add_zero, Nat.not_lt_zero, leF, leT, ltF, ltT, eqF, eqT, bd, obp_some, Option.bind_some, reduceIte, reduceCtorEq, or_self, or_true, true_or, or_false, false_or])
theorem z_so3 (w : WF B a) (r : RX a u.2.1.1) {s : Nat} (hs : s < a 0 0) : fX7_sailorOf (nI s) (3 : Int32) u = some (nI (chr (a 1 s)), u) := by
  have hn := wf_n w
  have h1 := wf_s w s hs
  have g0 := xq_has w r hs
  exact (by simp (disch := omega) only [fX7_sailorOf, g0, xq_cheer, rx_n r, rx_e r, rx_h r, rx_l r, rx_m r, rx_c r, rx_w r, rx_z r, rx_s r, rx_t r, rx_f r, rx_k4 r, rx_k5 r, rx_k6 r, rx_k7 r, peta, if_true, if_false, not_true, not_false_iff, lits, nJ_le, nJ_lt, nJ_eq, nJ_clamp, nJ_add, nI_mul, nI_sub, nI_and, nI_or, nI_xor, Nat.add_zero, Nat.not_lt_zero, leF, leT, ltF, ltT, eqF, eqT, bd, obp_some, Option.bind_some, reduceIte, reduceCtorEq, or_self, or_true, true_or, or_false, false_or])
theorem z_so4 (w : WF B a) (r : RX a u.2.1.1) {s : Nat} (hs : s < a 0 0) : fX7_sailorOf (nI s) (4 : Int32) u = some (nI (drd (a 1 s)), u) := by
  have hn := wf_n w
  have h1 := wf_s w s hs
  have g0 := xq_has w r hs
  exact (by simp (disch := omega) only [fX7_sailorOf, g0, xq_dread, rx_n r, rx_e r, rx_h r, rx_l r, rx_m r, rx_c r, rx_w r, rx_z r, rx_s r, rx_t r, rx_f r, rx_k4 r, rx_k5 r, rx_k6 r, rx_k7 r, peta, if_true, if_false, not_true, not_false_iff, lits, nJ_le, nJ_lt, nJ_eq, nJ_clamp, nJ_add, nI_mul, nI_sub, nI_and, nI_or, nI_xor, Nat.add_zero, Nat.not_lt_zero, leF, leT, ltF, ltT, eqF, eqT, bd, obp_some, Option.bind_some, reduceIte, reduceCtorEq, or_self, or_true, true_or, or_false, false_or])
theorem z_so5 (w : WF B a) (r : RX a u.2.1.1) {s : Nat} (hs : s < a 0 0) : fX7_sailorOf (nI s) (5 : Int32) u = some (iI (ang a s), u) := by
  have hn := wf_n w
  have g0 := xq_has w r hs
  exact (by simp (disch := omega) only [fX7_sailorOf, g0, xq_angle0 w r hs, rx_n r, rx_e r, rx_h r, rx_l r, rx_m r, rx_c r, rx_w r, rx_z r, rx_s r, rx_t r, rx_f r, rx_k4 r, rx_k5 r, rx_k6 r, rx_k7 r, peta, if_true, if_false, not_true, not_false_iff, lits, nJ_le, nJ_lt, nJ_eq, nJ_clamp, nJ_add, nI_mul, nI_sub, nI_and, nI_or, nI_xor, Nat.add_zero, Nat.not_lt_zero, leF, leT, ltF, ltT, eqF, eqT, bd, obp_some, Option.bind_some, reduceIte, reduceCtorEq, or_self, or_true, true_or, or_false, false_or])
theorem z_so6 (w : WF B a) (r : RX a u.2.1.1) {s : Nat} (hs : s < a 0 0) : fX7_sailorOf (nI s) (6 : Int32) u = some (nI (cntS a s), u) := by
  have hn := wf_n w
  have g0 := xq_has w r hs
  have e := xq_sightsOf w r (s := s) (by omega)
  have e2 : sumN (a 0 3) (fun k => if a 5 k = s then 1 else 0) = cntS a s := rfl
  rw [e2] at e
  exact (by simp (disch := omega) only [fX7_sailorOf, g0, e, rx_n r, rx_e r, rx_h r, rx_l r, rx_m r, rx_c r, rx_w r, rx_z r, rx_s r, rx_t r, rx_f r, rx_k4 r, rx_k5 r, rx_k6 r, rx_k7 r, peta, if_true, if_false, not_true, not_false_iff, lits, nJ_le, nJ_lt, nJ_eq, nJ_clamp, nJ_add, nI_mul, nI_sub, nI_and, nI_or, nI_xor, Nat.add_zero, Nat.not_lt_zero, leF, leT, ltF, ltT, eqF, eqT, bd, obp_some, Option.bind_some, reduceIte, reduceCtorEq, or_self, or_true, true_or, or_false, false_or])
theorem z_so7 (w : WF B a) (r : RX a u.2.1.1) {s : Nat} (hs : s < a 0 0) : fX7_sailorOf (nI s) (7 : Int32) u = some (nI (pc (mts a s (a 0 0))), u) := by
  have hn := wf_n w
  have g0 := xq_has w r hs
  exact (by simp (disch := omega) only [fX7_sailorOf, g0, xq_matesOf w r hs, rx_n r, rx_e r, rx_h r, rx_l r, rx_m r, rx_c r, rx_w r, rx_z r, rx_s r, rx_t r, rx_f r, rx_k4 r, rx_k5 r, rx_k6 r, rx_k7 r, peta, if_true, if_false, not_true, not_false_iff, lits, nJ_le, nJ_lt, nJ_eq, nJ_clamp, nJ_add, nI_mul, nI_sub, nI_and, nI_or, nI_xor, Nat.add_zero, Nat.not_lt_zero, leF, leT, ltF, ltT, eqF, eqT, bd, obp_some, Option.bind_some, reduceIte, reduceCtorEq, or_self, or_true, true_or, or_false, false_or])
theorem z_so8 (w : WF B a) (r : RX a u.2.1.1) {s : Nat} (hs : s < a 0 0) : fX7_sailorOf (nI s) (8 : Int32) u = some (nI (mss a s), u) := by
  have hn := wf_n w
  have g0 := xq_has w r hs
  exact (by simp (disch := omega) only [fX7_sailorOf, g0, xq_messOf w r hs, rx_n r, rx_e r, rx_h r, rx_l r, rx_m r, rx_c r, rx_w r, rx_z r, rx_s r, rx_t r, rx_f r, rx_k4 r, rx_k5 r, rx_k6 r, rx_k7 r, peta, if_true, if_false, not_true, not_false_iff, lits, nJ_le, nJ_lt, nJ_eq, nJ_clamp, nJ_add, nI_mul, nI_sub, nI_and, nI_or, nI_xor, Nat.add_zero, Nat.not_lt_zero, leF, leT, ltF, ltT, eqF, eqT, bd, obp_some, Option.bind_some, reduceIte, reduceCtorEq, or_self, or_true, true_or, or_false, false_or])
theorem z_isw {p : Nat} (hp : p < 4) : fX5_isWatch (nI p) = some (nI 1) := by simp (disch := omega) only [fX5_isWatch, lits, nJ_le, nJ_lt, nJ_eq, nJ_clamp, nJ_add, nI_mul, nI_sub, nI_and, nI_or, nI_xor, Nat.add_zero, Nat.not_lt_zero, leF, leT, ltF, ltT, eqF, eqT, bd, obp_some, Option.bind_some, reduceIte, reduceCtorEq, or_self, or_true, true_or, or_false, false_or]
theorem z_wo0 (w : WF B a) (r : RX a u.2.1.1) {p : Nat} (hp : p < 4) : fX7_watchOf (nI p) (0 : Int32) u = some (nI (a 4 p), u) := by
  have g0 := z_isw hp
  exact (by simp (disch := omega) only [fX7_watchOf, g0, rx_n r, rx_e r, rx_h r, rx_l r, rx_m r, rx_c r, rx_w r, rx_z r, rx_s r, rx_t r, rx_f r, rx_k4 r, rx_k5 r, rx_k6 r, rx_k7 r, peta, if_true, if_false, not_true, not_false_iff, lits, nJ_le, nJ_lt, nJ_eq, nJ_clamp, nJ_add, nI_mul, nI_sub, nI_and, nI_or, nI_xor, Nat.add_zero, Nat.not_lt_zero, leF, leT, ltF, ltT, eqF, eqT, bd, obp_some, Option.bind_some, reduceIte, reduceCtorEq, or_self, or_true, true_or, or_false, false_or])
theorem z_wo1 (w : WF B a) (r : RX a u.2.1.1) {p : Nat} (hp : p < 4) : fX7_watchOf (nI p) (1 : Int32) u = some (nI (sumN (a 0 0) (fun i => if a 3 i = p then 1 else 0)), u) := by
  have g0 := z_isw hp
  exact (by simp (disch := omega) only [fX7_watchOf, g0, xq_sailorsIn w r hp, rx_n r, rx_e r, rx_h r, rx_l r, rx_m r, rx_c r, rx_w r, rx_z r, rx_s r, rx_t r, rx_f r, rx_k4 r, rx_k5 r, rx_k6 r, rx_k7 r, peta, if_true, if_false, not_true, not_false_iff, lits, nJ_le, nJ_lt, nJ_eq, nJ_clamp, nJ_add, nI_mul, nI_sub, nI_and, nI_or, nI_xor, Nat.add_zero, Nat.not_lt_zero, leF, leT, ltF, ltT, eqF, eqT, bd, obp_some, Option.bind_some, reduceIte, reduceCtorEq, or_self, or_true, true_or, or_false, false_or])
theorem z_wo2 (w : WF B a) (r : RX a u.2.1.1) {p : Nat} (hp : p < 4) : fX7_watchOf (nI p) (2 : Int32) u = some (nI (sumN (a 0 0) (fun i => if a 3 i = p then chr (a 1 i) else 0)), u) := by
  have g0 := z_isw hp
  exact (by simp (disch := omega) only [fX7_watchOf, g0, xq_watchCheer w r hp, rx_n r, rx_e r, rx_h r, rx_l r, rx_m r, rx_c r, rx_w r, rx_z r, rx_s r, rx_t r, rx_f r, rx_k4 r, rx_k5 r, rx_k6 r, rx_k7 r, peta, if_true, if_false, not_true, not_false_iff, lits, nJ_le, nJ_lt, nJ_eq, nJ_clamp, nJ_add, nI_mul, nI_sub, nI_and, nI_or, nI_xor, Nat.add_zero, Nat.not_lt_zero, leF, leT, ltF, ltT, eqF, eqT, bd, obp_some, Option.bind_some, reduceIte, reduceCtorEq, or_self, or_true, true_or, or_false, false_or])
theorem z_wo3 (w : WF B a) (r : RX a u.2.1.1) {p : Nat} (hp : p < 4) : fX7_watchOf (nI p) (3 : Int32) u = some (nI (sumN (a 0 0) (fun i => if a 3 i = p then drd (a 1 i) else 0)), u) := by
  have g0 := z_isw hp
  exact (by simp (disch := omega) only [fX7_watchOf, g0, xq_watchDread w r hp, rx_n r, rx_e r, rx_h r, rx_l r, rx_m r, rx_c r, rx_w r, rx_z r, rx_s r, rx_t r, rx_f r, rx_k4 r, rx_k5 r, rx_k6 r, rx_k7 r, peta, if_true, if_false, not_true, not_false_iff, lits, nJ_le, nJ_lt, nJ_eq, nJ_clamp, nJ_add, nI_mul, nI_sub, nI_and, nI_or, nI_xor, Nat.add_zero, Nat.not_lt_zero, leF, leT, ltF, ltT, eqF, eqT, bd, obp_some, Option.bind_some, reduceIte, reduceCtorEq, or_self, or_true, true_or, or_false, false_or])
theorem z_wo4 (u : vZ) : fX7_watchOf (4 : Int32) (0 : Int32) u = some (-100001, u) := by
  have g0 : fX5_isWatch (4 : Int32) = some (nI 0) := by decide +kernel
  rw [fX7_watchOf, g0, Option.bind_some]
  exact if_pos l32_0.symm
theorem z_si0 (w : WF B a) (r : RX a u.2.1.1) {k : Nat} (hk : k < a 0 3) : fX7_sightOf (nI k) (0 : Int32) u = some (nI (a 5 k), u) := by
  have hl := wf_l w
  have g0 := xq_sight w r hk
  exact (by simp (disch := omega) only [fX7_sightOf, g0, rx_n r, rx_e r, rx_h r, rx_l r, rx_m r, rx_c r, rx_w r, rx_z r, rx_s r, rx_t r, rx_f r, rx_k4 r, rx_k5 r, rx_k6 r, rx_k7 r, peta, if_true, if_false, not_true, not_false_iff, lits, nJ_le, nJ_lt, nJ_eq, nJ_clamp, nJ_add, nI_mul, nI_sub, nI_and, nI_or, nI_xor, Nat.add_zero, Nat.not_lt_zero, leF, leT, ltF, ltT, eqF, eqT, bd, obp_some, Option.bind_some, reduceIte, reduceCtorEq, or_self, or_true, true_or, or_false, false_or])
theorem z_si1 (w : WF B a) (r : RX a u.2.1.1) {k : Nat} (hk : k < a 0 3) : fX7_sightOf (nI k) (1 : Int32) u = some (nI (a 6 k), u) := by
  have hl := wf_l w
  have g0 := xq_sight w r hk
  exact (by simp (disch := omega) only [fX7_sightOf, g0, rx_n r, rx_e r, rx_h r, rx_l r, rx_m r, rx_c r, rx_w r, rx_z r, rx_s r, rx_t r, rx_f r, rx_k4 r, rx_k5 r, rx_k6 r, rx_k7 r, peta, if_true, if_false, not_true, not_false_iff, lits, nJ_le, nJ_lt, nJ_eq, nJ_clamp, nJ_add, nI_mul, nI_sub, nI_and, nI_or, nI_xor, Nat.add_zero, Nat.not_lt_zero, leF, leT, ltF, ltT, eqF, eqT, bd, obp_some, Option.bind_some, reduceIte, reduceCtorEq, or_self, or_true, true_or, or_false, false_or])
theorem z_si2 (w : WF B a) (r : RX a u.2.1.1) {k : Nat} (hk : k < a 0 3) : fX7_sightOf (nI k) (2 : Int32) u = some (UInt32.toInt32 (fe (a 7 k)), u) := by
  have hl := wf_l w
  have g0 := xq_sight w r hk
  have g := fe_bits (a 7 k) (wf_g w k hk).2.2
  exact (by simp (disch := omega) only [fX7_sightOf, g0, g, rx_n r, rx_e r, rx_h r, rx_l r, rx_m r, rx_c r, rx_w r, rx_z r, rx_s r, rx_t r, rx_f r, rx_k4 r, rx_k5 r, rx_k6 r, rx_k7 r, peta, if_true, if_false, not_true, not_false_iff, lits, nJ_le, nJ_lt, nJ_eq, nJ_clamp, nJ_add, nI_mul, nI_sub, nI_and, nI_or, nI_xor, Nat.add_zero, Nat.not_lt_zero, leF, leT, ltF, ltT, eqF, eqT, bd, obp_some, Option.bind_some, reduceIte, reduceCtorEq, or_self, or_true, true_or, or_false, false_or])
theorem z_siN (w : WF B a) (r : RX a u.2.1.1) (x : Int32) : fX7_sightOf (nI (a 0 3)) x u = some (-100001, u) := by
  have hl := wf_l w
  have g0 := xq_sightnt w r (show nI (a 0 3) < nI 0 ∨ nI (a 0 3) ≤ nI (a 0 3) from Or.inr (by rw [nJ_le (by omega) (by omega)]; omega))
  exact (by rw [fX7_sightOf, g0, obp_some]; (try dsimp only [bd]); exact if_pos l32_0.symm)
/-- the angle as a float -/
def agF (z : Int) : UInt32 := FP.fdiv (FP.i2f (iI z)) 1082130432
theorem z_ang (w : WF B a) (r : RX a u.2.1.1) {s : Nat} (hs : s < a 0 0) : fX7_angle (nI s) u = some (agF (ang a s), u) ∧ okF (agF (ang a s)) := by
  have hn := wf_n w
  have g0 := xq_has w r hs
  have hb := ang_b w hs
  have hz := rdg_all (ang a s + 19).toNat (by omega) 0 (by omega)
  have e1 : (((ang a s + 19).toNat : Nat) : Int) - 19 = ang a s := by omega
  rw [e1] at hz
  have h1 := hz.1
  unfold okF at h1
  refine ⟨?_, h1⟩
  unfold agF
  exact (by simp (disch := omega) only [fX7_angle, g0, xq_angle0 w r hs, h1, rx_n r, rx_e r, rx_h r, rx_l r, rx_m r, rx_c r, rx_w r, rx_z r, rx_s r, rx_t r, rx_f r, rx_k4 r, rx_k5 r, rx_k6 r, rx_k7 r, peta, if_true, if_false, not_true, not_false_iff, lits, nJ_le, nJ_lt, nJ_eq, nJ_clamp, nJ_add, nI_mul, nI_sub, nI_and, nI_or, nI_xor, Nat.add_zero, Nat.not_lt_zero, leF, leT, ltF, ltT, eqF, eqT, bd, obp_some, Option.bind_some, reduceIte, reduceCtorEq, or_self, or_true, true_or, or_false, false_or])
theorem z_out (w : WF B a) : nI (a 0 0) < nI 0 ∨ nI (a 0 0) ≤ nI (a 0 0) := Or.inr (by have := wf_n w; rw [nJ_le (by omega) (by omega)]; omega)
theorem z_angN (w : WF B a) (r : RX a u.2.1.1) : fX7_angle (nI (a 0 0)) u = some (FP.fconst0, u) := (by rw [fX7_angle, xq_hasnt w r (z_out w), obp_some]; (try dsimp only [bd]); exact if_pos l32_0.symm)
theorem z_rb (w : WF B a) (r : RX a u.2.1.1) {s : Nat} (hs : s < a 0 0) : fX7_readBits (nI s) u = some (UInt32.toInt32 (fe (rdR a s)), u) := by
  have hn := wf_n w
  have g0 := xq_has w r hs
  have h1 := rdR_lt w hs
  have h2 := fe_bits _ h1
  exact (by simp (disch := omega) only [fX7_readBits, g0, xq_reading w r hs, h2, rx_n r, rx_e r, rx_h r, rx_l r, rx_m r, rx_c r, rx_w r, rx_z r, rx_s r, rx_t r, rx_f r, rx_k4 r, rx_k5 r, rx_k6 r, rx_k7 r, peta, if_true, if_false, not_true, not_false_iff, lits, nJ_le, nJ_lt, nJ_eq, nJ_clamp, nJ_add, nI_mul, nI_sub, nI_and, nI_or, nI_xor, Nat.add_zero, Nat.not_lt_zero, leF, leT, ltF, ltT, eqF, eqT, bd, obp_some, Option.bind_some, reduceIte, reduceCtorEq, or_self, or_true, true_or, or_false, false_or])
theorem z_rbN (w : WF B a) (r : RX a u.2.1.1) : fX7_readBits (nI (a 0 0)) u = some (-100001, u) := (by rw [fX7_readBits, xq_hasnt w r (z_out w), obp_some]; (try dsimp only [bd]); exact if_pos l32_0.symm)
theorem z_fxN (w : WF B a) (r : RX a u.2.1.1) {s : Nat} (hs : s < a 0 0) (h : cntS a s < 2) : fX7_fixBits (nI s) u = some (-100006, u) ∧ fX7_fixAgain (nI s) u = some (-100006, u) := by
  have hn := wf_n w
  have g0 := xq_has w r hs
  have g2 := xq_hasFix w r hs
  simp only [h, if_true] at g2
  exact ⟨(by simp (disch := omega) only [fX7_fixBits, g0, g2, rx_n r, rx_e r, rx_h r, rx_l r, rx_m r, rx_c r, rx_w r, rx_z r, rx_s r, rx_t r, rx_f r, rx_k4 r, rx_k5 r, rx_k6 r, rx_k7 r, peta, if_true, if_false, not_true, not_false_iff, lits, nJ_le, nJ_lt, nJ_eq, nJ_clamp, nJ_add, nI_mul, nI_sub, nI_and, nI_or, nI_xor, Nat.add_zero, Nat.not_lt_zero, leF, leT, ltF, ltT, eqF, eqT, bd, obp_some, Option.bind_some, reduceIte, reduceCtorEq, or_self, or_true, true_or, or_false, false_or]), (by simp (disch := omega) only [fX7_fixAgain, g0, g2, rx_n r, rx_e r, rx_h r, rx_l r, rx_m r, rx_c r, rx_w r, rx_z r, rx_s r, rx_t r, rx_f r, rx_k4 r, rx_k5 r, rx_k6 r, rx_k7 r, peta, if_true, if_false, not_true, not_false_iff, lits, nJ_le, nJ_lt, nJ_eq, nJ_clamp, nJ_add, nI_mul, nI_sub, nI_and, nI_or, nI_xor, Nat.add_zero, Nat.not_lt_zero, leF, leT, ltF, ltT, eqF, eqT, bd, obp_some, Option.bind_some, reduceIte, reduceCtorEq, or_self, or_true, true_or, or_false, false_or])⟩
theorem z_fx (w : WF B a) (r : RX a u.2.1.1) {s k1 k2 : Nat} (hs : s < a 0 0) (h : ¬ cntS a s < 2) (f : FX a s k1 k2) : fX7_fixBits (nI s) u = some (UInt32.toInt32 (fs (a 7 k1 + a 7 k2)), u) ∧ fX7_fixAgain (nI s) u = some (UInt32.toInt32 (fs (a 7 k1 + a 7 k2)), u) ∧ a 7 k1 + a 7 k2 < 175 := by
  have hn := wf_n w
  have hl := wf_l w
  have g0 := xq_has w r hs
  have g2 := xq_hasFix w r hs
  simp only [h, if_false] at g2
  obtain ⟨p1, p2⟩ := xq_fixOf w r hs f
  obtain ⟨f1, f2, f3, f4, f5, f6⟩ := f
  have y1 := wf_g w k1 (by omega)
  have y2 := wf_g w k2 f2
  have h2 := fs_bits (a 7 k1 + a 7 k2) (by omega)
  exact ⟨(by simp (disch := omega) only [fX7_fixBits, g0, g2, p1, h2, rx_n r, rx_e r, rx_h r, rx_l r, rx_m r, rx_c r, rx_w r, rx_z r, rx_s r, rx_t r, rx_f r, rx_k4 r, rx_k5 r, rx_k6 r, rx_k7 r, peta, if_true, if_false, not_true, not_false_iff, lits, nJ_le, nJ_lt, nJ_eq, nJ_clamp, nJ_add, nI_mul, nI_sub, nI_and, nI_or, nI_xor, Nat.add_zero, Nat.not_lt_zero, leF, leT, ltF, ltT, eqF, eqT, bd, obp_some, Option.bind_some, reduceIte, reduceCtorEq, or_self, or_true, true_or, or_false, false_or]), (by simp (disch := omega) only [fX7_fixAgain, g0, g2, p2, h2, rx_n r, rx_e r, rx_h r, rx_l r, rx_m r, rx_c r, rx_w r, rx_z r, rx_s r, rx_t r, rx_f r, rx_k4 r, rx_k5 r, rx_k6 r, rx_k7 r, peta, if_true, if_false, not_true, not_false_iff, lits, nJ_le, nJ_lt, nJ_eq, nJ_clamp, nJ_add, nI_mul, nI_sub, nI_and, nI_or, nI_xor, Nat.add_zero, Nat.not_lt_zero, leF, leT, ltF, ltT, eqF, eqT, bd, obp_some, Option.bind_some, reduceIte, reduceCtorEq, or_self, or_true, true_or, or_false, false_or]), by omega⟩
theorem z_fxO (w : WF B a) (r : RX a u.2.1.1) : fX7_fixBits (nI (a 0 0)) u = some (-100001, u) := (by rw [fX7_fixBits, xq_hasnt w r (z_out w), obp_some]; (try dsimp only [bd]); exact if_pos l32_0.symm)
/-- whether two fixes meet, as the class looks -/
def mtI (S T : Nat) : Int32 := if 0 ≤ Op.cmpValue (FP.fcmp (FP.fsub (fs S) (fs T)) (1056964608 : UInt32)) CmpOp.g then nI 0 else if Op.cmpValue (FP.fcmp (FP.fsub (fs S) (fs T)) (3204448256 : UInt32)) CmpOp.l ≤ 0 then nI 0 else nI 1
theorem z_mtN (w : WF B a) (r : RX a u.2.1.1) {s o : Nat} (hs : s < a 0 0) (ho : o < a 0 0) (h : cntS a s < 2 ∨ cntS a o < 2) : fX7_meet (nI s) (nI o) u = some (-100006, u) := by
  have hn := wf_n w
  have g0 := xq_both w r hs ho
  have g3 := xq_hasFix w r hs
  have g4 := xq_hasFix w r ho
  by_cases h1 : cntS a s < 2
  · simp only [h1, if_true] at g3
    exact (by simp (disch := omega) only [fX7_meet, g0, g3, rx_n r, rx_e r, rx_h r, rx_l r, rx_m r, rx_c r, rx_w r, rx_z r, rx_s r, rx_t r, rx_f r, rx_k4 r, rx_k5 r, rx_k6 r, rx_k7 r, peta, if_true, if_false, not_true, not_false_iff, lits, nJ_le, nJ_lt, nJ_eq, nJ_clamp, nJ_add, nI_mul, nI_sub, nI_and, nI_or, nI_xor, Nat.add_zero, Nat.not_lt_zero, leF, leT, ltF, ltT, eqF, eqT, bd, obp_some, Option.bind_some, reduceIte, reduceCtorEq, or_self, or_true, true_or, or_false, false_or])
  · have h2 : cntS a o < 2 := by omega
    simp only [h1, h2, if_true, if_false] at g3 g4
    exact (by simp (disch := omega) only [fX7_meet, g0, g3, g4, rx_n r, rx_e r, rx_h r, rx_l r, rx_m r, rx_c r, rx_w r, rx_z r, rx_s r, rx_t r, rx_f r, rx_k4 r, rx_k5 r, rx_k6 r, rx_k7 r, peta, if_true, if_false, not_true, not_false_iff, lits, nJ_le, nJ_lt, nJ_eq, nJ_clamp, nJ_add, nI_mul, nI_sub, nI_and, nI_or, nI_xor, Nat.add_zero, Nat.not_lt_zero, leF, leT, ltF, ltT, eqF, eqT, bd, obp_some, Option.bind_some, reduceIte, reduceCtorEq, or_self, or_true, true_or, or_false, false_or])
theorem z_mt (w : WF B a) (r : RX a u.2.1.1) {s o k1 k2 j1 j2 : Nat} (hs : s < a 0 0) (ho : o < a 0 0) (h : ¬ cntS a s < 2) (h' : ¬ cntS a o < 2) (f : FX a s k1 k2) (f' : FX a o j1 j2) : fX7_meet (nI s) (nI o) u = some (mtI (a 7 k1 + a 7 k2) (a 7 j1 + a 7 j2), u) := by
  have hn := wf_n w
  have hl := wf_l w
  have g0 := xq_both w r hs ho
  have g3 := xq_hasFix w r hs
  have g4 := xq_hasFix w r ho
  simp only [h, h', if_false] at g3 g4
  obtain ⟨p1, -⟩ := xq_fixOf w r hs f
  obtain ⟨p1', -⟩ := xq_fixOf w r ho f'
  obtain ⟨f1, f2, f3, f4, f5, f6⟩ := f
  obtain ⟨f1', f2', f3', f4', f5', f6'⟩ := f'
  have y1 := wf_g w k1 (by omega)
  have y2 := wf_g w k2 f2
  have y3 := wf_g w j1 (by omega)
  have y4 := wf_g w j2 f2'
  have m := meet_all (a 7 k1 + a 7 k2) (a 7 j1 + a 7 j2) (by omega) (by omega)
  unfold okF at m
  unfold mtI
  by_cases c1 : 0 ≤ Op.cmpValue (FP.fcmp (FP.fsub (fs (a 7 k1 + a 7 k2)) (fs (a 7 j1 + a 7 j2))) (1056964608 : UInt32)) CmpOp.g
  · rw [if_pos c1]
    rw [l32_0] at c1
    exact (by simp (disch := omega) only [fX7_meet, g0, g3, g4, p1, p1', m, c1, rx_n r, rx_e r, rx_h r, rx_l r, rx_m r, rx_c r, rx_w r, rx_z r, rx_s r, rx_t r, rx_f r, rx_k4 r, rx_k5 r, rx_k6 r, rx_k7 r, peta, if_true, if_false, not_true, not_false_iff, lits, nJ_le, nJ_lt, nJ_eq, nJ_clamp, nJ_add, nI_mul, nI_sub, nI_and, nI_or, nI_xor, Nat.add_zero, Nat.not_lt_zero, leF, leT, ltF, ltT, eqF, eqT, bd, obp_some, Option.bind_some, reduceIte, reduceCtorEq, or_self, or_true, true_or, or_false, false_or])
  by_cases c2 : Op.cmpValue (FP.fcmp (FP.fsub (fs (a 7 k1 + a 7 k2)) (fs (a 7 j1 + a 7 j2))) (3204448256 : UInt32)) CmpOp.l ≤ 0
  · rw [if_neg c1, if_pos c2]
    rw [l32_0] at c1 c2
    exact (by simp (disch := omega) only [fX7_meet, g0, g3, g4, p1, p1', m, c1, c2, rx_n r, rx_e r, rx_h r, rx_l r, rx_m r, rx_c r, rx_w r, rx_z r, rx_s r, rx_t r, rx_f r, rx_k4 r, rx_k5 r, rx_k6 r, rx_k7 r, peta, if_true, if_false, not_true, not_false_iff, lits, nJ_le, nJ_lt, nJ_eq, nJ_clamp, nJ_add, nI_mul, nI_sub, nI_and, nI_or, nI_xor, Nat.add_zero, Nat.not_lt_zero, leF, leT, ltF, ltT, eqF, eqT, bd, obp_some, Option.bind_some, reduceIte, reduceCtorEq, or_self, or_true, true_or, or_false, false_or])
  · rw [if_neg c1, if_neg c2]
    rw [l32_0] at c1 c2
    exact (by simp (disch := omega) only [fX7_meet, g0, g3, g4, p1, p1', m, c1, c2, rx_n r, rx_e r, rx_h r, rx_l r, rx_m r, rx_c r, rx_w r, rx_z r, rx_s r, rx_t r, rx_f r, rx_k4 r, rx_k5 r, rx_k6 r, rx_k7 r, peta, if_true, if_false, not_true, not_false_iff, lits, nJ_le, nJ_lt, nJ_eq, nJ_clamp, nJ_add, nI_mul, nI_sub, nI_and, nI_or, nI_xor, Nat.add_zero, Nat.not_lt_zero, leF, leT, ltF, ltT, eqF, eqT, bd, obp_some, Option.bind_some, reduceIte, reduceCtorEq, or_self, or_true, true_or, or_false, false_or])
theorem z_0N (w : WF B a) (r : RX a u.2.1.1) : fX5_hasBoth (0 : Int32) (nI (a 0 0)) u.2.1.1 = some (nI 0, u.2.1.1) := by
  have hn := wf_n w
  by_cases h : 0 < a 0 0
  · exact xq_bothn2 w r (s := 0) h (z_out w)
  · refine xq_bothn1 w r (x := nI 0) (Or.inr ?_)
    rw [nJ_le (by omega) (by omega)]
    omega
theorem z_mt0 (w : WF B a) (r : RX a u.2.1.1) : fX7_meet (0 : Int32) (nI (a 0 0)) u = some (-100001, u) := (by rw [fX7_meet, z_0N w r, obp_some]; (try dsimp only [bd]); exact if_pos l32_0.symm)
theorem z_un (w : WF B a) (r : RX a u.2.1.1) {s o : Nat} (hs : s < a 0 0) (ho : o < a 0 0) : fX7_unlike (nI s) (nI o) u = some (nI (pc (a 1 s ^^^ a 1 o)), u) ∧ fX7_unlikeAgain (nI s) (nI o) u = some (nI (pc (a 1 s ^^^ a 1 o)), u) ∧ fX7_closest (nI s) (nI o) u = some (nI (bst (clG (a 1 s) (a 1 o)) 16), u) := by
  have hn := wf_n w
  have g0 := xq_both w r hs ho
  have h1 := wf_s w s hs
  have h2 := wf_s w o ho
  exact ⟨(by simp (disch := omega) only [fX7_unlike, g0, xq_unlike, rx_n r, rx_e r, rx_h r, rx_l r, rx_m r, rx_c r, rx_w r, rx_z r, rx_s r, rx_t r, rx_f r, rx_k4 r, rx_k5 r, rx_k6 r, rx_k7 r, peta, if_true, if_false, not_true, not_false_iff, lits, nJ_le, nJ_lt, nJ_eq, nJ_clamp, nJ_add, nI_mul, nI_sub, nI_and, nI_or, nI_xor, Nat.add_zero, Nat.not_lt_zero, leF, leT, ltF, ltT, eqF, eqT, bd, obp_some, Option.bind_some, reduceIte, reduceCtorEq, or_self, or_true, true_or, or_false, false_or]), (by simp (disch := omega) only [fX7_unlikeAgain, g0, xq_counts, rx_n r, rx_e r, rx_h r, rx_l r, rx_m r, rx_c r, rx_w r, rx_z r, rx_s r, rx_t r, rx_f r, rx_k4 r, rx_k5 r, rx_k6 r, rx_k7 r, peta, if_true, if_false, not_true, not_false_iff, lits, nJ_le, nJ_lt, nJ_eq, nJ_clamp, nJ_add, nI_mul, nI_sub, nI_and, nI_or, nI_xor, Nat.add_zero, Nat.not_lt_zero, leF, leT, ltF, ltT, eqF, eqT, bd, obp_some, Option.bind_some, reduceIte, reduceCtorEq, or_self, or_true, true_or, or_false, false_or]), (by simp (disch := omega) only [fX7_closest, g0, xq_closest, rx_n r, rx_e r, rx_h r, rx_l r, rx_m r, rx_c r, rx_w r, rx_z r, rx_s r, rx_t r, rx_f r, rx_k4 r, rx_k5 r, rx_k6 r, rx_k7 r, peta, if_true, if_false, not_true, not_false_iff, lits, nJ_le, nJ_lt, nJ_eq, nJ_clamp, nJ_add, nI_mul, nI_sub, nI_and, nI_or, nI_xor, Nat.add_zero, Nat.not_lt_zero, leF, leT, ltF, ltT, eqF, eqT, bd, obp_some, Option.bind_some, reduceIte, reduceCtorEq, or_self, or_true, true_or, or_false, false_or])⟩
theorem z_un0 (w : WF B a) (r : RX a u.2.1.1) : fX7_unlike (0 : Int32) (nI (a 0 0)) u = some (-100001, u) := (by rw [fX7_unlike, z_0N w r, obp_some]; (try dsimp only [bd]); exact if_pos l32_0.symm)
theorem z_clN (w : WF B a) (r : RX a u.2.1.1) : fX7_closest (nI (a 0 0)) (0 : Int32) u = some (-100001, u) := (by rw [fX7_closest, xq_bothn1 w r (z_out w), obp_some]; (try dsimp only [bd]); exact if_pos l32_0.symm)
theorem z_ms (w : WF B a) (r : RX a u.2.1.1) : fX7_messes u = some (nI (sumN (a 0 0) (fun s => if mss a s &&& (1 <<< s - 1) = 0 then 1 else 0)), u) := by
  rw [fX7_messes, xq_allMesses w r, obp_some]; rfl
theorem z_cnt (w : WF B a) (r : RX a u.2.1.1) (h : a 0 5 = sumN (a 0 0) (a 2) + a 0 6 + a 0 7) : fX7_isCounted u = some (1, u) := by
  have h7 := xq_rumCounted w r
  rw [h, nJ_add, nJ_add, if_pos rfl] at h7
  rw [fX7_isCounted, xq_unlikeAlike w r, obp_some]
  try dsimp only [bd]
  rw [if_neg (by decide), xq_fixAlike w r, obp_some]
  try dsimp only [bd]
  rw [if_neg (by decide), xq_logOfCrew w r, obp_some]
  try dsimp only [bd]
  rw [if_neg (by decide), h7, obp_some]
  exact if_neg (by decide)
/-- the mean -/
def mnF (n : Nat) (z : Int) : UInt64 := FP.ddiv (FP.i2d (iI z)) (FP.i2d (nI n))
theorem mn_ok {n : Nat} (hn : n ≤ 8) (h0 : 0 < n) {z : Int} (h1 : -16 * (n : Int) ≤ z) (h2 : z ≤ 17 * (n : Int)) : okD (mnF n z) := by
  have m := mean_ok n (by omega) h0 (z + 150).toNat (by omega)
  have e1 : (((z + 150).toNat : Nat) : Int) - 150 = z := by omega
  rw [e1] at m
  exact m
theorem z_mean (w : WF B a) (r : RX a u.2.1.1) : fX7_meanAngle u = some (if a 0 0 = 0 then FP.dconst0 else mnF (a 0 0) (sumZ (a 0 0) (ang a)), u) := by
  have hn := wf_n w
  have hb := sumZ_b (N := a 0 0) (f := ang a) (fun i hi => ang_b w hi)
  by_cases h0 : a 0 0 = 0
  · rw [if_pos h0, fX7_meanAngle, rx_n r, h0]
    exact if_pos rfl
  · rw [if_neg h0]
    have m := mn_ok (n := a 0 0) (by omega) (by omega) hb.1 hb.2
    unfold okD mnF at m
    unfold mnF
    exact (by simp (disch := omega) only [fX7_meanAngle, xq_allAngles w r, m, rx_n r, rx_e r, rx_h r, rx_l r, rx_m r, rx_c r, rx_w r, rx_z r, rx_s r, rx_t r, rx_f r, rx_k4 r, rx_k5 r, rx_k6 r, rx_k7 r, peta, if_true, if_false, not_true, not_false_iff, lits, nJ_le, nJ_lt, nJ_eq, nJ_clamp, nJ_add, nI_mul, nI_sub, nI_and, nI_or, nI_xor, Nat.add_zero, Nat.not_lt_zero, leF, leT, ltF, ltT, eqF, eqT, bd, obp_some, Option.bind_some, reduceIte, reduceCtorEq, or_self, or_true, true_or, or_false, false_or])
theorem z_ac0 (r : RX a u.2.1.1) : fX7_account (0 : Int32) u = some (nI (a 0 0), u) := by rw [fX7_account, rx_n r]; rfl
theorem z_ac1 (r : RX a u.2.1.1) : fX7_account (1 : Int32) u = some (nI (a 0 1), u) := by rw [fX7_account, rx_h r]; rfl
theorem z_ac2 (r : RX a u.2.1.1) : fX7_account (2 : Int32) u = some (iI ((a 0 2 : Int) - 3), u) := by rw [fX7_account, rx_e r]; rfl
theorem z_ac3 (r : RX a u.2.1.1) : fX7_account (3 : Int32) u = some (nI (a 0 3), u) := by rw [fX7_account, rx_l r]; rfl
theorem z_ac4 (r : RX a u.2.1.1) : fX7_account (4 : Int32) u = some (nI (a 0 4), u) := by rw [fX7_account, rx_k4 r]; rfl
theorem z_ac5 (w : WF B a) (r : RX a u.2.1.1) : fX7_account (5 : Int32) u = some (nI (sumN (a 0 0) (a 2)), u) := by
  rw [fX7_account, xq_allCups w r, obp_some]; rfl
theorem z_ac6 (r : RX a u.2.1.1) : fX7_account (6 : Int32) u = some (nI (a 0 5), u) := by rw [fX7_account, rx_k5 r]; rfl
theorem z_ac7 (r : RX a u.2.1.1) : fX7_account (7 : Int32) u = some (nI (a 0 6), u) := by rw [fX7_account, rx_k6 r]; rfl
theorem z_ac8 (r : RX a u.2.1.1) : fX7_account (8 : Int32) u = some (nI (a 0 7), u) := by rw [fX7_account, rx_k7 r]; rfl
theorem z_ac9 (h : u.2.2.2.2.2.1.1 0 1 = nI 0) : fX7_account (9 : Int32) u = some (nI 0, u) := by rw [fX7_account, h]; rfl
theorem z_ac10 {n : Nat} (h : u.2.1.2.1 2 = nI n) : fX7_account (10 : Int32) u = some (nI n, u) := by rw [fX7_account, h]; rfl
/-- an order's place: the first that stands there -/
theorem z_hi (w : WF B a) (r : RX a u.2.1.1) {k p : Nat} (hk : k < a 0 0) (hp : p < 100) (h3 : plS a k = p) (h4 : ∀ j, j < k → plS a j ≠ p) (hb : ∀ j, j < a 0 0 → plS a j ≤ 8) : fX7_highest (nI p) u = some (nI k, u) := by
  have hn := wf_n w
  have st7 : ∀ n s, s < a 0 0 → fX7_highest_2 (n + 1) (nI p) (nI s) u = if plS a s = p then some (nI s, u) else fX7_highest_2 n (nI p) (nI (s + 1)) u := by
    intro n s hs
    have i1 : ¬ u.2.1.1.1 0 0 ≤ nI s := by
      rw [rx_n r, nJ_le (by omega) (by omega)]
      omega
    have hs8 := hb s hs
    rw [fX7_highest_2, if_neg i1, xq_placeS w r hs, obp_some]
    dsimp only [bd]
    rw [l32_1, nJ_add]
    simp only [nJ_eq (show plS a s < 2147483648 by omega) (show p < 2147483648 by omega)]
  rw [fX7_highest]
  refine loop_ft (F := fun n i => fX7_highest_2 n (nI p) (nI i) u) 0 k (by omega) (by omega) (fun n i h6 h7 => ?_) (fun n => ?_)
  · show fX7_highest_2 (n + 1) (nI p) (nI i) u = _
    rw [st7 n i (by omega), if_neg (h4 i h7)]
  · show fX7_highest_2 (n + 1) (nI p) (nI k) u = _
    rw [st7 n k (by omega), if_pos h3]
theorem z_hiN (w : WF B a) (r : RX a u.2.1.1) {p : Nat} (hp : p < 100) (h4 : ∀ j, j < a 0 0 → plS a j ≠ p) (hb : ∀ j, j < a 0 0 → plS a j ≤ 8) : fX7_highest (nI p) u = some (-100001, u) := by
  have hn := wf_n w
  have st7 : ∀ n s, s < a 0 0 → fX7_highest_2 (n + 1) (nI p) (nI s) u = if plS a s = p then some (nI s, u) else fX7_highest_2 n (nI p) (nI (s + 1)) u := by
    intro n s hs
    have i1 : ¬ u.2.1.1.1 0 0 ≤ nI s := by
      rw [rx_n r, nJ_le (by omega) (by omega)]
      omega
    have hs8 := hb s hs
    rw [fX7_highest_2, if_neg i1, xq_placeS w r hs, obp_some]
    dsimp only [bd]
    rw [l32_1, nJ_add]
    simp only [nJ_eq (show plS a s < 2147483648 by omega) (show p < 2147483648 by omega)]
  rw [fX7_highest]
  refine loop_ft (F := fun n i => fX7_highest_2 n (nI p) (nI i) u) 0 (a 0 0) (by omega) (by omega) (fun n i h6 h7 => ?_) (fun n => ?_)
  · show fX7_highest_2 (n + 1) (nI p) (nI i) u = _
    rw [st7 n i (by omega), if_neg (h4 i h7)]
  · show fX7_highest_2 (n + 1) (nI p) (nI (a 0 0)) u = _
    rw [fX7_highest_2, rx_n r]
    exact if_pos ((nJ_le (by omega) (by omega)).mpr (by omega))
theorem z_ra (w : WF B a) (r : RX a u.2.1.1) {k p : Nat} (hk : k < a 0 3) (hp : p < 100) (h3 : plL a k = p) (h4 : ∀ j, j < k → plL a j ≠ p) (hb : ∀ j, j < a 0 3 → plL a j ≤ 10) : fX7_ranked (nI p) u = some (nI k, u) := by
  have hl := wf_l w
  have st7 : ∀ n s, s < a 0 3 → fX7_ranked_2 (n + 1) (nI p) (nI s) u = if plL a s = p then some (nI s, u) else fX7_ranked_2 n (nI p) (nI (s + 1)) u := by
    intro n s hs
    have i1 : ¬ u.2.1.1.1 0 7 ≤ nI s := by
      rw [rx_l r, nJ_le (by omega) (by omega)]
      omega
    have hs8 := hb s hs
    rw [fX7_ranked_2, if_neg i1, xq_placeL w r hs, obp_some]
    dsimp only [bd]
    rw [l32_1, nJ_add]
    simp only [nJ_eq (show plL a s < 2147483648 by omega) (show p < 2147483648 by omega)]
  rw [fX7_ranked]
  refine loop_ft (F := fun n i => fX7_ranked_2 n (nI p) (nI i) u) 0 k (by omega) (by omega) (fun n i h6 h7 => ?_) (fun n => ?_)
  · show fX7_ranked_2 (n + 1) (nI p) (nI i) u = _
    rw [st7 n i (by omega), if_neg (h4 i h7)]
  · show fX7_ranked_2 (n + 1) (nI p) (nI k) u = _
    rw [st7 n k (by omega), if_pos h3]
theorem z_raN (w : WF B a) (r : RX a u.2.1.1) {p : Nat} (hp : p < 100) (h4 : ∀ j, j < a 0 3 → plL a j ≠ p) (hb : ∀ j, j < a 0 3 → plL a j ≤ 10) : fX7_ranked (nI p) u = some (-100001, u) := by
  have hl := wf_l w
  have st7 : ∀ n s, s < a 0 3 → fX7_ranked_2 (n + 1) (nI p) (nI s) u = if plL a s = p then some (nI s, u) else fX7_ranked_2 n (nI p) (nI (s + 1)) u := by
    intro n s hs
    have i1 : ¬ u.2.1.1.1 0 7 ≤ nI s := by
      rw [rx_l r, nJ_le (by omega) (by omega)]
      omega
    have hs8 := hb s hs
    rw [fX7_ranked_2, if_neg i1, xq_placeL w r hs, obp_some]
    dsimp only [bd]
    rw [l32_1, nJ_add]
    simp only [nJ_eq (show plL a s < 2147483648 by omega) (show p < 2147483648 by omega)]
  rw [fX7_ranked]
  refine loop_ft (F := fun n i => fX7_ranked_2 n (nI p) (nI i) u) 0 (a 0 3) (by omega) (by omega) (fun n i h6 h7 => ?_) (fun n => ?_)
  · show fX7_ranked_2 (n + 1) (nI p) (nI i) u = _
    rw [st7 n i (by omega), if_neg (h4 i h7)]
  · show fX7_ranked_2 (n + 1) (nI p) (nI (a 0 3)) u = _
    rw [fX7_ranked_2, rx_l r]
    exact if_pos ((nJ_le (by omega) (by omega)).mpr (by omega))
theorem z_wd (w : WF B a) (r : RX a u.2.1.1) {s h : Nat} (hs : s < a 0 0) (hh : h ≤ 40) : fX7_would (nI s) (nI h) u = some (iI (angA a s h), u) := by
  have hn := wf_n w
  have g0 := xq_has w r hs
  have g1 := xq_angle w r hs (h := h) (by omega)
  exact (by simp (disch := omega) only [fX7_would, g0, g1, rx_n r, rx_e r, rx_h r, rx_l r, rx_m r, rx_c r, rx_w r, rx_z r, rx_s r, rx_t r, rx_f r, rx_k4 r, rx_k5 r, rx_k6 r, rx_k7 r, peta, if_true, if_false, not_true, not_false_iff, lits, nJ_le, nJ_lt, nJ_eq, nJ_clamp, nJ_add, nI_mul, nI_sub, nI_and, nI_or, nI_xor, Nat.add_zero, Nat.not_lt_zero, leF, leT, ltF, ltT, eqF, eqT, bd, obp_some, Option.bind_some, reduceIte, reduceCtorEq, or_self, or_true, true_or, or_false, false_or])
theorem z_sk (w : WF B a) (r : RX a u.2.1.1) {s : Nat} (hs : s < a 0 0) : (∃ k, k ≤ 40 ∧ angA a s k ≤ 0 ∧ (∀ j, j < k → 0 < angA a s j) ∧ fX7_sinks (nI s) u = some (nI k, u)) ∨ ((∀ j, j ≤ 40 → 0 < angA a s j) ∧ fX7_sinks (nI s) u = some (-100006, u)) := by
  have hn := wf_n w
  have g0 := xq_has w r hs
  have e0 : fX7_sinks (nI s) u = fX7_sinks_16 vF (nI s) (nI 0) u := by
    rw [fX7_sinks, g0, obp_some]
    dsimp only [bd, peta]
    rw [if_neg (by decide)]
    rfl
  have st : ∀ n h, h ≤ 40 → fX7_sinks_16 (n + 1) (nI s) (nI h) u = if angA a s h ≤ 0 then some (nI h, u) else fX7_sinks_16 n (nI s) (nI (h + 1)) u := by
    intro n h hh
    have hb := angA_b w hs (h := h)
    have g1 := xq_angle w r hs (h := h) (by omega)
    have c : ¬ (40 : Int32) < nI h := by
      have : (40 : Int32) = nI 40 := rfl
      rw [this, nJ_lt (by omega) (by omega)]
      omega
    rw [fX7_sinks_16, if_neg c, g1, obp_some]
    dsimp only [bd, peta]
    by_cases p : angA a s h ≤ 0
    · rw [if_pos p, if_neg]
      rw [l32_0, iI_p0 (by omega) (by omega)]
      omega
    · rw [if_neg p, if_pos, l32_1, nJ_add]
      rw [l32_0, iI_p0 (by omega) (by omega)]
      omega
  rw [e0]
  rcases first_or (fun h => angA a s h ≤ 0) 0 41 with ⟨k, -, h2, h3, h4⟩ | h5
  · refine Or.inl ⟨k, by omega, h3, fun j hj => by have := h4 j (by omega) hj; omega, ?_⟩
    refine loop_ft (F := fun n i => fX7_sinks_16 n (nI s) (nI i) u) 0 k (by omega) (by omega) (fun n i h6 h7 => ?_) (fun n => ?_)
    · show fX7_sinks_16 (n + 1) (nI s) (nI i) u = _
      rw [st n i (by omega), if_neg (h4 i (by omega) h7)]
    · show fX7_sinks_16 (n + 1) (nI s) (nI k) u = _
      rw [st n k (by omega), if_pos h3]
  · refine Or.inr ⟨fun j hj => by have := h5 j (by omega) (by omega); omega, ?_⟩
    refine loop_ft (F := fun n i => fX7_sinks_16 n (nI s) (nI i) u) 0 41 (by omega) (by omega) (fun n i h6 h7 => ?_) (fun n => ?_)
    · show fX7_sinks_16 (n + 1) (nI s) (nI i) u = _
      rw [st n i (by omega), if_neg (h5 i (by omega) h7)]
    · show fX7_sinks_16 (n + 1) (nI s) (nI 41) u = _
      rw [fX7_sinks_16]
      exact if_pos (by decide)
end
