/-- the first number that counts as x, or the end -/
abbrev hiP (a : mA) (o s : Nat) : Prop := if ang a o = ang a s then (if chr (a 1 o) = chr (a 1 s) then o < s else chr (a 1 s) < chr (a 1 o)) else ang a s < ang a o
def plS (a : mA) (s : Nat) : Nat := sumN (a 0 0) (fun o => if hiP a o s then 1 else 0)
def lcm (a : mA) (o k : Nat) : Int32 := Op.cmpValue (FP.fcmp (fe (a 7 o)) (fe (a 7 k))) CmpOp.l
abbrev shP (a : mA) (o k : Nat) : Prop := if lcm a o k = 0 then o < k else ¬ lcm a o k ≤ 0
def plL (a : mA) (k : Nat) : Nat := sumN (a 0 3) (fun o => if shP a o k then 1 else 0)
section
variable {B : Nat} {a : mA} {u : vH}
theorem xq_isHigher (w : WF B a) (r : RX a u) {o s : Nat} (ho : o < a 0 0) (hs : s < a 0 0) : fX5_isHigher (nI o) (nI s) u = some (if hiP a o s then nI 1 else nI 0, u) := by
  have hn := wf_n w
  have h1 := wf_s w s hs
  have h2 := wf_s w o ho
  have b1 := ang_b w hs
  have b2 := ang_b w ho
  have c1 := chr_le (a 1 s)
  have c2 := chr_le (a 1 o)
  unfold hiP
  by_cases e1 : ang a o = ang a s
  · by_cases e2 : chr (a 1 o) = chr (a 1 s)
    · by_cases e3 : o < s
      · simp (disch := omega) only [fX5_isHigher, rx_n r, rx_e r, rx_h r, rx_l r, rx_m r, rx_c r, rx_w r, rx_z r, rx_s r, rx_t r, rx_f r, xq_angle0 w r ho, xq_angle0 w r hs, xq_cheer, iI_eq, iI_le, e1, e2, e3, if_true, lits, nJ_le, nJ_lt, nJ_eq, nJ_clamp, nJ_add, nI_mul, nI_sub, nI_and, nI_or, nI_xor, Nat.add_zero, Nat.not_lt_zero, leF, leT, ltF, ltT, eqF, eqT, bd, obp_some, Option.bind_some, reduceIte, reduceCtorEq, or_self, or_true, true_or, or_false, false_or]
      · simp (disch := omega) only [fX5_isHigher, rx_n r, rx_e r, rx_h r, rx_l r, rx_m r, rx_c r, rx_w r, rx_z r, rx_s r, rx_t r, rx_f r, xq_angle0 w r ho, xq_angle0 w r hs, xq_cheer, iI_eq, iI_le, e1, e2, e3, if_true, if_false, lits, nJ_le, nJ_lt, nJ_eq, nJ_clamp, nJ_add, nI_mul, nI_sub, nI_and, nI_or, nI_xor, Nat.add_zero, Nat.not_lt_zero, leF, leT, ltF, ltT, eqF, eqT, bd, obp_some, Option.bind_some, reduceIte, reduceCtorEq, or_self, or_true, true_or, or_false, false_or]
    · by_cases e3 : chr (a 1 s) < chr (a 1 o)
      · simp (disch := omega) only [fX5_isHigher, rx_n r, rx_e r, rx_h r, rx_l r, rx_m r, rx_c r, rx_w r, rx_z r, rx_s r, rx_t r, rx_f r, xq_angle0 w r ho, xq_angle0 w r hs, xq_cheer, iI_eq, iI_le, e1, e2, e3, if_true, if_false, lits, nJ_le, nJ_lt, nJ_eq, nJ_clamp, nJ_add, nI_mul, nI_sub, nI_and, nI_or, nI_xor, Nat.add_zero, Nat.not_lt_zero, leF, leT, ltF, ltT, eqF, eqT, bd, obp_some, Option.bind_some, reduceIte, reduceCtorEq, or_self, or_true, true_or, or_false, false_or]
      · simp (disch := omega) only [fX5_isHigher, rx_n r, rx_e r, rx_h r, rx_l r, rx_m r, rx_c r, rx_w r, rx_z r, rx_s r, rx_t r, rx_f r, xq_angle0 w r ho, xq_angle0 w r hs, xq_cheer, iI_eq, iI_le, e1, e2, e3, if_true, if_false, lits, nJ_le, nJ_lt, nJ_eq, nJ_clamp, nJ_add, nI_mul, nI_sub, nI_and, nI_or, nI_xor, Nat.add_zero, Nat.not_lt_zero, leF, leT, ltF, ltT, eqF, eqT, bd, obp_some, Option.bind_some, reduceIte, reduceCtorEq, or_self, or_true, true_or, or_false, false_or]
  · by_cases e3 : ang a s < ang a o
    · have e4 : ¬ ang a o ≤ ang a s := by omega
      simp (disch := omega) only [fX5_isHigher, rx_n r, rx_e r, rx_h r, rx_l r, rx_m r, rx_c r, rx_w r, rx_z r, rx_s r, rx_t r, rx_f r, xq_angle0 w r ho, xq_angle0 w r hs, iI_eq, iI_le, e1, e3, e4, if_true, if_false, lits, nJ_le, nJ_lt, nJ_eq, nJ_clamp, nJ_add, nI_mul, nI_sub, nI_and, nI_or, nI_xor, Nat.add_zero, Nat.not_lt_zero, leF, leT, ltF, ltT, eqF, eqT, bd, obp_some, Option.bind_some, reduceIte, reduceCtorEq, or_self, or_true, true_or, or_false, false_or]
    · have e4 : ang a o ≤ ang a s := by omega
      simp (disch := omega) only [fX5_isHigher, rx_n r, rx_e r, rx_h r, rx_l r, rx_m r, rx_c r, rx_w r, rx_z r, rx_s r, rx_t r, rx_f r, xq_angle0 w r ho, xq_angle0 w r hs, iI_eq, iI_le, e1, e3, e4, if_true, if_false, lits, nJ_le, nJ_lt, nJ_eq, nJ_clamp, nJ_add, nI_mul, nI_sub, nI_and, nI_or, nI_xor, Nat.add_zero, Nat.not_lt_zero, leF, leT, ltF, ltT, eqF, eqT, bd, obp_some, Option.bind_some, reduceIte, reduceCtorEq, or_self, or_true, true_or, or_false, false_or]
theorem xq_placeS (w : WF B a) (r : RX a u) {s : Nat} (hs : s < a 0 0) : fX5_placeOfSailor (nI s) u = some (nI (plS a s), u) := by
  have hn := wf_n w
  rw [fX5_placeOfSailor]
  refine loop_to (F := fun n i => fX5_placeOfSailor_4 n (nI s) (nI (sumN i (fun o => if hiP a o s then 1 else 0))) (nI i) u) (a 0 0) (by omega) (fun n i hi => ?_) (fun n => ?_)
  · have e := xq_isHigher w r hi hs
    simp (disch := omega) only [fX5_placeOfSailor_4, rx_n r, rx_e r, rx_h r, rx_l r, rx_m r, rx_c r, rx_w r, rx_z r, rx_s r, rx_t r, rx_f r, e, lits, nJ_le, nJ_lt, nJ_eq, nJ_clamp, nJ_add, nI_mul, nI_sub, nI_and, nI_or, nI_xor, Nat.add_zero, Nat.not_lt_zero, leF, leT, ltF, ltT, eqF, eqT, bd, obp_some, Option.bind_some, reduceIte, reduceCtorEq, or_self, or_true, true_or, or_false, false_or, sumN]
    by_cases h : hiP a i s
    · simp (disch := omega) only [h, if_true, lits, nJ_le, nJ_lt, nJ_eq, nJ_clamp, nJ_add, nI_mul, nI_sub, nI_and, nI_or, nI_xor, Nat.add_zero, Nat.not_lt_zero, leF, leT, ltF, ltT, eqF, eqT, bd, obp_some, Option.bind_some, reduceIte, reduceCtorEq, or_self, or_true, true_or, or_false, false_or]
    · simp (disch := omega) only [h, if_false, lits, nJ_le, nJ_lt, nJ_eq, nJ_clamp, nJ_add, nI_mul, nI_sub, nI_and, nI_or, nI_xor, Nat.add_zero, Nat.not_lt_zero, leF, leT, ltF, ltT, eqF, eqT, bd, obp_some, Option.bind_some, reduceIte, reduceCtorEq, or_self, or_true, true_or, or_false, false_or]
  · simp (disch := omega) only [fX5_placeOfSailor_4, rx_n r, rx_e r, rx_h r, rx_l r, rx_m r, rx_c r, rx_w r, rx_z r, rx_s r, rx_t r, rx_f r, lits, nJ_le, nJ_lt, nJ_eq, nJ_clamp, nJ_add, nI_mul, nI_sub, nI_and, nI_or, nI_xor, Nat.add_zero, Nat.not_lt_zero, leF, leT, ltF, ltT, eqF, eqT, bd, obp_some, Option.bind_some, reduceIte, reduceCtorEq, or_self, or_true, true_or, or_false, false_or, plS]
theorem xq_isSH (w : WF B a) (r : RX a u) {o k : Nat} (ho : o < a 0 3) (hk : k < a 0 3) : fX5_isSightHigher (nI o) (nI k) u = some (if shP a o k then nI 1 else nI 0, u) := by
  have hl := wf_l w
  have h1 := rx_f r o ho
  have h2 := rx_f r k hk
  have c1 : Int32.toNatClampNeg (nI o) = o := nJ_clamp (by omega)
  have c2 : Int32.toNatClampNeg (nI k) = k := nJ_clamp (by omega)
  have i1 : ¬ (nI o < 0 ∨ 10 ≤ o) := by have := (nJ_in (a := o) (n := 10) (by omega) (by omega)).mp; rw [c1] at this; exact this
  have i2 : ¬ (nI k < 0 ∨ 10 ≤ k) := by have := (nJ_in (a := k) (n := 10) (by omega) (by omega)).mp; rw [c2] at this; exact this
  unfold shP
  have e0 : Op.cmpValue (FP.fcmp (u.2 o) (u.2 k)) CmpOp.l = lcm a o k := by rw [h1, h2]; rfl
  simp only [fX5_isSightHigher, c1, c2, i1, i2, if_false, e0]
  by_cases e1 : lcm a o k = 0
  · by_cases e2 : o < k
    · have e3 : ¬ nI k ≤ nI o := by rw [nJ_le (by omega) (by omega)]; omega
      simp only [e1, e2, e3, if_true, if_false, l32_0, l32_1]
    · have e3 : nI k ≤ nI o := by rw [nJ_le (by omega) (by omega)]; omega
      simp only [e1, e2, e3, if_true, if_false, l32_0, l32_1]
  · by_cases e2 : lcm a o k ≤ 0
    · simp only [e1, e2, not_true, if_true, if_false]
      rfl
    · simp only [e1, e2, not_false_iff, if_true, if_false]
      rfl
theorem xq_placeL (w : WF B a) (r : RX a u) {s : Nat} (hs : s < a 0 3) : fX5_placeOfSight (nI s) u = some (nI (plL a s), u) := by
  have hl := wf_l w
  rw [fX5_placeOfSight]
  refine loop_to (F := fun n i => fX5_placeOfSight_4 n (nI s) (nI (sumN i (fun o => if shP a o s then 1 else 0))) (nI i) u) (a 0 3) (by omega) (fun n i hi => ?_) (fun n => ?_)
  · have e := xq_isSH w r hi hs
    simp (disch := omega) only [fX5_placeOfSight_4, rx_n r, rx_e r, rx_h r, rx_l r, rx_m r, rx_c r, rx_w r, rx_z r, rx_s r, rx_t r, rx_f r, e, lits, nJ_le, nJ_lt, nJ_eq, nJ_clamp, nJ_add, nI_mul, nI_sub, nI_and, nI_or, nI_xor, Nat.add_zero, Nat.not_lt_zero, leF, leT, ltF, ltT, eqF, eqT, bd, obp_some, Option.bind_some, reduceIte, reduceCtorEq, or_self, or_true, true_or, or_false, false_or, sumN]
    by_cases h : shP a i s
    · simp (disch := omega) only [h, if_true, lits, nJ_le, nJ_lt, nJ_eq, nJ_clamp, nJ_add, nI_mul, nI_sub, nI_and, nI_or, nI_xor, Nat.add_zero, Nat.not_lt_zero, leF, leT, ltF, ltT, eqF, eqT, bd, obp_some, Option.bind_some, reduceIte, reduceCtorEq, or_self, or_true, true_or, or_false, false_or]
    · simp (disch := omega) only [h, if_false, lits, nJ_le, nJ_lt, nJ_eq, nJ_clamp, nJ_add, nI_mul, nI_sub, nI_and, nI_or, nI_xor, Nat.add_zero, Nat.not_lt_zero, leF, leT, ltF, ltT, eqF, eqT, bd, obp_some, Option.bind_some, reduceIte, reduceCtorEq, or_self, or_true, true_or, or_false, false_or]
  · simp (disch := omega) only [fX5_placeOfSight_4, rx_n r, rx_e r, rx_h r, rx_l r, rx_m r, rx_c r, rx_w r, rx_z r, rx_s r, rx_t r, rx_f r, lits, nJ_le, nJ_lt, nJ_eq, nJ_clamp, nJ_add, nI_mul, nI_sub, nI_and, nI_or, nI_xor, Nat.add_zero, Nat.not_lt_zero, leF, leT, ltF, ltT, eqF, eqT, bd, obp_some, Option.bind_some, reduceIte, reduceCtorEq, or_self, or_true, true_or, or_false, false_or, plL]
theorem xq_unlikeAlike (w : WF B a) (r : RX a u) : fX5_isUnlikeAlike u = some (nI 1, u) := by
  have hn := wf_n w
  rw [fX5_isUnlikeAlike]
  refine loop_to (F := fun n i => fX5_isUnlikeAlike_2 n (nI i) u) (a 0 0) (by omega) (fun n i hi => ?_) (fun n => ?_)
  · have h1 := wf_s w i hi
    simp (disch := omega) only [fX5_isUnlikeAlike_2, rx_n r, rx_e r, rx_h r, rx_l r, rx_m r, rx_c r, rx_w r, rx_z r, rx_s r, rx_t r, rx_f r, lits, nJ_le, nJ_lt, nJ_eq, nJ_clamp, nJ_add, nI_mul, nI_sub, nI_and, nI_or, nI_xor, Nat.add_zero, Nat.not_lt_zero, leF, leT, ltF, ltT, eqF, eqT, bd, obp_some, Option.bind_some, reduceIte, reduceCtorEq, or_self, or_true, true_or, or_false, false_or]
    have h3 := loop_to (F := fun q j => fX5_isUnlikeAlike_12 q (fun a0 a1 => fX5_isUnlikeAlike_2 n a0 a1) (nI i) (nI j) u) (a 0 0) (r := fX5_isUnlikeAlike_2 n (nI (i + 1)) u) (by omega) (fun q j hj => ?_) (fun q => ?_)
    · exact h3
    · have h2 := wf_s w j hj
      have hp := pc_le (a 1 i ^^^ a 1 j)
      simp (disch := omega) only [fX5_isUnlikeAlike_12, rx_n r, rx_e r, rx_h r, rx_l r, rx_m r, rx_c r, rx_w r, rx_z r, rx_s r, rx_t r, rx_f r, xq_unlike, xq_counts, lits, nJ_le, nJ_lt, nJ_eq, nJ_clamp, nJ_add, nI_mul, nI_sub, nI_and, nI_or, nI_xor, Nat.add_zero, Nat.not_lt_zero, leF, leT, ltF, ltT, eqF, eqT, bd, obp_some, Option.bind_some, reduceIte, reduceCtorEq, or_self, or_true, true_or, or_false, false_or]
    · simp (disch := omega) only [fX5_isUnlikeAlike_12, rx_n r, rx_e r, rx_h r, rx_l r, rx_m r, rx_c r, rx_w r, rx_z r, rx_s r, rx_t r, rx_f r, lits, nJ_le, nJ_lt, nJ_eq, nJ_clamp, nJ_add, nI_mul, nI_sub, nI_and, nI_or, nI_xor, Nat.add_zero, Nat.not_lt_zero, leF, leT, ltF, ltT, eqF, eqT, bd, obp_some, Option.bind_some, reduceIte, reduceCtorEq, or_self, or_true, true_or, or_false, false_or]
  · simp (disch := omega) only [fX5_isUnlikeAlike_2, rx_n r, rx_e r, rx_h r, rx_l r, rx_m r, rx_c r, rx_w r, rx_z r, rx_s r, rx_t r, rx_f r, lits, nJ_le, nJ_lt, nJ_eq, nJ_clamp, nJ_add, nI_mul, nI_sub, nI_and, nI_or, nI_xor, Nat.add_zero, Nat.not_lt_zero, leF, leT, ltF, ltT, eqF, eqT, bd, obp_some, Option.bind_some, reduceIte, reduceCtorEq, or_self, or_true, true_or, or_false, false_or]
theorem xq_fixAlike (w : WF B a) (r : RX a u) : fX5_isFixAlike u = some (nI 1, u) := by
  have hn := wf_n w
  rw [fX5_isFixAlike]
  refine loop_to (F := fun n i => fX5_isFixAlike_2 n (nI i) u) (a 0 0) (by omega) (fun n i hi => ?_) (fun n => ?_)
  · have h1 := xq_hasFix w r hi
    by_cases h2 : cntS a i < 2
    · simp only [h2, if_true] at h1
      simp (disch := omega) only [fX5_isFixAlike_2, rx_n r, rx_e r, rx_h r, rx_l r, rx_m r, rx_c r, rx_w r, rx_z r, rx_s r, rx_t r, rx_f r, h1, lits, nJ_le, nJ_lt, nJ_eq, nJ_clamp, nJ_add, nI_mul, nI_sub, nI_and, nI_or, nI_xor, Nat.add_zero, Nat.not_lt_zero, leF, leT, ltF, ltT, eqF, eqT, bd, obp_some, Option.bind_some, reduceIte, reduceCtorEq, or_self, or_true, true_or, or_false, false_or]
    · simp only [h2, if_false] at h1
      obtain ⟨k1, k2, f⟩ := fx_of (a := a) (s := i) (by omega)
      obtain ⟨p1, p2⟩ := xq_fixOf w r hi f
      obtain ⟨f1, f2, f3, f4, f5, f6⟩ := f
      have g1 := wf_g w k1 (by omega)
      have g2 := wf_g w k2 f2
      have s1 := (fs_ok (a 7 k1 + a 7 k2) (by omega)).2.2
      simp only [l32_0] at s1
      simp (disch := omega) only [fX5_isFixAlike_2, rx_n r, rx_e r, rx_h r, rx_l r, rx_m r, rx_c r, rx_w r, rx_z r, rx_s r, rx_t r, rx_f r, h1, p1, p2, s1, lits, nJ_le, nJ_lt, nJ_eq, nJ_clamp, nJ_add, nI_mul, nI_sub, nI_and, nI_or, nI_xor, Nat.add_zero, Nat.not_lt_zero, leF, leT, ltF, ltT, eqF, eqT, bd, obp_some, Option.bind_some, reduceIte, reduceCtorEq, or_self, or_true, true_or, or_false, false_or]
  · simp (disch := omega) only [fX5_isFixAlike_2, rx_n r, rx_e r, rx_h r, rx_l r, rx_m r, rx_c r, rx_w r, rx_z r, rx_s r, rx_t r, rx_f r, lits, nJ_le, nJ_lt, nJ_eq, nJ_clamp, nJ_add, nI_mul, nI_sub, nI_and, nI_or, nI_xor, Nat.add_zero, Nat.not_lt_zero, leF, leT, ltF, ltT, eqF, eqT, bd, obp_some, Option.bind_some, reduceIte, reduceCtorEq, or_self, or_true, true_or, or_false, false_or]
theorem xq_logOfCrew (w : WF B a) (r : RX a u) : fX5_isLogOfCrew u = some (nI 1, u) := by
  have hn := wf_n w
  have hl := wf_l w
  rw [fX5_isLogOfCrew]
  refine loop_to (F := fun n i => fX5_isLogOfCrew_2 n (nI i) u) (a 0 3) (by omega) (fun n i hi => ?_) (fun n => ?_)
  · have h1 := wf_g w i hi
    simp (disch := omega) only [fX5_isLogOfCrew_2, rx_n r, rx_e r, rx_h r, rx_l r, rx_m r, rx_c r, rx_w r, rx_z r, rx_s r, rx_t r, rx_f r, xq_has w r h1.1, lits, nJ_le, nJ_lt, nJ_eq, nJ_clamp, nJ_add, nI_mul, nI_sub, nI_and, nI_or, nI_xor, Nat.add_zero, Nat.not_lt_zero, leF, leT, ltF, ltT, eqF, eqT, bd, obp_some, Option.bind_some, reduceIte, reduceCtorEq, or_self, or_true, true_or, or_false, false_or]
  · simp (disch := omega) only [fX5_isLogOfCrew_2, rx_n r, rx_e r, rx_h r, rx_l r, rx_m r, rx_c r, rx_w r, rx_z r, rx_s r, rx_t r, rx_f r, lits, nJ_le, nJ_lt, nJ_eq, nJ_clamp, nJ_add, nI_mul, nI_sub, nI_and, nI_or, nI_xor, Nat.add_zero, Nat.not_lt_zero, leF, leT, ltF, ltT, eqF, eqT, bd, obp_some, Option.bind_some, reduceIte, reduceCtorEq, or_self, or_true, true_or, or_false, false_or]
theorem xq_rumCounted (w : WF B a) (r : RX a u) : fX5_isRumCounted u = some (if nI (a 0 5) = nI (sumN (a 0 0) (a 2)) + nI (a 0 6) + nI (a 0 7) then nI 1 else nI 0, u) := by
  rw [fX5_isRumCounted, xq_allCups w r, obp_some, rx_k5 r, rx_k6 r, rx_k7 r]
  split <;> rfl
end

