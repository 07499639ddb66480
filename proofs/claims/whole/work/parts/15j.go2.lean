theorem rq_forgets (v : vS) {p m : Nat} (hp : p < 10) (h3 : v 1 3 = nI m) (hm : 1 ≤ m) : ∃ v', fX8_forgets (nI p) v = some v' ∧ v' 1 3 = nI (m - 1) ∧ (∀ j, 36 + 3 * p ≤ j → j < 66 → v' 1 j = if j + 3 < 66 then v 1 (j + 3) else nI 0) ∧ (∀ j, j < 36 + 3 * p → j ≠ 3 → v' 1 j = v 1 j) ∧ ∀ b, b ≠ 1 → v' b = v b := by
  have e0 : (36 : Int32) + (3 : Int32) * nI p = nI (36 + 3 * p) := by
    rw [show (36 : Int32) = nI 36 from rfl, show (3 : Int32) = nI 3 from rfl, nI_mul, nJ_add]
  rw [fX8_forgets]
  dsimp only [bd]
  rw [e0]
  have h := loop_rel (F := fun n i (st : vS) => fX8_forgets_7 n (nI i) st) (fun i st => 36 + 3 * p ≤ i ∧ st 1 3 = nI m ∧ (∀ j, 36 + 3 * p ≤ j → j < i → st 1 j = if j + 3 < 66 then v 1 (j + 3) else nI 0) ∧ (∀ j, i ≤ j → st 1 j = v 1 j) ∧ (∀ j, j < 36 + 3 * p → st 1 j = v 1 j) ∧ ∀ b, b ≠ 1 → st b = v b) (fun v' => v' 1 3 = nI (m - 1) ∧ (∀ j, 36 + 3 * p ≤ j → j < 66 → v' 1 j = if j + 3 < 66 then v 1 (j + 3) else nI 0) ∧ (∀ j, j < 36 + 3 * p → j ≠ 3 → v' 1 j = v 1 j) ∧ ∀ b, b ≠ 1 → v' b = v b) 66 1 (fun n i st hi hP => ?_) (fun n st hn2 hP => ?_) vF (36 + 3 * p) v (by omega) (by unfold vF; omega) ⟨Nat.le_refl _, h3, fun j h1 h2 => by omega, fun j _ => rfl, fun j _ => rfl, fun b _ => rfl⟩
  · exact h
  · obtain ⟨p0, p3, p1, p2, p4, p5⟩ := hP
    have ub : ∀ (x : Int32) b, b ≠ 1 → up2 st 1 i x b = st b := fun x b hb => if_neg hb
    by_cases e : i + 3 < 66
    · refine ⟨up2 st 1 i (st 1 (i + 3)), ?_, by omega, ?_, fun j h1 h2 => ?_, fun j h1 => ?_, fun j h1 => ?_, fun b hb => ?_⟩
      · simp (disch := omega) only [fX8_forgets_7, lits, nJ_le, nJ_lt, nJ_eq, nJ_clamp, nJ_add, nI_mul, nI_sub, nI_and, nI_or, nI_xor, Nat.add_zero, Nat.not_lt_zero, leF, leT, ltF, ltT, eqF, eqT, bd, obp_some, Option.bind_some, reduceIte, reduceCtorEq, or_self, or_true, true_or, or_false, false_or]
      · rw [up2_r, upd_ne (by omega), p3]
      · rw [up2_r]
        by_cases e2 : j = i
        · rw [upd_eq e2, e2, if_pos e, p2 _ (by omega)]
        · rw [upd_ne e2, p1 j h1 (by omega)]
      · rw [up2_r, upd_ne (by omega), p2 j (by omega)]
      · rw [up2_r, upd_ne (by omega), p4 j h1]
      · rw [ub _ _ hb, p5 b hb]
    · refine ⟨up2 st 1 i (nI 0), ?_, by omega, ?_, fun j h1 h2 => ?_, fun j h1 => ?_, fun j h1 => ?_, fun b hb => ?_⟩
      · simp (disch := omega) only [fX8_forgets_7, lits, nJ_le, nJ_lt, nJ_eq, nJ_clamp, nJ_add, nI_mul, nI_sub, nI_and, nI_or, nI_xor, Nat.add_zero, Nat.not_lt_zero, leF, leT, ltF, ltT, eqF, eqT, bd, obp_some, Option.bind_some, reduceIte, reduceCtorEq, or_self, or_true, true_or, or_false, false_or]
      · rw [up2_r, upd_ne (by omega), p3]
      · rw [up2_r]
        by_cases e2 : j = i
        · rw [upd_eq e2, e2, if_neg e]
        · rw [upd_ne e2, p1 j h1 (by omega)]
      · rw [up2_r, upd_ne (by omega), p2 j (by omega)]
      · rw [up2_r, upd_ne (by omega), p4 j h1]
      · rw [ub _ _ hb, p5 b hb]
  · obtain ⟨p0, p3, p1, p2, p4, p5⟩ := hP
    obtain ⟨n, rfl⟩ : ∃ m, n = m + 1 := ⟨n - 1, by omega⟩
    refine ⟨up2 st 1 3 (nI (m - 1)), ?_, rfl, fun j h1 h2 => ?_, fun j h1 h2 => ?_, fun b hb => ?_⟩
    · simp (disch := omega) only [fX8_forgets_7, p3, lits, nJ_le, nJ_lt, nJ_eq, nJ_clamp, nJ_add, nI_mul, nI_sub, nI_and, nI_or, nI_xor, Nat.add_zero, Nat.not_lt_zero, leF, leT, ltF, ltT, eqF, eqT, bd, obp_some, Option.bind_some, reduceIte, reduceCtorEq, or_self, or_true, true_or, or_false, false_or]
    · rw [up2_r, upd_ne (by omega)]
      exact p1 j h1 h2
    · rw [up2_r, upd_ne h2]
      exact p4 j h1
    · rw [show up2 st 1 3 (nI (m - 1)) b = st b from if_neg hb]
      exact p5 b hb
theorem rq_shift (v : vS) {s m : Nat} (hs : s < 8) (h3 : v 1 0 = nI m) (hm : 1 ≤ m) : ∃ v', fX8_goes_102 vF (nI (12 + 3 * s)) v = some (nI (m - 1), v') ∧ v' 1 0 = nI (m - 1) ∧ (∀ j, 12 + 3 * s ≤ j → j < 36 → v' 1 j = if j + 3 < 36 then v 1 (j + 3) else nI 0) ∧ (∀ j, j < 12 + 3 * s → j ≠ 0 → v' 1 j = v 1 j) ∧ (∀ j, 36 ≤ j → v' 1 j = v 1 j) ∧ ∀ b, b ≠ 1 → v' b = v b := by
  have h := loop_rel (F := fun n i (st : vS) => fX8_goes_102 n (nI i) st) (fun i st => 12 + 3 * s ≤ i ∧ st 1 0 = nI m ∧ (∀ j, 12 + 3 * s ≤ j → j < i → st 1 j = if j + 3 < 36 then v 1 (j + 3) else nI 0) ∧ (∀ j, i ≤ j → st 1 j = v 1 j) ∧ (∀ j, j < 12 + 3 * s → st 1 j = v 1 j) ∧ ∀ b, b ≠ 1 → st b = v b) (fun y => y.1 = nI (m - 1) ∧ y.2 1 0 = nI (m - 1) ∧ (∀ j, 12 + 3 * s ≤ j → j < 36 → y.2 1 j = if j + 3 < 36 then v 1 (j + 3) else nI 0) ∧ (∀ j, j < 12 + 3 * s → j ≠ 0 → y.2 1 j = v 1 j) ∧ (∀ j, 36 ≤ j → y.2 1 j = v 1 j) ∧ ∀ b, b ≠ 1 → y.2 b = v b) 36 1 (fun n i st hi hP => ?_) (fun n st hn2 hP => ?_) vF (12 + 3 * s) v (by omega) (by unfold vF; omega) ⟨Nat.le_refl _, h3, fun j h1 h2 => by omega, fun j _ => rfl, fun j _ => rfl, fun b _ => rfl⟩
  · obtain ⟨y, e, e1, e2⟩ := h
    refine ⟨y.2, ?_, e2⟩
    rw [← e1]
    exact e
  · obtain ⟨p0, p3, p1, p2, p4, p5⟩ := hP
    have ub : ∀ (x : Int32) b, b ≠ 1 → up2 st 1 i x b = st b := fun x b hb => if_neg hb
    by_cases e : i + 3 < 36
    · refine ⟨up2 st 1 i (st 1 (i + 3)), ?_, by omega, ?_, fun j h1 h2 => ?_, fun j h1 => ?_, fun j h1 => ?_, fun b hb => ?_⟩
      · simp (disch := omega) only [fX8_goes_102, lits, nJ_le, nJ_lt, nJ_eq, nJ_clamp, nJ_add, nI_mul, nI_sub, nI_and, nI_or, nI_xor, Nat.add_zero, Nat.not_lt_zero, leF, leT, ltF, ltT, eqF, eqT, bd, obp_some, Option.bind_some, reduceIte, reduceCtorEq, or_self, or_true, true_or, or_false, false_or]
      · rw [up2_r, upd_ne (by omega), p3]
      · rw [up2_r]
        by_cases e2 : j = i
        · rw [upd_eq e2, e2, if_pos e, p2 _ (by omega)]
        · rw [upd_ne e2, p1 j h1 (by omega)]
      · rw [up2_r, upd_ne (by omega), p2 j (by omega)]
      · rw [up2_r, upd_ne (by omega), p4 j h1]
      · rw [ub _ _ hb, p5 b hb]
    · refine ⟨up2 st 1 i (nI 0), ?_, by omega, ?_, fun j h1 h2 => ?_, fun j h1 => ?_, fun j h1 => ?_, fun b hb => ?_⟩
      · simp (disch := omega) only [fX8_goes_102, lits, nJ_le, nJ_lt, nJ_eq, nJ_clamp, nJ_add, nI_mul, nI_sub, nI_and, nI_or, nI_xor, Nat.add_zero, Nat.not_lt_zero, leF, leT, ltF, ltT, eqF, eqT, bd, obp_some, Option.bind_some, reduceIte, reduceCtorEq, or_self, or_true, true_or, or_false, false_or]
      · rw [up2_r, upd_ne (by omega), p3]
      · rw [up2_r]
        by_cases e2 : j = i
        · rw [upd_eq e2, e2, if_neg e]
        · rw [upd_ne e2, p1 j h1 (by omega)]
      · rw [up2_r, upd_ne (by omega), p2 j (by omega)]
      · rw [up2_r, upd_ne (by omega), p4 j h1]
      · rw [ub _ _ hb, p5 b hb]
  · obtain ⟨p0, p3, p1, p2, p4, p5⟩ := hP
    obtain ⟨n, rfl⟩ : ∃ m, n = m + 1 := ⟨n - 1, by omega⟩
    refine ⟨(nI (m - 1), up2 st 1 0 (nI (m - 1))), ?_, rfl, rfl, fun j h1 h2 => ?_, fun j h1 h2 => ?_, fun j h1 => ?_, fun b hb => ?_⟩
    · simp (disch := omega) only [fX8_goes_102, p3, up2_r, upd_eq, lits, nJ_le, nJ_lt, nJ_eq, nJ_clamp, nJ_add, nI_mul, nI_sub, nI_and, nI_or, nI_xor, Nat.add_zero, Nat.not_lt_zero, leF, leT, ltF, ltT, eqF, eqT, bd, obp_some, Option.bind_some, reduceIte, reduceCtorEq, or_self, or_true, true_or, or_false, false_or]
    · dsimp only
      rw [up2_r, upd_ne (by omega)]
      exact p1 j h1 h2
    · dsimp only
      rw [up2_r, upd_ne h2]
      exact p4 j h1
    · dsimp only
      rw [up2_r, upd_ne (by omega)]
      exact p2 j h1
    · dsimp only
      rw [show up2 st 1 0 (nI (m - 1)) b = st b from if_neg hb]
      exact p5 b hb
/-- the log, as the reference goes through it from its end -/
def goP (a : mA) (s : Nat) (v : vS) (i : Nat) (st : vS) : Prop := st 1 3 = nI (a 0 3 - i + (uL a s (a 0 3 - i) i).length) ∧ (∀ j, j < a 0 3 - i → st 1 (36 + 3 * j) = nI (a 5 j) ∧ st 1 (36 + 3 * j + 1) = nI (a 6 j) ∧ st 1 (36 + 3 * j + 2) = UInt32.toInt32 (fe (a 7 j))) ∧ (∀ j, j < (uL a s (a 0 3 - i) i).length → st 1 (36 + 3 * (a 0 3 - i + j)) = nI (dn a s ((uL a s (a 0 3 - i) i).getD j 0)) ∧ st 1 (36 + 3 * (a 0 3 - i + j) + 1) = nI (a 6 ((uL a s (a 0 3 - i) i).getD j 0)) ∧ st 1 (36 + 3 * (a 0 3 - i + j) + 2) = UInt32.toInt32 (fe (a 7 ((uL a s (a 0 3 - i) i).getD j 0)))) ∧ (∀ j, j < 36 → j ≠ 3 → st 1 j = v 1 j) ∧ ∀ b, b ≠ 1 → st b = v b
section
variable {B : Nat} {a : mA}
theorem rq_goStep (w : WF B a) {s : Nat} (hs : s < a 0 0) {v st : vS} {i : Nat} (hi : i < a 0 3) (hP : goP a s v i st) (n : Nat) : ∃ st', fX8_goes_44 (n + 1) (nI s) (nI (a 0 3 - i) - 1) st = fX8_goes_44 n (nI s) (nI (a 0 3 - (i + 1)) - 1) st' ∧ goP a s v (i + 1) st' := by
  have hn := wf_n w
  have hl := wf_l w
  obtain ⟨p1, p2, p3, p4, p5⟩ := hP
  obtain ⟨p, hp⟩ : ∃ p, a 0 3 - i = p + 1 := ⟨a 0 3 - i - 1, by omega⟩
  have hp2 : a 0 3 - (i + 1) = p := by omega
  have g := wf_g w p (by omega)
  have hU : uL a s p (i + 1) = if a 5 p = s then uL a s (p + 1) i else p :: uL a s (p + 1) i := rfl
  have hlen := uL_len a s i (p + 1)
  unfold goP
  rw [hp] at p1 p2 p3
  rw [hp2, hp, hU]
  have e0 : nI (p + 1) - 1 = nI p := nI_sub (a := p + 1) (b := 1) (by omega)
  have e1 : nI p + -1 = nI p - 1 := (Int32.sub_eq_add_neg _ _).symm
  have e2 : (36 : Int32) + (3 : Int32) * nI p = nI (36 + 3 * p) := by
    rw [show (36 : Int32) = nI 36 from rfl, show (3 : Int32) = nI 3 from rfl, nI_mul, nJ_add]
  have i0 : ¬ nI p < 0 := nI_neg0 (by omega)
  have i1 : ¬ (nI (36 + 3 * p) < 0 ∨ 66 ≤ Int32.toNatClampNeg (nI (36 + 3 * p))) := (nJ_in (n := 66) (by omega) (by omega)).mp
  have c1 : Int32.toNatClampNeg (nI (36 + 3 * p)) = 36 + 3 * p := nJ_clamp (by omega)
  have v5 := (p2 p (by omega)).1
  have s70 : ∀ (K : Int32 → Int32 → vS → Option (Int32 × vS)) (t : vS), a 5 p ≤ s → fX8_goes_70 K (nI s) (nI p) (nI (a 5 p)) t = K (nI s) (nI p - 1) t := by
    intro K t h
    rw [fX8_goes_70, if_pos ((nJ_le (by omega) (by omega)).mpr h)]
    dsimp only [bd]
    rw [e1]
  rw [e0, fX8_goes_44, if_neg i0, e2, if_neg i1, c1, v5]
  dsimp only [bd]
  generalize hUU : uL a s (p + 1) i = U at *
  by_cases h : a 5 p = s
  · rw [if_pos h, if_pos (by rw [h])]
    obtain ⟨v', f0, f1, f2, f3, f4⟩ := rq_forgets st (p := p) (by omega) p1 (by omega)
    rw [f0, Option.bind_some, s70 _ _ (by omega)]
    refine ⟨v', rfl, ?_, fun j hj => ?_, fun j hj => ?_, fun j h1 h2 => ?_, fun b hb => ?_⟩
    · rw [f1]
      congr 1
      omega
    · rw [f3 _ (by omega) (by omega), f3 _ (by omega) (by omega), f3 _ (by omega) (by omega)]
      exact p2 j (by omega)
    · have := p3 j hj
      rw [f2 _ (by omega) (by omega), f2 _ (by omega) (by omega), f2 _ (by omega) (by omega), if_pos (by omega), if_pos (by omega), if_pos (by omega), show 36 + 3 * (p + j) + 3 = 36 + 3 * (p + 1 + j) from by omega, show 36 + 3 * (p + j) + 1 + 3 = 36 + 3 * (p + 1 + j) + 1 from by omega, show 36 + 3 * (p + j) + 2 + 3 = 36 + 3 * (p + 1 + j) + 2 from by omega]
      exact this
    · rw [f3 j (by omega) h2]
      exact p4 j h1 h2
    · rw [f4 b hb]
      exact p5 b hb
  · have hne : ¬ nI (a 5 p) = nI s := by rw [nJ_eq (by omega) (by omega)]; exact h
    rw [if_neg h, if_neg hne]
    by_cases h2 : s < a 5 p
    · have i2 : ¬ nI (a 5 p) ≤ nI s := by rw [nJ_le (by omega) (by omega)]; omega
      rw [fX8_goes_70, if_neg i2, e2, if_neg i1, if_neg i1, c1, v5]
      dsimp only [bd]
      rw [e1, l32_1, nI_sub (a := a 5 p) (b := 1) (by omega)]
      refine ⟨_, rfl, ?_, fun j hj => ?_, fun j hj => ?_, fun j h1 h2 => ?_, fun b hb => ?_⟩
      · rw [up2_r, upd_ne (by omega), p1, List.length_cons]
        congr 1
        omega
      · rw [up2_r, upd_ne (by omega), upd_ne (by omega), upd_ne (by omega)]
        exact p2 j (by omega)
      · rw [List.length_cons] at hj
        rw [up2_r]
        cases j with
        | zero =>
          rw [Nat.add_zero, upd_eq rfl, upd_ne (by omega), upd_ne (by omega)]
          have ed : dn a s p = a 5 p - 1 := if_pos h2
          refine ⟨?_, (p2 p (by omega)).2⟩
          show nI (a 5 p - 1) = nI (dn a s p)
          rw [ed]
        | succ j =>
          rw [upd_ne (by omega), upd_ne (by omega), upd_ne (by omega), show p + (j + 1) = p + 1 + j from by omega]
          exact p3 j (by omega)
      · rw [up2_r, upd_ne (by omega)]
        exact p4 j h1 h2
      · rw [show ∀ (x : Int32), up2 st 1 (36 + 3 * p) x b = st b from fun x => if_neg hb]
        exact p5 b hb
    · rw [s70 _ _ (by omega)]
      refine ⟨st, rfl, ?_, fun j hj => p2 j (by omega), fun j hj => ?_, p4, p5⟩
      · rw [p1, List.length_cons]
        congr 1
        omega
      · rw [List.length_cons] at hj
        cases j with
        | zero =>
          rw [Nat.add_zero]
          have ed : dn a s p = a 5 p := if_neg h2
          refine ⟨?_, (p2 p (by omega)).2⟩
          show _ = nI (dn a s p)
          rw [ed, v5]
        | succ j =>
          rw [show p + (j + 1) = p + 1 + j from by omega]
          exact p3 j (by omega)
theorem rq_goes (w : WF B a) {s : Nat} (hs : s < a 0 0) {v : vS} (q : RR a (v 1)) : ∃ v', fX8_goes (nI s) v = some (nI (a 0 0 - 1), v') ∧ RR (goM a s) (v' 1) ∧ ∀ b, b ≠ 1 → v' b = v b := by
  have hn := wf_n w
  have hl := wf_l w
  have g := wf_s w s hs
  have i1 : ∀ k, k < 66 → ¬ (nI k < 0 ∨ 66 ≤ Int32.toNatClampNeg (nI k)) := fun k hk => (nJ_in (n := 66) hk (by omega)).mp
  have a0 : fX8_at (nI s) 0 = some (nI (12 + 3 * s)) := by simp (disch := omega) only [fX8_at, lits, nJ_le, nJ_lt, nJ_eq, nJ_clamp, nJ_add, nI_mul, nI_sub, nI_and, nI_or, nI_xor, Nat.add_zero, Nat.not_lt_zero, leF, leT, ltF, ltT, eqF, eqT, bd, obp_some, Option.bind_some, reduceIte, reduceCtorEq, or_self, or_true, true_or, or_false, false_or]
  have a1 : fX8_at (nI s) 1 = some (nI (12 + 3 * s + 1)) := by simp (disch := omega) only [fX8_at, lits, nJ_le, nJ_lt, nJ_eq, nJ_clamp, nJ_add, nI_mul, nI_sub, nI_and, nI_or, nI_xor, Nat.add_zero, Nat.not_lt_zero, leF, leT, ltF, ltT, eqF, eqT, bd, obp_some, Option.bind_some, reduceIte, reduceCtorEq, or_self, or_true, true_or, or_false, false_or]
  have vL : up2 v 1 7 (nI (a 0 7 + a 2 s)) 1 3 = nI (a 0 3) := (rr_l q :)
  rw [fX8_goes, rq_is w q hs, obp_some, if_neg (by decide), a1, Option.bind_some, if_neg (i1 _ (by omega)), nJ_clamp (by omega), rr_c q s hs, rr_k7 q, nJ_add]
  dsimp only [bd]
  rw [vL]
  have h := loop_rel (F := fun n i (st : vS) => fX8_goes_44 n (nI s) (nI (a 0 3 - i) - 1) st) (fun i st => goP a s (up2 v 1 7 (nI (a 0 7 + a 2 s))) i st) (fun y => y.1 = nI (a 0 0 - 1) ∧ RR (goM a s) (y.2 1) ∧ ∀ b, b ≠ 1 → y.2 b = v b) (a 0 3) 1 (fun n i st hi hP => rq_goStep w hs hi hP n) (fun n st hn2 hP => ?_) vF 0 (up2 v 1 7 (nI (a 0 7 + a 2 s))) (by omega) (by unfold vF; omega) ⟨vL, fun j hj => ?_, fun j hj => absurd hj (Nat.not_lt_zero j), fun j _ _ => rfl, fun b _ => rfl⟩
  · obtain ⟨y, e, e1, e2, e3⟩ := h
    refine ⟨y.2, ?_, e2, e3⟩
    rw [← e1]
    exact e
  · obtain ⟨n, rfl⟩ : ∃ m, n = m + 1 := ⟨n - 1, by omega⟩
    obtain ⟨p1, p2, p3, p4, p5⟩ := hP
    have eL : uL a s (a 0 3 - a 0 3) (a 0 3) = goL a s := by rw [Nat.sub_self]; rfl
    rw [eL, Nat.sub_self, Nat.zero_add] at p1
    rw [eL] at p3
    have v0 : st 1 0 = nI (a 0 0) := by
      rw [p4 0 (by omega) (by omega)]
      exact (rr_n q :)
    obtain ⟨v', f0, f1, f2, f3, f4, f5⟩ := rq_shift st (s := s) (by omega) v0 (by omega)
    have ko : ∀ j, j < 12 → j ≠ 0 → j ≠ 3 → j ≠ 7 → v' 1 j = v 1 j := by
      intro j h1 h2 h3 h4
      rw [f3 j (by omega) h2, p4 j (by omega) h3, up2_r, upd_ne h4]
    have kl : ∀ j, j < 12 + 3 * s → 12 ≤ j → v' 1 j = v 1 j := by
      intro j h1 h2
      rw [f3 j (by omega) (by omega), p4 j (by omega) (by omega), up2_r, upd_ne (by omega)]
    have kr : ∀ j, 12 + 3 * s ≤ j → j + 3 < 36 → v' 1 j = v 1 (j + 3) := by
      intro j h1 h2
      rw [f2 j (by omega) (by omega), if_pos h2, p4 _ (by omega) (by omega), up2_r, upd_ne (by omega)]
    have hll := goL_len a s
    have fin : RR (goM a s) (v' 1) := by
      refine ⟨⟨f1, ?_, ?_, ?_⟩, ⟨?_, ?_, ?_, ?_⟩, fun i hi => ?_, fun i hi => ?_, fun i hi => ?_, fun i hi => ?_, fun k hk => ?_, fun k hk => ?_, fun k hk => ?_⟩
      · rw [ko _ (by omega) (by omega) (by omega) (by omega)]; exact (rr_e q :)
      · rw [ko _ (by omega) (by omega) (by omega) (by omega)]; exact (rr_h q :)
      · rw [f3 3 (by omega) (by omega), p1]; rfl
      · rw [ko _ (by omega) (by omega) (by omega) (by omega)]; exact (rr_k4 q :)
      · rw [ko _ (by omega) (by omega) (by omega) (by omega)]; exact (rr_k5 q :)
      · rw [ko _ (by omega) (by omega) (by omega) (by omega)]; exact (rr_k6 q :)
      · rw [f3 7 (by omega) (by omega), p4 7 (by omega) (by omega)]; rfl
      · have hi2 : i < a 0 0 - 1 := hi
        show _ = nI (if i < s then a 1 i else a 1 (i + 1))
        by_cases e : i < s
        · rw [if_pos e, kl _ (by omega) (by omega)]; exact rr_m q i (by omega)
        · rw [if_neg e, kr _ (by omega) (by omega), show 12 + 3 * i + 3 = 12 + 3 * (i + 1) from by omega]; exact rr_m q (i + 1) (by omega)
      · have hi2 : i < a 0 0 - 1 := hi
        show _ = nI (if i < s then a 2 i else a 2 (i + 1))
        by_cases e : i < s
        · rw [if_pos e, kl _ (by omega) (by omega)]; exact rr_c q i (by omega)
        · rw [if_neg e, kr _ (by omega) (by omega), show 12 + 3 * i + 1 + 3 = 12 + 3 * (i + 1) + 1 from by omega]; exact rr_c q (i + 1) (by omega)
      · have hi2 : i < a 0 0 - 1 := hi
        show _ = nI (if i < s then a 3 i else a 3 (i + 1))
        by_cases e : i < s
        · rw [if_pos e, kl _ (by omega) (by omega)]; exact rr_w q i (by omega)
        · rw [if_neg e, kr _ (by omega) (by omega), show 12 + 3 * i + 2 + 3 = 12 + 3 * (i + 1) + 2 from by omega]; exact rr_w q (i + 1) (by omega)
      · rw [ko _ (by omega) (by omega) (by omega) (by omega)]; exact (rr_z q i hi :)
      · have hk2 : k < (goL a s).length := hk
        rw [f4 _ (by omega)]
        have := (p3 k hk2).1
        rw [Nat.sub_self, Nat.zero_add] at this
        exact this
      · have hk2 : k < (goL a s).length := hk
        rw [f4 _ (by omega)]
        have := (p3 k hk2).2.1
        rw [Nat.sub_self, Nat.zero_add] at this
        exact this
      · have hk2 : k < (goL a s).length := hk
        rw [f4 _ (by omega)]
        have := (p3 k hk2).2.2
        rw [Nat.sub_self, Nat.zero_add] at this
        exact this
    refine ⟨(nI (a 0 0 - 1), v'), ?_, rfl, fin, fun b hb => ?_⟩
    · show fX8_goes_44 (n + 1) (nI s) (nI (a 0 3 - a 0 3) - 1) st = _
      rw [Nat.sub_self, fX8_goes_44, if_pos (by decide), a0, Option.bind_some, f0]
    · show v' b = v b
      rw [f5 b hb, p5 b hb]
      exact if_neg hb
  · rw [up2_r, upd_ne (by omega), upd_ne (by omega), upd_ne (by omega)]
    exact ⟨rr_s q j hj, rr_t q j hj, rr_f q j hj⟩
end
