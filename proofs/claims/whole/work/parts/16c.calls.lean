/-- a call that both sides answer alike, and hold the same after it -/
def SIM {R : Type} (B : Nat) (f7 : Option (R × vZ)) (f8 : Option (R × vS)) : Prop := ∃ r a u v, f7 = some (r, u) ∧ f8 = some (r, v) ∧ RLs B a u v
theorem rl_up {B B' : Nat} {a : mA} {u : vZ} {v : vS} (R : RLs B a u v) (hB : B ≤ B') (hB' : B' < 1000000000) : RLs B' a u v := by
  obtain ⟨⟨w, r, q⟩, ⟨n, hs, c1, c2⟩, g1, g2, g3, g4, g5, g6⟩ := R
  exact ⟨⟨wf_up w hB hB', r, q⟩, ⟨n, hs, c1, rhr_up c2 hB hB'⟩, rv_up g1 hB hB', g2, g3, g4, g5, g6⟩
theorem qs_sim {R : Type} {B : Nat} {a : mA} {u : vZ} {v : vS} {f7 : Option (R × vZ)} {f8 : Option (R × vS)} (L : RLs B a u v) (h : QS f7 f8 u v) : SIM B f7 f8 := by
  obtain ⟨r, h1, h2⟩ := h
  exact ⟨r, a, u, v, h1, h2, L⟩
section
variable {B : Nat} {a : mA} {u : vZ} {v : vS}
theorem s_sail (R : RLs B a u v) (x : Int32) : SIM B (fX7_sail x u) (fX8_sail x v) := op_sim R (Nat.le_refl B) (wf_h R.1.1).2 (cm_0 R.1.1 x)
theorem s_shore (R : RLs B a u v) (x : Int32) : SIM B (fX7_shore x u) (fX8_shore x v) := op_sim R (Nat.le_refl B) (wf_h R.1.1).2 (cm_1 R.1.1 x)
theorem s_mood (R : RLs B a u v) (x y : Int32) : SIM B (fX7_mood x y u) (fX8_mood x y v) := op_sim R (Nat.le_refl B) (wf_h R.1.1).2 (cm_3 R.1.1 x y)
theorem s_rum (R : RLs B a u v) (x y : Int32) : SIM B (fX7_rum x y u) (fX8_rum x y v) := op_sim R (Nat.le_refl B) (wf_h R.1.1).2 (cm_4 R.1.1 x y)
theorem s_watch (R : RLs B a u v) (x y : Int32) : SIM B (fX7_watch x y u) (fX8_watch x y v) := op_sim R (Nat.le_refl B) (wf_h R.1.1).2 (cm_5 R.1.1 x y)
theorem s_horizon (R : RLs B a u v) (x y : Int32) : SIM B (fX7_horizon x y u) (fX8_horizon x y v) := op_sim R (Nat.le_refl B) (wf_h R.1.1).2 (cm_6 R.1.1 x y)
theorem s_error (R : RLs B a u v) (x : Int32) : SIM B (fX7_error x u) (fX8_error x v) := op_sim R (Nat.le_refl B) (wf_h R.1.1).2 (cm_7 R.1.1 x)
theorem s_sight (R : RLs B a u v) (x : Int32) : SIM B (fX7_sight x u) (fX8_sight x v) := op_sim R (Nat.le_refl B) (wf_h R.1.1).2 (cm_2 R.1.1 x)
theorem s_hour (R : RLs B a u v) (hB : B + 1 < 1000000000) : SIM (B + 1) (fX7_hour u) (fX8_hour v) := op_sim R (Nat.le_succ B) hB (cm_9 R.1.1 hB)
theorem s_undo (R : RLs B a u v) : SIM B (fX7_undo u) (fX8_undo v) := by
  obtain ⟨⟨w, r, q⟩, ⟨n, hs, ⟨hn, c2, x, hx, c1, cR⟩, cr1, cr2⟩, g1, g2, g3, g4, g5, g6⟩ := R
  by_cases e : n = 0
  · have R : RLs B a u v := ⟨⟨w, r, q⟩, ⟨n, hs, ⟨hn, c2, x, hx, c1, cR⟩, cr1, cr2⟩, g1, g2, g3, g4, g5, g6⟩
    refine ⟨-100003, a, u, v, ?_, ?_, R⟩
    · rw [fX7_undo, fX2_takeBack, if_pos (by rw [c2, e]; rfl), obp_some]
      rfl
    · rw [fX8_undo, if_pos (by rw [cr1, e]; rfl)]
  · have hne : ¬ nI n = 0 := by rw [l32_0, nJ_eq (by omega) (by omega)]; exact e
    obtain ⟨d', ed, hd⟩ := xq_copy u.2.1.1 (u.2.1.2.2 ((x + 7) % 8))
    obtain ⟨w0, q0⟩ := cr2 0 (by omega)
    have r0 := cR 0 (by omega)
    rw [Nat.sub_zero] at r0
    have hi : ¬ (nI ((x + 7) % 8) < 0 ∨ 8 ≤ Int32.toNatClampNeg (nI ((x + 7) % 8))) := (nJ_in (n := 8) (by omega) (by omega)).mp
    have t28 : fX2_takeBack_28 (nI ((x + 7) % 8)) u.2.1 = some (1, (d', (upd (upd u.2.1.2.1 1 (nI ((x + 7) % 8))) 2 (nI (n - 1)), va_up u.2.1.2.2 ((x + 7) % 8) (u.2.1.2.2 ((x + 7) % 8))))) := by
      have c2' : (upd u.2.1.2.1 1 (nI ((x + 7) % 8))) 2 = nI n := by rw [upd_ne (by omega)]; exact c2
      have c1' : (upd (upd u.2.1.2.1 1 (nI ((x + 7) % 8))) 2 (nI (n - 1))) 1 = nI ((x + 7) % 8) := rfl
      rw [fX2_takeBack_28]
      dsimp only [bd]
      rw [c2', l32_1, nI_sub (by omega)]
      show (if nI ((x + 7) % 8) < 0 ∨ 8 ≤ Int32.toNatClampNeg (nI ((x + 7) % 8)) then none else (fX5_copyFrom (u.2.1.1, u.2.1.2.2 (Int32.toNatClampNeg (nI ((x + 7) % 8))))).bind _) = _
      rw [if_neg hi, nJ_clamp (by omega), ed, Option.bind_some]
      show some (nI 1, (d', (_, va_up u.2.1.2.2 (Int32.toNatClampNeg (nI ((x + 7) % 8))) _))) = _
      rw [nJ_clamp (by omega)]
    have tb : fX2_takeBack u.2.1 = fX2_takeBack_28 (nI ((x + 7) % 8)) u.2.1 := by
      have h2 : ¬ u.2.1.2.1 2 = 0 := by rw [c2]; exact hne
      rw [fX2_takeBack, if_neg h2]
      by_cases ex : x = 0
      · have h1 : u.2.1.2.1 1 ≤ 0 := by rw [c1, ex]; decide
        rw [if_pos h1, ex]
        rfl
      · have h1 : ¬ u.2.1.2.1 1 ≤ 0 := by rw [c1, l32_0, nJ_le (by omega) (by omega)]; omega
        rw [if_neg h1, c1, l32_1, nI_sub (by omega), show (x + 7) % 8 = x - 1 from by omega]
    refine ⟨nI (n - 1), hs 0, (u.1, ((d', (upd (upd u.2.1.2.1 1 (nI ((x + 7) % 8))) 2 (nI (n - 1)), va_up u.2.1.2.2 ((x + 7) % 8) (u.2.1.2.2 ((x + 7) % 8)))), u.2.2)), pullS (up2 v 0 1 (nI (n - 1))) (66 * (n - 1)) 66, ?_, ?_, ⟨w0, hd _ (wf_n w0) (wf_l w0) r0, ?_⟩, ⟨n - 1, fun j => hs (j + 1), ⟨by omega, rfl, (x + 7) % 8, by omega, rfl, fun j hj => ?_⟩, rfl, fun j hj => ?_⟩, g1, g2, g3, g4, g5, g6⟩
    · rw [fX7_undo, tb, t28, obp_some]
      dsimp only [bd]
      rw [if_neg (by decide)]
      rfl
    · rw [fX8_undo, if_neg (by rw [cr1]; exact hne), cr1, l32_1, nI_sub (by omega)]
      dsimp only [bd]
      exact rl_undo _ (c := n - 1) (by omega) rfl
    · refine rr_congr (wf_n w0) (wf_l w0) (fun k hk => ?_) q0
      show (if k < 66 then v 5 (66 * (n - 1) + k) else _) = _
      rw [if_pos hk, Nat.sub_zero]
    · have := cR (j + 1) (by omega)
      show RX (hs (j + 1)) (va_up u.2.1.2.2 ((x + 7) % 8) (u.2.1.2.2 ((x + 7) % 8)) (((x + 7) % 8 + 7 - j) % 8))
      unfold va_up
      rw [if_neg (by omega), show ((x + 7) % 8 + 7 - j) % 8 = (x + 7 - (j + 1)) % 8 from by omega]
      exact this
    · obtain ⟨w1, q1⟩ := cr2 (j + 1) (by omega)
      refine ⟨w1, ?_⟩
      show RR (hs (j + 1)) (fun k => v 5 (66 * (n - 1 - 1 - j) + k))
      rw [show n - 1 - 1 - j = n - 1 - (j + 1) from by omega]
      exact q1
theorem s_save (R : RLs B a u v) : SIM B (fX7_save u) (fX8_save v) := by
  obtain ⟨⟨w, r, q⟩, h, g1, g2, g3, g4, g5, g6⟩ := R
  obtain ⟨d', ed, hd⟩ := xq_copy u.2.2.2.1 u.2.1.1
  refine ⟨nI (a 0 0), a, (upd u.1 7 1, (u.2.1, (u.2.2.1, (d', u.2.2.2.2)))), up2 (cpS v 3 1 66) 0 7 1, ?_, ?_, ⟨w, r, q⟩, h, Or.inr ⟨rfl, rfl, a, w, hd a (wf_n w) (wf_l w) r, ?_⟩, g2, g3, g4, g5, g6⟩
  · rw [fX7_save, ed, Option.bind_some]
    dsimp only [bd, peta]
    rw [rx_n r]
  · rw [fX8_save, rl_31, Option.bind_some]
    dsimp only [bd]
    rw [show up2 (cpS v 3 1 66) 0 7 1 1 0 = nI (a 0 0) from rr_n q]
  · refine rr_congr (wf_n w) (wf_l w) (fun k hk => ?_) q
    show (if k < 66 then v 1 k else _) = _
    rw [if_pos hk]
theorem s_restore (R : RLs B a u v) : SIM B (fX7_restore u) (fX8_restore v) := by
  have R0 := R
  obtain ⟨⟨w, r, q⟩, ⟨n, hs, ⟨hn, c2, x, hx, c1, cR⟩, cr1, cr2⟩, g1, g2, g3, g4, g5, g6⟩ := R
  rcases g1 with ⟨s1, s2⟩ | ⟨s1, s2, sv, sw, sr, sq⟩
  · refine ⟨-100003, a, u, v, ?_, ?_, R0⟩
    · rw [fX7_restore, if_pos (by rw [s1]; rfl)]
    · rw [fX8_restore, if_pos (by rw [s2]; rfl)]
  · obtain ⟨d', ed, hd⟩ := xq_copy u.2.1.1 u.2.2.2.1
    have rs := hd sv (wf_n sw) (wf_l sw) sr
    have qs : RR sv (cpS v 1 3 66 1) := by
      refine rr_congr (wf_n sw) (wf_l sw) (fun k hk => ?_) sq
      show (if k < 66 then v 3 k else _) = _
      rw [if_pos hk]
    refine ⟨nI (sv 0 0), sv, (u.1, ((d', (upd u.2.1.2.1 2 0, u.2.1.2.2)), (u.2.2.1, (u.2.2.2.1, u.2.2.2.2)))), up2 (cpS v 1 3 66) 0 1 0, ?_, ?_, ⟨sw, rs, qs⟩, ⟨0, hs, ⟨by omega, rfl, x, hx, c1, fun j hj => absurd hj (Nat.not_lt_zero j)⟩, rfl, fun j hj => absurd hj (Nat.not_lt_zero j)⟩, Or.inr ⟨s1, s2, sv, sw, sr, sq⟩, g2, g3, g4, g5, g6⟩
    · rw [fX7_restore, if_neg (by rw [s1]; decide), ed, Option.bind_some]
      dsimp only [bd]
      rw [fX2_forget]
      dsimp only [bd]
      rw [Option.bind_some, rx_n rs]
    · rw [fX8_restore, if_neg (by rw [s2]; decide), rl_13, Option.bind_some]
      dsimp only [bd]
      rw [show up2 (cpS v 1 3 66) 0 1 0 1 0 = nI (sv 0 0) from rr_n qs]
theorem q_fault (R : RLs B a u v) : QS (fX7_fault u) (fX8_fault v) u v := by
  obtain ⟨_, _, _, _, _, _, g5, _⟩ := R
  rcases g5 with ⟨h1, h2⟩ | ⟨h1, k, hk, h2, h3⟩
  · refine ⟨-100003, ?_, ?_⟩
    · rw [fX7_fault, if_pos (by rw [h1]; rfl)]
    · rw [fX8_fault, if_neg (by rw [h2]; decide)]
  · refine ⟨nI k, ?_, ?_⟩
    · rw [fX7_fault, if_neg (by rw [h1]; decide), h2]
    · rw [fX8_fault, if_pos (by rw [h3, l32_0, nJ_le (by omega) (by omega)]; omega), h3]
theorem q_reason (R : RLs B a u v) (x y : Int32) : QS (fX7_reason x y u) (fX8_reason x y v) u v := by
  obtain ⟨_, _, _, g2, _, _, _, _⟩ := R
  rcases i32_cases x 2 (by omega) with ⟨k, hk, rfl⟩ | hx
  · have i1 : fX8_isIn (nI k) 0 1 = some (nI 1) := by simp (disch := omega) only [fX8_isIn, lits, nJ_le, nJ_lt, nJ_eq, nJ_clamp, nJ_add, nI_mul, nI_sub, nI_and, nI_or, nI_xor, Nat.add_zero, Nat.not_lt_zero, leF, leT, ltF, ltT, eqF, eqT, bd, obp_some, Option.bind_some, reduceIte, reduceCtorEq, or_self, or_true, true_or, or_false, false_or]
    have j1 : ¬ nI k < 0 := nI_neg0 (by omega)
    have j2 : nI k ≤ 1 := (nJ_le (b := 1) (by omega) (by omega)).mpr (by omega)
    have j3 : ¬ (nI k < 0 ∨ 2 ≤ Int32.toNatClampNeg (nI k)) := (nJ_in (n := 2) hk (by omega)).mp
    have c7 : ∀ z, (if u.2.2.2.2.1 0 2 = 0 then some ((-100003 : Int32), u) else (if nI k < u.2.2.2.2.1 0 2 then (if y = 0 then some (u.2.2.2.2.1 1 k, u) else some (u.2.2.2.2.1 2 k, u)) else some ((-100006 : Int32), u))) = some (z, u) → fX7_reason (nI k) y u = some (z, u) := by
      intro z hz
      rw [fX7_reason, if_neg j1, if_pos j2, if_neg j3, if_neg j3, nJ_clamp (by omega)]
      exact hz
    have c8 : ∀ z, (if v 0 2 = 0 then some ((-100003 : Int32), v) else (if nI k = 0 then (if y = 0 then some (v 0 2, v) else some (v 0 3, v)) else (if v 0 4 = 0 then some ((-100006 : Int32), v) else (if y = 0 then some (v 0 4, v) else some (v 0 5, v))))) = some (z, v) → fX8_reason (nI k) y v = some (z, v) := by
      intro z hz
      rw [fX8_reason, i1, Option.bind_some, if_neg (by decide)]
      exact hz
    have ck : k = 0 ∨ k = 1 := by omega
    rcases g2 with ⟨h1, h2⟩ | ⟨h1, h2, h3, h4, h5⟩ | ⟨h1, h2, h3, h4, h5, h6, h7⟩
    · exact ⟨-100003, c7 _ (by rw [if_pos (by rw [h1]; rfl)]), c8 _ (by rw [if_pos (by rw [h2]; rfl)])⟩
    · have d7 : ¬ u.2.2.2.2.1 0 2 = 0 := by rw [h1]; decide
      have d8 : ¬ v 0 2 = 0 := h2
      rcases ck with e | e
      · subst e
        refine ⟨if y = 0 then v 0 2 else v 0 3, c7 _ ?_, c8 _ ?_⟩
        · rw [if_neg d7, if_pos (by rw [h1]; decide), h3, h4]
          split <;> rfl
        · rw [if_neg d8, if_pos (by decide)]
          split <;> rfl
      · subst e
        refine ⟨-100006, c7 _ ?_, c8 _ ?_⟩
        · rw [if_neg d7, if_neg (by rw [h1]; decide)]
        · rw [if_neg d8, if_neg (by decide), if_pos (by rw [h5]; rfl)]
    · have d7 : ¬ u.2.2.2.2.1 0 2 = 0 := by rw [h1]; decide
      have d8 : ¬ v 0 2 = 0 := h2
      have d9 : ¬ v 0 4 = 0 := h3
      rcases ck with e | e
      · subst e
        refine ⟨if y = 0 then v 0 2 else v 0 3, c7 _ ?_, c8 _ ?_⟩
        · rw [if_neg d7, if_pos (by rw [h1]; decide), h4, h5]
          split <;> rfl
        · rw [if_neg d8, if_pos (by decide)]
          split <;> rfl
      · subst e
        refine ⟨if y = 0 then v 0 4 else v 0 5, c7 _ ?_, c8 _ ?_⟩
        · rw [if_neg d7, if_pos (by rw [h1]; decide), h6, h7]
          split <;> rfl
        · rw [if_neg d8, if_neg (by decide), if_neg d9]
          split <;> rfl
  · refine ⟨-100002, ?_, ?_⟩
    · rw [fX7_reason]
      rcases hx with h | h
      · exact if_pos h
      · by_cases h7 : x < 0
        · rw [if_pos h7]
        · rw [if_neg h7, if_neg]
          rw [Int32.not_le, l32_1, lt_le1 (by omega)]
          exact h
    · have e := in_no (n := 1) (by omega) hx
      rw [← l32_0, ← l32_1] at e
      rw [fX8_reason, e, Option.bind_some, if_pos rfl]
theorem q_written (R : RLs B a u v) (x : Int32) : QS (fX7_written x u) (fX8_written x v) u v := by
  obtain ⟨_, _, _, _, _, ⟨n, hn, h1, h2, h3⟩, _, _⟩ := R
  rcases i32_cases x n (by omega) with ⟨k, hk, rfl⟩ | hx
  · have j1 : ¬ nI k < 0 := nI_neg0 (by omega)
    have j3 : ¬ (nI k < 0 ∨ 140 ≤ Int32.toNatClampNeg (nI k)) := (nJ_in (n := 140) (by omega) (by omega)).mp
    refine ⟨v 7 k, ?_, ?_⟩
    · rw [fX7_written, if_neg j1, h1, if_neg (by rw [nJ_le (by omega) (by omega)]; omega), if_neg j3, nJ_clamp (by omega), h3 k hk]
    · have i1 : fX8_isIn (nI k) 0 (nI n - 1) = some (nI 1) := by simp (disch := omega) only [fX8_isIn, lits, nJ_le, nJ_lt, nJ_eq, nJ_clamp, nJ_add, nI_mul, nI_sub, nI_and, nI_or, nI_xor, Nat.add_zero, Nat.not_lt_zero, leF, leT, ltF, ltT, eqF, eqT, bd, obp_some, Option.bind_some, reduceIte, reduceCtorEq, or_self, or_true, true_or, or_false, false_or]
      rw [fX8_written, h2, i1, Option.bind_some, if_neg (by decide), if_neg j3, nJ_clamp (by omega)]
  · refine ⟨-100001, ?_, ?_⟩
    · rw [fX7_written, h1]
      rcases hx with h | h
      · exact if_pos h
      · rw [if_pos h, ite_self]
    · have e := in_no1 (n := n) (by omega) hx
      rw [← l32_0, ← l32_1] at e
      rw [fX8_written, h2, e, Option.bind_some, if_pos rfl]
theorem nar_char : ∀ c, c < 127 → vp_nar .char (nI c) = nI c := by decide +kernel
theorem s_append (R : RLs B a u v) (x : Int32) : SIM B (fX7_append x u) (fX8_append x v) := by
  have R0 := R
  obtain ⟨g0, h, g1, g2, ⟨n, hn, t1, t2, t3⟩, g4, g5, g6⟩ := R
  have l32 : (32 : Int32) = nI 32 := rfl
  have l126 : (126 : Int32) = nI 126 := rfl
  have l60 : (60 : Int32) = nI 60 := rfl
  by_cases hlo : x < 32
  · refine ⟨-100002, a, u, v, ?_, ?_, R0⟩
    · rw [fX7_append, if_pos hlo]
    · rw [fX8_append, fX8_isIn, if_pos hlo, Option.bind_some, if_pos rfl]
  by_cases hhi : x ≤ 126
  · obtain ⟨c, hc1, hc2, rfl⟩ : ∃ c, 32 ≤ c ∧ c ≤ 126 ∧ x = nI c := by
      rcases i32_cases x 127 (by omega) with ⟨c, hc, rfl⟩ | hx
      · refine ⟨c, ?_, by omega, rfl⟩
        rw [l32, nJ_lt (by omega) (by omega)] at hlo
        omega
      · rcases hx with h | h
        · exfalso
          apply hlo
          rw [Int32.lt_iff_toInt_lt] at h ⊢
          have e : (32 : Int32).toInt = 32 := by decide
          rw [nJ_toInt (by omega)] at h
          rw [e]
          omega
        · exfalso
          rw [Int32.le_iff_toInt_le] at h hhi
          have e : (126 : Int32).toInt = 126 := by decide
          rw [nJ_toInt (by omega)] at h
          rw [e] at hhi
          omega
    have i1 : fX8_isIn (nI c) 32 126 = some (nI 1) := by simp (disch := omega) only [fX8_isIn, lits, nJ_le, nJ_lt, nJ_eq, nJ_clamp, nJ_add, nI_mul, nI_sub, nI_and, nI_or, nI_xor, Nat.add_zero, Nat.not_lt_zero, leF, leT, ltF, ltT, eqF, eqT, bd, obp_some, Option.bind_some, reduceIte, reduceCtorEq, or_self, or_true, true_or, or_false, false_or]
    by_cases hf : n = 60
    · refine ⟨-100004, a, u, v, ?_, ?_, R0⟩
      · have e : fX6_add (nI c) u.2.2.2.2.2.1 = some (0, u.2.2.2.2.2.1) := by
          rw [fX6_add, t1, if_neg (by rw [l60, nJ_lt (by omega) (by omega)]; omega)]
        rw [fX7_append, if_neg hlo, if_pos hhi, e, obp_some]
        rfl
      · rw [fX8_append, i1, Option.bind_some, if_neg (by decide), if_pos (by rw [t2, hf]; rfl)]
    · have j3 : ¬ (nI n < 0 ∨ 60 ≤ Int32.toNatClampNeg (nI n)) := (nJ_in (n := 60) (by omega) (by omega)).mp
      refine ⟨nI (n + 1), a, (u.1, (u.2.1, (u.2.2.1, (u.2.2.2.1, (u.2.2.2.2.1, ((up2 (up2 u.2.2.2.2.2.1.1 1 n (nI c)) 0 1 (nI (n + 1)), u.2.2.2.2.2.1.2), u.2.2.2.2.2.2)))))), up2 (up2 v 6 n (nI c)) 0 18 (nI (n + 1)), ?_, ?_, g0, h, g1, g2, ⟨n + 1, by omega, rfl, rfl, fun i hi => ?_⟩, g4, g5, g6⟩
      · have e : fX6_add (nI c) u.2.2.2.2.2.1 = some (1, (up2 (up2 u.2.2.2.2.2.1.1 1 n (nI c)) 0 1 (nI (n + 1)), u.2.2.2.2.2.1.2)) := by
          rw [fX6_add, t1, if_pos (by rw [l60, nJ_lt (by omega) (by omega)]; omega), if_neg j3, nJ_clamp (by omega), nar_char c (by omega)]
          dsimp only [bd]
          rw [show up2 u.2.2.2.2.2.1.1 1 n (nI c) 0 1 = nI n from t1, l32_1, nJ_add]
        rw [fX7_append, if_neg hlo, if_pos hhi, e, obp_some]
        dsimp only [bd]
        rw [if_neg (by decide)]
        rfl
      · rw [fX8_append, i1, Option.bind_some, if_neg (by decide), if_neg (by rw [t2, l60, nJ_eq (by omega) (by omega)]; exact hf), t2, if_neg j3, nJ_clamp (by omega)]
        dsimp only [bd]
        rw [show up2 v 6 n (nI c) 0 18 = nI n from t2, l32_1, nJ_add]
        rfl
      · show ∃ c', 32 ≤ c' ∧ c' ≤ 126 ∧ upd (u.2.2.2.2.2.1.1 1) n (nI c) i = nI c' ∧ upd (v 6) n (nI c) i = nI c'
        by_cases e : i = n
        · exact ⟨c, hc1, hc2, upd_eq e, upd_eq e⟩
        · rw [upd_ne e, upd_ne e]
          exact t3 i (by omega)
  · refine ⟨-100002, a, u, v, ?_, ?_, R0⟩
    · rw [fX7_append, if_neg hlo, if_neg hhi]
    · rw [fX8_append, fX8_isIn, if_neg hlo, if_pos (by rw [← Int32.not_le]; exact hhi), Option.bind_some, if_pos rfl]
end
