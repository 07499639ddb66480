section
variable {B : Nat} {a : mA}
theorem ps_row3 {f : Nat → Int32} {g g' : Nat → Nat} {N i c : Nat} (h : ∀ k, k < N → f (c + 3 * k) = nI (if k < i then g' k else g k)) (f' : Nat → Int32) (h1 : f' (c + 3 * i) = nI (g' i)) (h2 : ∀ k, k < N → k ≠ i → f' (c + 3 * k) = f (c + 3 * k)) : ∀ k, k < N → f' (c + 3 * k) = nI (if k < i + 1 then g' k else g k) := by
  intro k hk
  by_cases e : k = i
  · rw [e, h1, if_pos (by omega)]
  · rw [h2 k hk e, h k hk]
    by_cases e2 : k < i
    · rw [if_pos e2, if_pos (by omega)]
    · rw [if_neg e2, if_neg (by omega)]
theorem rq_p40 (w : WF B a) {K : Int32 → vS → Option (Int32 × vS)} {st : vS} {i d l : Nat} (hi : i < a 0 0) (v1 : st 1 (12 + 3 * i) = nI (a 1 i)) (v2 : st 1 (12 + 3 * i + 1) = nI (a 2 i)) (v3 : st 1 (12 + 3 * i + 2) = nI (a 3 i)) (v6 : st 1 1 = nI (a 0 1 + 1)) (v13 : st 1 6 = nI d) (hl : l ≤ a 2 i) : ∃ st', fX8_passes_40 K (nI i) (nI l) st = K (nI (i + 1)) st' ∧ st' 1 = upd (upd (upd (upd (st 1) (12 + 3 * i) (nI (rot1 (a 1 i)))) (12 + 3 * i + 1) (nI (a 2 i - l))) 6 (nI (d + l))) (12 + 3 * i + 2) (nI (if (a 0 1 + 1) % 4 = 0 then (a 3 i + 1) % 4 else a 3 i)) ∧ ∀ b, b ≠ 1 → st' b = st b := by
  have hn := wf_n w
  have hh := wf_h w
  have h1 := wf_s w i hi
  have et : fX8_turned (nI (a 1 i)) = some (nI (rot1 (a 1 i))) := rq_turned h1.1
  have ub : ∀ (s : vS) (k : Nat) (x : Int32) b, b ≠ 1 → up2 s 1 k x b = s b := fun s k x b hb => if_neg hb
  have cl : ∀ k, k < 66 → Int32.toNatClampNeg (nI k) = k := fun k hk => nJ_clamp (by omega)
  have i0 : ∀ k, k < 66 → ¬ (nI k < 0 ∨ 66 ≤ Int32.toNatClampNeg (nI k)) := fun k hk => (nJ_in (n := 66) hk (by omega)).mp
  have a0 : fX8_at (nI i) 0 = some (nI (12 + 3 * i)) := by simp (disch := omega) only [fX8_at, lits, nJ_le, nJ_lt, nJ_eq, nJ_clamp, nJ_add, nI_mul, nI_sub, nI_and, nI_or, nI_xor, Nat.add_zero, Nat.not_lt_zero, leF, leT, ltF, ltT, eqF, eqT, bd, obp_some, Option.bind_some, reduceIte, reduceCtorEq, or_self, or_true, true_or, or_false, false_or]
  have a1 : fX8_at (nI i) 1 = some (nI (12 + 3 * i + 1)) := by simp (disch := omega) only [fX8_at, lits, nJ_le, nJ_lt, nJ_eq, nJ_clamp, nJ_add, nI_mul, nI_sub, nI_and, nI_or, nI_xor, Nat.add_zero, Nat.not_lt_zero, leF, leT, ltF, ltT, eqF, eqT, bd, obp_some, Option.bind_some, reduceIte, reduceCtorEq, or_self, or_true, true_or, or_false, false_or]
  have a2 : fX8_at (nI i) 2 = some (nI (12 + 3 * i + 2)) := by simp (disch := omega) only [fX8_at, lits, nJ_le, nJ_lt, nJ_eq, nJ_clamp, nJ_add, nI_mul, nI_sub, nI_and, nI_or, nI_xor, Nat.add_zero, Nat.not_lt_zero, leF, leT, ltF, ltT, eqF, eqT, bd, obp_some, Option.bind_some, reduceIte, reduceCtorEq, or_self, or_true, true_or, or_false, false_or]
  have l4 : (4 : Int32) = nI 4 := rfl
  have hm : (a 0 1 + 1) % 4 < 4 := Nat.mod_lt _ (by omega)
  have w1 : up2 st 1 (12 + 3 * i) (nI (rot1 (a 1 i))) 1 (12 + 3 * i + 1) = nI (a 2 i) := by
    rw [up2_r, upd_ne (by omega), v2]
  have w2 : up2 (up2 st 1 (12 + 3 * i) (nI (rot1 (a 1 i)))) 1 (12 + 3 * i + 1) (nI (a 2 i - l)) 1 6 = nI d := by
    rw [up2_r, upd_ne (by omega), up2_r, upd_ne (by omega), v13]
  have w3 : up2 (up2 (up2 st 1 (12 + 3 * i) (nI (rot1 (a 1 i)))) 1 (12 + 3 * i + 1) (nI (a 2 i - l))) 1 6 (nI (d + l)) 1 1 = nI (a 0 1 + 1) := by
    rw [up2_r, upd_ne (by omega), up2_r, upd_ne (by omega), up2_r, upd_ne (by omega), v6]
  have w4 : up2 (up2 (up2 st 1 (12 + 3 * i) (nI (rot1 (a 1 i)))) 1 (12 + 3 * i + 1) (nI (a 2 i - l))) 1 6 (nI (d + l)) 1 (12 + 3 * i + 2) = nI (a 3 i) := by
    rw [up2_r, upd_ne (by omega), up2_r, upd_ne (by omega), up2_r, upd_ne (by omega), v3]
  rw [fX8_passes_40, a0, Option.bind_some, Option.bind_some, if_neg (i0 _ (by omega)), cl _ (by omega), v1, et, Option.bind_some, if_neg (by rw [← cl (12 + 3 * i) (by omega)] ; rw [cl (12 + 3 * i) (by omega)]; have := i0 (12 + 3 * i) (by omega); rw [cl (12 + 3 * i) (by omega)] at this; exact this)]
  dsimp only [bd]
  rw [a1, Option.bind_some, if_neg (i0 _ (by omega)), if_neg (i0 _ (by omega)), cl _ (by omega), w1, nI_sub hl, w2, nJ_add, w3, l4, nI_mod (a := a 0 1 + 1) (b := 4) (by omega) (by omega)]
  by_cases w0 : (a 0 1 + 1) % 4 = 0
  · rw [if_pos (by rw [w0]; rfl), a2, Option.bind_some, Option.bind_some, if_neg (i0 _ (by omega)), if_neg (i0 _ (by omega)), cl _ (by omega), w4, l32_1, nJ_add i 1, nJ_add (a 3 i) 1, nI_mod (a := a 3 i + 1) (b := 4) (by omega) (by omega)]
    refine ⟨_, rfl, ?_, fun b hb => ?_⟩
    · rw [if_pos w0]; rfl
    · rw [ub _ _ _ _ hb, ub _ _ _ _ hb, ub _ _ _ _ hb, ub _ _ _ _ hb]
  · rw [if_neg (by rw [l32_0, nJ_eq (by omega) (by omega)]; exact w0), l32_1, nJ_add]
    refine ⟨_, rfl, ?_, fun b hb => ?_⟩
    · rw [if_neg w0]
      exact (upd_self w4).symm
    · rw [ub _ _ _ _ hb, ub _ _ _ _ hb, ub _ _ _ _ hb]
theorem rq_passStep (w : WF B a) {st : vS} {i : Nat} (hi : i < a 0 0) (q : RR (psM a i) (st 1)) (n : Nat) : ∃ st', fX8_passes_12 (n + 1) (nI i) st = fX8_passes_12 n (nI (i + 1)) st' ∧ RR (psM a (i + 1)) (st' 1) ∧ ∀ b, b ≠ 1 → st' b = st b := by
  have hn := wf_n w
  have hh := wf_h w
  have hl := wf_l w
  have h1 := wf_s w i hi
  have v1 : st 1 (12 + 3 * i) = nI (a 1 i) := by
    rw [rr_m q i hi]
    show nI (if i < i then _ else _) = _
    rw [if_neg (Nat.lt_irrefl i)]
  have v2 : st 1 (12 + 3 * i + 1) = nI (a 2 i) := by
    rw [rr_c q i hi]
    show nI (if i < i then _ else _) = _
    rw [if_neg (Nat.lt_irrefl i)]
  have v3 : st 1 (12 + 3 * i + 2) = nI (a 3 i) := by
    rw [rr_w q i hi]
    show nI (if i < i then _ else _) = _
    rw [if_neg (Nat.lt_irrefl i)]
  have v0 : st 1 0 = nI (a 0 0) := (rr_n q :)
  have v6 : st 1 1 = nI (a 0 1 + 1) := (rr_h q :)
  have v13 : st 1 6 = nI (a 0 6 + sumN i (fun i => if 0 < a 2 i then 1 else 0)) := (rr_k6 q :)
  have fin : ∀ st' : vS, st' 1 = upd (upd (upd (upd (st 1) (12 + 3 * i) (nI (rot1 (a 1 i)))) (12 + 3 * i + 1) (nI (a 2 i - 1))) 6 (nI (a 0 6 + sumN (i + 1) (fun i => if 0 < a 2 i then 1 else 0)))) (12 + 3 * i + 2) (nI (if (a 0 1 + 1) % 4 = 0 then (a 3 i + 1) % 4 else a 3 i)) → RR (psM a (i + 1)) (st' 1) := by
    intro st' h0
    rw [h0]
    have ko : ∀ j, j ≠ 12 + 3 * i → j ≠ 12 + 3 * i + 1 → j ≠ 12 + 3 * i + 2 → j ≠ 6 → upd (upd (upd (upd (st 1) (12 + 3 * i) (nI (rot1 (a 1 i)))) (12 + 3 * i + 1) (nI (a 2 i - 1))) 6 (nI (a 0 6 + sumN (i + 1) (fun i => if 0 < a 2 i then 1 else 0)))) (12 + 3 * i + 2) (nI (if (a 0 1 + 1) % 4 = 0 then (a 3 i + 1) % 4 else a 3 i)) j = st 1 j := by
      intro j h1 h2 h3 h4
      rw [upd_ne h3, upd_ne h4, upd_ne h2, upd_ne h1]
    refine ⟨⟨?_, ?_, ?_, ?_⟩, ⟨?_, ?_, ?_, ?_⟩, ?_, fun k hk => ?_, fun k hk => ?_, fun k hk => ?_, fun k hk => ?_, fun k hk => ?_, fun k hk => ?_⟩
    · rw [ko _ (by omega) (by omega) (by omega) (by omega)]; exact (rr_n q :)
    · rw [ko _ (by omega) (by omega) (by omega) (by omega)]; exact (rr_e q :)
    · rw [ko _ (by omega) (by omega) (by omega) (by omega)]; exact (rr_h q :)
    · rw [ko _ (by omega) (by omega) (by omega) (by omega)]; exact (rr_l q :)
    · rw [ko _ (by omega) (by omega) (by omega) (by omega)]; exact (rr_k4 q :)
    · rw [ko _ (by omega) (by omega) (by omega) (by omega)]; exact (rr_k5 q :)
    · rw [upd_ne (by omega), upd_eq rfl]; rfl
    · rw [ko _ (by omega) (by omega) (by omega) (by omega)]; exact (rr_k7 q :)
    · refine ps_row3 (c := 12) (g := a 1) (g' := fun k => rot1 (a 1 k)) (rr_m q) _ ?_ (fun k _ hk => ko _ (by omega) (by omega) (by omega) (by omega))
      rw [upd_ne (by omega), upd_ne (by omega), upd_ne (by omega), upd_eq rfl]
    · have hk2 : k < a 0 0 := hk
      show _ = nI (if k < i + 1 then a 2 k - 1 else a 2 k)
      by_cases e : k = i
      · rw [e, if_pos (Nat.lt_succ_self i), upd_ne (by omega), upd_ne (by omega), upd_eq rfl]
      · rw [ko _ (by omega) (by omega) (by omega) (by omega), rr_c q k hk2]
        show nI (if k < i then a 2 k - 1 else a 2 k) = _
        by_cases e2 : k < i
        · rw [if_pos e2, if_pos (by omega)]
        · rw [if_neg e2, if_neg (by omega)]
    · have hk2 : k < a 0 0 := hk
      show _ = nI (if k < i + 1 then (if (a 0 1 + 1) % 4 = 0 then (a 3 k + 1) % 4 else a 3 k) else a 3 k)
      by_cases e : k = i
      · rw [e, if_pos (Nat.lt_succ_self i), upd_eq rfl]
      · rw [ko _ (by omega) (by omega) (by omega) (by omega), rr_w q k hk2]
        show nI (if k < i then (if (a 0 1 + 1) % 4 = 0 then (a 3 k + 1) % 4 else a 3 k) else a 3 k) = _
        by_cases e2 : k < i
        · rw [if_pos e2, if_pos (show k < i + 1 by omega)]
        · rw [if_neg e2, if_neg (show ¬ k < i + 1 by omega)]
    · rw [ko _ (by omega) (by omega) (by omega) (by omega)]; exact (rr_z q k hk :)
    · rw [ko _ (by omega) (by omega) (by omega) (by omega)]; exact (rr_s q k hk :)
    · rw [ko _ (by omega) (by omega) (by omega) (by omega)]; exact (rr_t q k hk :)
    · rw [ko _ (by omega) (by omega) (by omega) (by omega)]; exact (rr_f q k hk :)
  have et : fX8_turned (nI (a 1 i)) = some (nI (rot1 (a 1 i))) := rq_turned h1.1
  have eS : sumN (i + 1) (fun i => if 0 < a 2 i then 1 else 0) = sumN i (fun i => if 0 < a 2 i then 1 else 0) + (if 0 < a 2 i then 1 else 0) := rfl
  have ub : ∀ (s : vS) (k : Nat) (x : Int32) b, b ≠ 1 → up2 s 1 k x b = s b := fun s k x b hb => if_neg hb
  have c0 : st 1 0 = nI (a 0 0) := v0
  have i0 : ¬ st 1 0 ≤ nI i := by rw [v0, nJ_le (by omega) (by omega)]; omega
  have ei : Int32.toNatClampNeg (nI (12 + 3 * i + 1)) = 12 + 3 * i + 1 := nJ_clamp (by omega)
  have i1 : ¬ (nI (12 + 3 * i + 1) < 0 ∨ 66 ≤ Int32.toNatClampNeg (nI (12 + 3 * i + 1))) := (nJ_in (n := 66) (by omega) (by omega)).mp
  have ea : fX8_at (nI i) 1 = some (nI (12 + 3 * i + 1)) := by
    simp (disch := omega) only [fX8_at, lits, nJ_le, nJ_lt, nJ_eq, nJ_clamp, nJ_add, nI_mul, nI_sub, nI_and, nI_or, nI_xor, Nat.add_zero, Nat.not_lt_zero, leF, leT, ltF, ltT, eqF, eqT, bd, obp_some, Option.bind_some, reduceIte, reduceCtorEq, or_self, or_true, true_or, or_false, false_or]
  obtain ⟨st', e40, h1, h2⟩ := rq_p40 (K := fun a0 a1 => fX8_passes_12 n a0 a1) w hi v1 v2 v3 v6 v13 (l := if 0 < a 2 i then 1 else 0) (by split <;> omega)
  refine ⟨st', ?_, fin _ ?_, h2⟩
  · rw [← e40, fX8_passes_12, if_neg i0, ea, Option.bind_some, if_neg i1, ei, v2]
    by_cases c0 : 0 < a 2 i
    · have c1 : ¬ nI (a 2 i) ≤ 0 := by rw [l32_0, nJ_le (by omega) (by omega)]; omega
      rw [if_neg c1, if_pos c0]
      rfl
    · have c1 : nI (a 2 i) ≤ 0 := by rw [l32_0, nJ_le (by omega) (by omega)]; omega
      rw [if_pos c1, if_neg c0]
      rfl
  · rw [h1, eS]
    have ec : a 2 i - (if 0 < a 2 i then 1 else 0) = a 2 i - 1 := by split <;> omega
    rw [ec, Nat.add_assoc (a 0 6)]
theorem rq_passes (w : WF B a) (hB : B + 1 < 1000000000) {v : vS} (q : RR a (v 1)) : ∃ v', fX8_passes v = some (nI (sumN (a 0 0) (fun i => a 2 i - 1)), v') ∧ RR (passM a) (v' 1) ∧ ∀ b, b ≠ 1 → v' b = v b := by
  have hn := wf_n w
  have r0 : RR (psM a 0) (up2 v 1 1 (nI (a 0 1 + 1)) 1) := by
    have ko : ∀ j, j ≠ 1 → up2 v 1 1 (nI (a 0 1 + 1)) 1 j = v 1 j := fun j hj => upd_ne hj
    refine ⟨⟨(rr_n q :), (rr_e q :), rfl, (rr_l q :)⟩, ⟨(rr_k4 q :), (rr_k5 q :), (rr_k6 q :), (rr_k7 q :)⟩, fun i hi => ?_, fun i hi => ?_, fun i hi => ?_, fun i hi => ?_, fun i hi => ?_, fun i hi => ?_, fun i hi => ?_⟩
    · rw [ko _ (by omega)]
      show v 1 _ = nI (if i < 0 then rot1 (a 1 i) else a 1 i)
      rw [if_neg (Nat.not_lt_zero i)]
      exact rr_m q i hi
    · rw [ko _ (by omega)]
      show v 1 _ = nI (if i < 0 then a 2 i - 1 else a 2 i)
      rw [if_neg (Nat.not_lt_zero i)]
      exact rr_c q i hi
    · rw [ko _ (by omega)]
      show v 1 _ = nI (if i < 0 then (if (a 0 1 + 1) % 4 = 0 then (a 3 i + 1) % 4 else a 3 i) else a 3 i)
      rw [if_neg (Nat.not_lt_zero i)]
      exact rr_w q i hi
    · rw [ko _ (by omega)]; exact (rr_z q i hi :)
    · rw [ko _ (by omega)]; exact (rr_s q i hi :)
    · rw [ko _ (by omega)]; exact (rr_t q i hi :)
    · rw [ko _ (by omega)]; exact (rr_f q i hi :)
  rw [fX8_passes]
  dsimp only [bd]
  rw [rr_h q, l32_1, nJ_add]
  obtain ⟨y, e, h1, h2, h3⟩ := loop_rel (F := fun n i st => fX8_passes_12 n (nI i) st) (fun i st => RR (psM a i) (st 1) ∧ ∀ b, b ≠ 1 → st b = v b) (fun y => y.1 = nI (sumN (a 0 0) (fun i => a 2 i - 1)) ∧ RR (passM a) (y.2 1) ∧ ∀ b, b ≠ 1 → y.2 b = v b) (a 0 0) 1 (fun n i st hi hP => by
    obtain ⟨st', e, h1, h2⟩ := rq_passStep w hi hP.1 n
    exact ⟨st', e, h1, fun b hb => by rw [h2 b hb, hP.2 b hb]⟩) (fun n st hn2 hP => by
    obtain ⟨n, rfl⟩ : ∃ m, n = m + 1 := ⟨n - 1, by omega⟩
    have v0 : st 1 0 = nI (a 0 0) := (rr_n hP.1 :)
    have ea : fX8_allRum st = some (nI (sumN (passM a 0 0) (passM a 2)), st) := rq_allRum (wf_pass w hB) hP.1
    have es : sumN (passM a 0 0) (passM a 2) = sumN (a 0 0) (fun i => a 2 i - 1) := sumN_congr (N := a 0 0) (fun i hi => if_pos hi)
    refine ⟨(nI (sumN (a 0 0) (fun i => a 2 i - 1)), st), ?_, rfl, hP⟩
    show fX8_passes_12 (n + 1) (nI (a 0 0)) st = _
    rw [fX8_passes_12, v0, if_pos (Int32.le_refl _), ea, obp_some, es]) vF 0 _ (by omega) (by unfold vF; omega) ⟨r0, fun b hb => if_neg hb⟩
  refine ⟨y.2, ?_, h2, h3⟩
  rw [← h1]
  exact e
end
