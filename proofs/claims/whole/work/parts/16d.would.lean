def pIt : Nat → mA → mA
  | 0, a => a
  | k + 1, a => passM (pIt k a)
theorem pIt_wf {B : Nat} {a : mA} (w : WF B a) : ∀ k, B + k < 1000000000 → WF (B + k) (pIt k a) := by
  intro k
  induction k with
  | zero => intro _; exact w
  | succ k ih => intro h; exact wf_pass (ih (by omega)) h
theorem pIt_is (a : mA) : ∀ k, pIt k a 0 0 = a 0 0 ∧ pIt k a 0 1 = a 0 1 + k ∧ pIt k a 4 = a 4 ∧ ∀ s, s < a 0 0 → pIt k a 1 s = rotN k (a 1 s) ∧ pIt k a 2 s = a 2 s - k ∧ (a 3 s < 4 → pIt k a 3 s = (a 3 s + ((a 0 1 + k) / 4 - a 0 1 / 4)) % 4) := by
  intro k
  induction k with
  | zero =>
    refine ⟨rfl, rfl, rfl, fun s hs => ⟨rfl, rfl, fun h => ?_⟩⟩
    show a 3 s = _
    omega
  | succ k ih =>
    obtain ⟨i1, i2, i3, i4⟩ := ih
    refine ⟨i1, ?_, i3, fun s hs => ?_⟩
    · show pIt k a 0 1 + 1 = _
      omega
    · obtain ⟨j1, j2, j3⟩ := i4 s hs
      have hs2 : s < pIt k a 0 0 := by omega
      refine ⟨?_, ?_, fun h => ?_⟩
      · show (if s < pIt k a 0 0 then rot1 (pIt k a 1 s) else pIt k a 1 s) = _
        rw [if_pos hs2, j1]
        rfl
      · show (if s < pIt k a 0 0 then pIt k a 2 s - 1 else pIt k a 2 s) = _
        rw [if_pos hs2, j2]
        omega
      · show (if s < pIt k a 0 0 then (if (pIt k a 0 1 + 1) % 4 = 0 then (pIt k a 3 s + 1) % 4 else pIt k a 3 s) else pIt k a 3 s) = _
        rw [if_pos hs2, i2, j3 h]
        split <;> omega
theorem ang_pIt {B : Nat} {a : mA} (w : WF B a) {s : Nat} (hs : s < a 0 0) (h : Nat) : ang (pIt h a) s = angA a s h := by
  obtain ⟨i1, i2, i3, i4⟩ := pIt_is a h
  obtain ⟨j1, j2, j3⟩ := i4 s hs
  unfold ang angA
  rw [j1, j2, j3 (wf_s w s hs).2.2, i3]
section
variable {B : Nat} {a : mA} {u : vZ} {v : vS}
theorem rl_row4 (R : RLs B a u v) {v' : vS} (h1 : ∀ k, k < 66 → v' 1 k = v 1 k) (hb : ∀ b, b ≠ 1 → b ≠ 4 → v' b = v b) : RLs B a u v' := by
  obtain ⟨⟨w, r, q⟩, ⟨n, hs, c1, c2⟩, g1, g2, g3, g4, g5, g6⟩ := R
  have h0 := hb 0 (by omega) (by omega)
  have f : FRM v v' := ⟨hb 3 (by omega) (by omega), hb 6 (by omega) (by omega), hb 7 (by omega) (by omega), hb 9 (by omega) (by omega), hb 10 (by omega) (by omega), fun k _ => by rw [h0]⟩
  obtain ⟨k1, k2, k3, k4, k5⟩ := frm_rest f g1 g3 g4 g5 g6
  exact ⟨⟨w, r, rr_congr (wf_n w) (wf_l w) h1 q⟩, ⟨n, hs, c1, rhr_eq c2 (hb 5 (by omega) (by omega)) (by rw [h0])⟩, k1, re_eq g2 (by rw [h0]) (by rw [h0]) (by rw [h0]) (by rw [h0]), k2, k3, k4, k5⟩
theorem rq_would (R : RLs B a u v) (hB : B + 40 < 1000000000) {s h : Nat} (hs : s < a 0 0) (hh : h ≤ 40) : ∃ v', fX8_would (nI s) (nI h) v = some (iI (angA a s h), v') ∧ RLs B a u v' := by
  have w := R.1.1
  have q := R.1.2.2
  have hn := wf_n w
  have i1 : fX8_isIn (nI h) 0 40 = some (nI 1) := by simp (disch := omega) only [fX8_isIn, lits, nJ_le, nJ_lt, nJ_eq, nJ_clamp, nJ_add, nI_mul, nI_sub, nI_and, nI_or, nI_xor, Nat.add_zero, Nat.not_lt_zero, leF, leT, ltF, ltT, eqF, eqT, bd, obp_some, Option.bind_some, reduceIte, reduceCtorEq, or_self, or_true, true_or, or_false, false_or]
  have k4 : ∀ k, k < 66 → cpS v 4 1 66 4 k = v 1 k := by
    intro k hk
    show (if k < 66 then v 1 k else _) = _
    rw [if_pos hk]
  obtain ⟨y, e, h1, h2⟩ := loop_rel (F := fun n i (st : vS) => fX8_would_40 n (nI s) (nI h) (nI i) st) (fun i st => RR (pIt i a) (st 1) ∧ ∀ b, b ≠ 1 → st b = cpS v 4 1 66 b) (fun y => y.1 = iI (angA a s h) ∧ RLs B a u y.2) h 1 (fun n i st hi hP => by
    obtain ⟨p1, p2⟩ := hP
    obtain ⟨st', e, q1, q2⟩ := rq_passes (pIt_wf w i (by omega)) (by omega) p1
    refine ⟨st', ?_, q1, fun b hb => by rw [q2 b hb, p2 b hb]⟩
    show fX8_would_40 (n + 1) (nI s) (nI h) (nI i) st = _
    rw [fX8_would_40, if_neg (by rw [nJ_le (by omega) (by omega)]; omega), e, obp_some]
    dsimp only [bd]
    rw [l32_1, nJ_add]) (fun n st hn2 hP => by
    obtain ⟨n, rfl⟩ : ∃ m, n = m + 1 := ⟨n - 1, by omega⟩
    obtain ⟨p1, p2⟩ := hP
    have hs2 : s < pIt h a 0 0 := by rw [(pIt_is a h).1]; exact hs
    have ea := rq_angled (pIt_wf w h (by omega)) p1 hs2
    refine ⟨(iI (angA a s h), cpS st 1 4 66), ?_, rfl, rl_row4 R (fun k hk => ?_) (fun b hb hb2 => ?_)⟩
    · show fX8_would_40 (n + 1) (nI s) (nI h) (nI h) st = _
      rw [fX8_would_40, if_pos (Int32.le_refl _), ea, obp_some, rl_14, Option.bind_some, ang_pIt w hs]
    · show (if k < 66 then st 4 k else _) = _
      rw [if_pos hk, p2 4 (by omega), k4 k hk]
    · show cpS st 1 4 66 b = v b
      rw [show cpS st 1 4 66 b = st b from if_neg hb, p2 b hb]
      exact if_neg hb2) vF 0 (cpS v 4 1 66) (by omega) (by unfold vF; omega) ⟨q, fun b _ => rfl⟩
  refine ⟨y.2, ?_, h2⟩
  rw [fX8_would, rq_is w q hs, obp_some, if_neg (by decide), i1, Option.bind_some, if_neg (by decide), rl_41, Option.bind_some, ← h1]
  exact e
theorem s_would (R : RLs B a u v) (hB : B + 40 < 1000000000) (x y : Int32) : SIM B (fX7_would x y u) (fX8_would x y v) := by
  obtain ⟨w, r, q⟩ := R.1
  have hn := wf_n w
  have l40 : (40 : Int32) = nI 40 := rfl
  rcases i32_cases x (a 0 0) (by omega) with ⟨s, hs, rfl⟩ | hx
  · rcases i32_cases y 41 (by omega) with ⟨h, hh, rfl⟩ | hy
    · obtain ⟨v', e, R'⟩ := rq_would R hB hs (h := h) (by omega)
      refine ⟨iI (angA a s h), a, u, v', ?_, e, R'⟩
      rw [fX7_would, xq_has w r hs, obp_some]
      dsimp only [bd, peta]
      rw [if_neg (by decide), if_neg (nI_neg0 (by omega)), if_neg (by rw [l40, nJ_lt (by omega) (by omega)]; omega), xq_angle w r hs (by omega), obp_some]
    · refine ⟨-100002, a, u, v, ?_, ?_, R⟩
      · rw [fX7_would, xq_has w r hs, obp_some]
        dsimp only [bd, peta]
        rw [if_neg (by decide)]
        rcases hy with hy | hy
        · exact if_pos hy
        · have : (40 : Int32) < y := (lt_le1 (n := 40) (by omega)).mpr hy
          rw [if_pos this, ite_self]
      · have e := in_no (n := 40) (by omega) hy
        rw [← l32_0, ← l40] at e
        rw [fX8_would, rq_is w q hs, obp_some, if_neg (by decide), e, Option.bind_some, if_pos rfl]
  · exact ⟨-100001, a, u, v, (by rw [fX7_would, xq_hasnt w r hx, obp_some]; (try dsimp only [bd]); exact if_pos l32_0.symm), (by rw [fX8_would, rq_isnt w q hx, obp_some]; (try dsimp only [bd]); exact if_pos l32_0.symm), R⟩
theorem s_sinks (R : RLs B a u v) (hB : B + 40 < 1000000000) (x : Int32) : SIM B (fX7_sinks x u) (fX8_sinks x v) := by
  obtain ⟨w, r, q⟩ := R.1
  have hn := wf_n w
  have l40 : (40 : Int32) = nI 40 := rfl
  rcases i32_cases x (a 0 0) (by omega) with ⟨s, hs, rfl⟩ | hx
  · have b := fun h => angA_b w hs (h := h)
    have st7 : ∀ n i, i ≤ 40 → fX7_sinks_16 (n + 1) (nI s) (nI i) u = if 0 < angA a s i then fX7_sinks_16 n (nI s) (nI (i + 1)) u else some (nI i, u) := by
      intro n i hi
      have := b i
      rw [fX7_sinks_16, if_neg (by rw [l40, nJ_lt (by omega) (by omega)]; omega), xq_angle w r hs (by omega), obp_some]
      dsimp only [bd, peta]
      by_cases e : 0 < angA a s i
      · have ep : (0 : Int32) < iI (angA a s i) := (iI_p0 (by omega) (by omega)).mpr e
        rw [if_pos e, if_pos ep, l32_1, nJ_add]
      · rw [if_neg e, if_neg (by rw [l32_0, iI_p0 (by omega) (by omega)]; exact e)]
    have st8 : ∀ n i st, i ≤ 40 → RLs B a u st → ∃ st', RLs B a u st' ∧ fX8_sinks_13 (n + 1) (nI s) (nI i) st = if 0 < angA a s i then fX8_sinks_13 n (nI s) (nI (i + 1)) st' else some (nI i, st') := by
      intro n i st hi hP
      have := b i
      obtain ⟨st', e, R'⟩ := rq_would hP hB hs (h := i) (by omega)
      refine ⟨st', R', ?_⟩
      rw [fX8_sinks_13, if_neg (by rw [l40, nJ_lt (by omega) (by omega)]; omega), e, obp_some]
      by_cases e : 0 < angA a s i
      · have ep : (0 : Int32) < iI (angA a s i) := (iI_p0 (by omega) (by omega)).mpr e
        rw [if_pos e, if_pos ep, l32_1, nJ_add]
        rfl
      · rw [if_neg e, if_neg (by rw [l32_0, iI_p0 (by omega) (by omega)]; exact e)]
    have g7 : fX7_sinks (nI s) u = fX7_sinks_16 vF (nI s) (nI 0) u := by
      rw [fX7_sinks, xq_has w r hs, obp_some]
      dsimp only [bd, peta]
      rw [if_neg (by decide)]
      rfl
    have g8 : fX8_sinks (nI s) v = fX8_sinks_13 vF (nI s) (nI 0) v := by
      rw [fX8_sinks, rq_is w q hs, obp_some, if_neg (by decide)]
      rfl
    rw [g7, g8]
    rcases first_or (fun h => ¬ 0 < angA a s h) 0 41 with ⟨k, -, h2, h3, h4⟩ | h5
    · have e7 : fX7_sinks_16 vF (nI s) (nI 0) u = some (nI k, u) := by
        refine loop_ft (F := fun n i => fX7_sinks_16 n (nI s) (nI i) u) 0 k (by omega) (by omega) (fun n i h6 h7 => ?_) (fun n => ?_)
        · show fX7_sinks_16 (n + 1) (nI s) (nI i) u = _
          rw [st7 n i (by omega), if_pos (Classical.not_not.mp (h4 i (by omega) h7))]
        · show fX7_sinks_16 (n + 1) (nI s) (nI k) u = _
          rw [st7 n k (by omega), if_neg h3]
      obtain ⟨y, e8, h6, h7⟩ := loop_rel (F := fun n i (st : vS) => fX8_sinks_13 n (nI s) (nI i) st) (fun i st => RLs B a u st) (fun y => y.1 = nI k ∧ RLs B a u y.2) k 1 (fun n i st hi hP => by
        obtain ⟨st', R', e⟩ := st8 n i st (by omega) hP
        refine ⟨st', ?_, R'⟩
        show fX8_sinks_13 (n + 1) (nI s) (nI i) st = _
        rw [e, if_pos (Classical.not_not.mp (h4 i (by omega) hi))]) (fun n st hn2 hP => by
        obtain ⟨n, rfl⟩ : ∃ m, n = m + 1 := ⟨n - 1, by omega⟩
        obtain ⟨st', R', e⟩ := st8 n k st (by omega) hP
        refine ⟨(nI k, st'), ?_, rfl, R'⟩
        show fX8_sinks_13 (n + 1) (nI s) (nI k) st = _
        rw [e, if_neg h3]) vF 0 v (by omega) (by unfold vF; omega) R
      refine ⟨nI k, a, u, y.2, e7, ?_, h7⟩
      rw [← h6]
      exact e8
    · have e7 : fX7_sinks_16 vF (nI s) (nI 0) u = some (-100006, u) := by
        refine loop_ft (F := fun n i => fX7_sinks_16 n (nI s) (nI i) u) 0 41 (by omega) (by omega) (fun n i h6 h7 => ?_) (fun n => ?_)
        · show fX7_sinks_16 (n + 1) (nI s) (nI i) u = _
          rw [st7 n i (by omega), if_pos (Classical.not_not.mp (h5 i (by omega) h7))]
        · show fX7_sinks_16 (n + 1) (nI s) (nI 41) u = _
          rw [fX7_sinks_16, if_pos (by decide)]
      obtain ⟨y, e8, h6, h7⟩ := loop_rel (F := fun n i (st : vS) => fX8_sinks_13 n (nI s) (nI i) st) (fun i st => RLs B a u st) (fun y => y.1 = -100006 ∧ RLs B a u y.2) 41 1 (fun n i st hi hP => by
        obtain ⟨st', R', e⟩ := st8 n i st (by omega) hP
        refine ⟨st', ?_, R'⟩
        show fX8_sinks_13 (n + 1) (nI s) (nI i) st = _
        rw [e, if_pos (Classical.not_not.mp (h5 i (by omega) hi))]) (fun n st hn2 hP => by
        obtain ⟨n, rfl⟩ : ∃ m, n = m + 1 := ⟨n - 1, by omega⟩
        refine ⟨(-100006, st), ?_, rfl, hP⟩
        show fX8_sinks_13 (n + 1) (nI s) (nI 41) st = _
        rw [fX8_sinks_13, if_pos (by decide)]) vF 0 v (by omega) (by unfold vF; omega) R
      refine ⟨-100006, a, u, y.2, e7, ?_, h7⟩
      rw [← h6]
      exact e8
  · exact ⟨-100001, a, u, v, (by rw [fX7_sinks, xq_hasnt w r hx, obp_some]; (try dsimp only [bd]); exact if_pos l32_0.symm), (by rw [fX8_sinks, rq_isnt w q hx, obp_some]; (try dsimp only [bd]); exact if_pos l32_0.symm), R⟩
end
