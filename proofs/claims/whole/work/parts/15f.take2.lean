/-- sighted in this hour -/
def sgP (a : mA) (s : Nat) : Prop := ∃ k, k < a 0 3 ∧ a 5 k = s ∧ a 6 k = a 0 1
theorem wf_mono {B : Nat} {a : mA} (w : WF B a) {i j : Nat} (hij : i ≤ j) (hj : j < a 0 3) : a 6 j ≤ a 6 i := by
  obtain ⟨d, rfl⟩ : ∃ d, j = i + d := ⟨j - i, by omega⟩
  clear hij
  induction d with
  | zero => exact Nat.le_refl _
  | succ d ih =>
    have h1 := ih (by omega)
    have h2 := wf_o w (i + d) (by omega)
    show a 6 (i + d + 1) ≤ a 6 i
    omega
/-- the reference's refusal -/
def rfS (v : vS) (y d : Int32) : vS := up2 (up2 (up2 (up2 v 0 2 y) 0 3 d) 0 4 0) 0 0 (-100005)
theorem ref_refuses (v : vS) (y d : Int32) : fX8_refuses y d v = some (-100005, rfS v y d) := rfl
theorem ref_fail (v : vS) (c : Int32) : fX8_fail c v = some (c, up2 v 0 0 c) := rfl
section
variable {B : Nat} {a : mA}
theorem xq_sightedNow (w : WF B a) {u : vH} (r : RX a u) {s : Nat} (hs : s < a 0 0) : (sgP a s → fX5_isSightedNow (nI s) u = some (nI 1, u)) ∧ (¬ sgP a s → fX5_isSightedNow (nI s) u = some (nI 0, u)) := by
  have hn := wf_n w
  have hl := wf_l w
  have hh := wf_h w
  have hg := wf_g w
  rcases first_or (fun k => a 5 k = s) 0 (a 0 3) with ⟨k, -, h2, h3, h4⟩ | h5
  · have e := xq_sf_hit w r (s := s) (i := 0) (by omega) (by omega) h2 h3 (fun j h1 h2 => h4 j h1 h2)
    rw [← l32_0] at e
    have n1 : ∀ k : Nat, k < 10 → ¬ nI k = -1 := by decide
    have i1 : ¬ (nI k < 0 ∨ 10 ≤ Int32.toNatClampNeg (nI k)) := (nJ_in (n := 10) (by omega) (by omega)).mp
    have g := hg k h2
    constructor
    · intro ⟨j, j1, j2, j3⟩
      have j4 : k ≤ j := by
        by_cases e : k ≤ j
        · exact e
        · exact absurd j2 (h4 j (by omega) (by omega))
      have j5 := wf_mono w j4 j1
      have j6 : a 6 k = a 0 1 := by omega
      rw [fX5_isSightedNow, e, obp_some, if_neg (n1 k (by omega)), if_neg i1, nJ_clamp (by omega), rx_t r k h2, rx_h r, j6, if_pos rfl]
      rfl
    · intro hs
      have j6 : ¬ nI (a 6 k) = nI (a 0 1) := by
        rw [nJ_eq (by omega) (by omega)]
        exact fun e => hs ⟨k, h2, h3, e⟩
      rw [fX5_isSightedNow, e, obp_some, if_neg (n1 k (by omega)), if_neg i1, nJ_clamp (by omega), rx_t r k h2, rx_h r, if_neg j6]
      rfl
  · have e := xq_sf_none w r (s := s) (i := 0) (by omega) (by omega) (fun j h1 h2 => h5 j h1 h2)
    rw [← l32_0] at e
    constructor
    · intro ⟨j, j1, j2, j3⟩
      exact absurd j2 (h5 j (by omega) j1)
    · intro _
      rw [fX5_isSightedNow, e, obp_some, if_pos rfl]
      rfl
theorem sg_dec (a : mA) (s : Nat) : sgP a s ∨ ¬ sgP a s := Classical.em _
theorem rq_takeLoop (w : WF B a) {v : vS} (q : RR a (v 1)) {s : Nat} (hs : s < a 0 0) : ∃ v', fX8_takes_80 vF (nI s) (nI 65) v = some (nI (takL a), v') ∧ RR (takM a s) (v' 1) ∧ ∀ b, b ≠ 1 → v' b = v b := by
  have hn := wf_n w
  have hl := wf_l w
  have hb := takL_b w
  have l3 : (3 : Int32) = nI 3 := rfl
  have l39 : (39 : Int32) = nI 39 := rfl
  have l10 : (10 : Int32) = nI 10 := rfl
  have h := loop_rel (F := fun n i (st : vS) => fX8_takes_80 n (nI s) (nI (65 - i)) st) (fun i st => (∀ b, b ≠ 1 → st b = v b) ∧ (∀ j, 65 - i < j → j ≤ 65 → st 1 j = v 1 (j - 3)) ∧ (∀ j, j ≤ 65 - i → st 1 j = v 1 j)) (fun y => y.1 = nI (takL a) ∧ RR (takM a s) (y.2 1) ∧ ∀ b, b ≠ 1 → y.2 b = v b) 27 1 (fun n i st hi hP => ?_) (fun n st hn hP => ?_) vF 0 v (by omega) (by unfold vF; omega) ⟨fun b _ => rfl, fun j h1 h2 => by omega, fun j _ => rfl⟩
  · obtain ⟨y, e, h1, h2, h3⟩ := h
    refine ⟨y.2, ?_, h2, h3⟩
    rw [← h1]
    exact e
  · obtain ⟨p1, p2, p3⟩ := hP
    refine ⟨up2 st 1 (65 - i) (st 1 (65 - i - 3)), ?_, ?_⟩
    · have e : 65 - (i + 1) = 65 - i - 1 := by omega
      rw [e]
      simp (disch := omega) only [fX8_takes_80, nI_dec, lits, nJ_le, nJ_lt, nJ_eq, nJ_clamp, nJ_add, nI_mul, nI_sub, nI_and, nI_or, nI_xor, Nat.add_zero, Nat.not_lt_zero, leF, leT, ltF, ltT, eqF, eqT, bd, obp_some, Option.bind_some, reduceIte, reduceCtorEq, or_self, or_true, true_or, or_false, false_or]
    · refine ⟨fun b h5 => ?_, fun j h1 h2 => ?_, fun j h1 => ?_⟩
      · unfold up2
        rw [if_neg h5]
        exact p1 b h5
      · show upd (st 1) (65 - i) (st 1 (65 - i - 3)) j = _
        by_cases e : j = 65 - i
        · rw [upd_eq e, e]
          exact p3 _ (by omega)
        · rw [upd_ne e]
          exact p2 j (by omega) h2
      · show upd (st 1) (65 - i) (st 1 (65 - i - 3)) j = _
        rw [upd_ne (by omega)]
        exact p3 j (by omega)
  · obtain ⟨p1, p2, p3⟩ := hP
    obtain ⟨n, rfl⟩ : ∃ m, n = m + 1 := ⟨n - 1, by omega⟩
    have p4 : ∀ j, j ≤ 38 → st 1 j = v 1 j := fun j hj => p3 j (by omega)
    have p5 : ∀ j, 38 < j → j ≤ 65 → st 1 j = v 1 (j - 3) := fun j hj => p2 j (by omega)
    have rs : RRs a ((up2 (up2 st 1 36 (nI s)) 1 37 (up2 st 1 36 (nI s) 1 1)) 1) := by
      have k : ∀ j, j ≠ 36 → j ≠ 37 → (up2 (up2 st 1 36 (nI s)) 1 37 (up2 st 1 36 (nI s) 1 1)) 1 j = st 1 j := by
        intro j h1 h2
        show upd (upd (st 1) 36 _) 37 _ j = _
        rw [upd_ne h2, upd_ne h1]
      refine ⟨?_, ?_, fun i hi => ?_, fun i hi => ?_, fun i hi => ?_, fun i hi => ?_⟩
      · rw [k _ (by omega) (by omega), p4 _ (by omega)]; exact rr_e q
      · rw [k _ (by omega) (by omega), p4 _ (by omega)]; exact rr_h q
      · rw [k _ (by omega) (by omega), p4 _ (by omega)]; exact rr_m q i hi
      · rw [k _ (by omega) (by omega), p4 _ (by omega)]; exact rr_c q i hi
      · rw [k _ (by omega) (by omega), p4 _ (by omega)]; exact rr_w q i hi
      · rw [k _ (by omega) (by omega), p4 _ (by omega)]; exact rr_z q i hi
    have e1 := rz_reads w rs hs
    have e2 := (fe_ok (rdR a s) (rdR_lt w hs)).2.2
    have e3 : st 1 3 = nI (a 0 3) := by rw [p4 _ (by omega)]; exact rr_l q
    have e0 : 65 - 27 = 38 := rfl
    -- the state before the last cells
    have kk : ∀ (x : Int32), ∃ v', fX8_takes_171 x (nI 3) (up2 (up2 (up2 st 1 36 (nI s)) 1 37 (up2 st 1 36 (nI s) 1 1)) 1 38 (UInt32.toInt32 (fe (rdR a s)))) = some (x, v') ∧ (v' 1 3 = x ∧ v' 1 4 = st 1 4 + nI 1 ∧ v' 1 36 = nI s ∧ v' 1 37 = st 1 1 ∧ v' 1 38 = UInt32.toInt32 (fe (rdR a s)) ∧ ∀ j, j ≠ 3 → j ≠ 4 → j ≠ 36 → j ≠ 37 → j ≠ 38 → v' 1 j = st 1 j) ∧ ∀ b, b ≠ 1 → v' b = v b := by
      intro x
      have c : Int32.toNatClampNeg (nI 3) = 3 := nJ_clamp (by omega)
      have i3 : ¬ (nI 3 < 0 ∨ 66 ≤ Int32.toNatClampNeg (nI 3)) := (nJ_in (n := 66) (by omega) (by omega)).mp
      refine ⟨_, by rw [fX8_takes_171, if_neg i3]; rfl, ⟨rfl, rfl, rfl, rfl, rfl, fun j h1 h2 h3 h4 h5 => ?_⟩, fun b hb => ?_⟩
      · show upd (upd (upd (upd (upd (st 1) 36 _) 37 _) 38 _) 3 _) 4 _ j = _
        rw [upd_ne h2, upd_ne h1, upd_ne h5, upd_ne h4, upd_ne h3]
      · rw [← p1 b hb]
        unfold up2
        simp only [if_neg hb]
    have fin : ∀ v' : vS, (v' 1 3 = nI (takL a) ∧ v' 1 4 = st 1 4 + nI 1 ∧ v' 1 36 = nI s ∧ v' 1 37 = st 1 1 ∧ v' 1 38 = UInt32.toInt32 (fe (rdR a s)) ∧ ∀ j, j ≠ 3 → j ≠ 4 → j ≠ 36 → j ≠ 37 → j ≠ 38 → v' 1 j = st 1 j) → RR (takM a s) (v' 1) := by
      intro v' ⟨h3, h4, h36, h37, h38, hj⟩
      have ko : ∀ j, j ≠ 3 → j ≠ 4 → j < 36 → v' 1 j = v 1 j := fun j h1 h2 h3 => by rw [hj j h1 h2 (by omega) (by omega) (by omega), p4 _ (by omega)]
      refine ⟨⟨?_, ?_, ?_, h3⟩, ⟨?_, ?_, ?_, ?_⟩, fun i hi => ?_, fun i hi => ?_, fun i hi => ?_, fun i hi => ?_, fun k hk => ?_, fun k hk => ?_, fun k hk => ?_⟩
      · rw [ko _ (by omega) (by omega) (by omega)]; exact (rr_n q :)
      · rw [ko _ (by omega) (by omega) (by omega)]; exact (rr_e q :)
      · rw [ko _ (by omega) (by omega) (by omega)]; exact (rr_h q :)
      · rw [h4, p4 _ (by omega), rr_k4 q, nJ_add]; rfl
      · rw [ko _ (by omega) (by omega) (by omega)]; exact (rr_k5 q :)
      · rw [ko _ (by omega) (by omega) (by omega)]; exact (rr_k6 q :)
      · rw [ko _ (by omega) (by omega) (by omega)]; exact (rr_k7 q :)
      · have hi2 : i < a 0 0 := hi
        rw [ko _ (by omega) (by omega) (by omega)]; exact (rr_m q i hi2 :)
      · have hi2 : i < a 0 0 := hi
        rw [ko _ (by omega) (by omega) (by omega)]; exact (rr_c q i hi2 :)
      · have hi2 : i < a 0 0 := hi
        rw [ko _ (by omega) (by omega) (by omega)]; exact (rr_w q i hi2 :)
      · rw [ko _ (by omega) (by omega) (by omega)]; exact (rr_z q i hi :)
      · have hk2 : k < takL a := hk
        show _ = nI (if k = 0 then s else a 5 (k - 1))
        by_cases e : k = 0
        · rw [if_pos e, e]; exact h36
        · rw [if_neg e, hj _ (by omega) (by omega) (by omega) (by omega) (by omega), p5 _ (by omega) (by omega), show 36 + 3 * k - 3 = 36 + 3 * (k - 1) from by omega]; exact (rr_s q (k - 1) (by omega) :)
      · have hk2 : k < takL a := hk
        show _ = nI (if k = 0 then a 0 1 else a 6 (k - 1))
        by_cases e : k = 0
        · rw [if_pos e, e]; rw [← rr_h q, ← p4 1 (by omega)]; exact h37
        · rw [if_neg e, hj _ (by omega) (by omega) (by omega) (by omega) (by omega), p5 _ (by omega) (by omega), show 36 + 3 * k + 1 - 3 = 36 + 3 * (k - 1) + 1 from by omega]; exact (rr_t q (k - 1) (by omega) :)
      · have hk2 : k < takL a := hk
        show _ = UInt32.toInt32 (fe (if k = 0 then rdR a s else a 7 (k - 1)))
        by_cases e : k = 0
        · rw [if_pos e, e]; exact h38
        · rw [if_neg e, hj _ (by omega) (by omega) (by omega) (by omega) (by omega), p5 _ (by omega) (by omega), show 36 + 3 * k + 2 - 3 = 36 + 3 * (k - 1) + 2 from by omega]; exact (rr_f q (k - 1) (by omega) :)
    obtain ⟨v', k1, k2, k3⟩ := kk (nI (takL a))
    refine ⟨(nI (takL a), v'), ?_, rfl, fin v' k2, k3⟩
    show fX8_takes_80 (n + 1) (nI s) (nI (65 - 27)) st = _
    rw [e0, fX8_takes_80, if_pos (by decide)]
    dsimp only [bd]
    rw [e1, obp_some, e2, Option.bind_some]
    have e4 : (up2 (up2 (up2 st 1 36 (nI s)) 1 37 (up2 st 1 36 (nI s) 1 1)) 1 38 (UInt32.toInt32 (fe (rdR a s)))) 1 3 = nI (a 0 3) := e3
    rw [e4, l10, l3, l32_1, nJ_add]
    by_cases h : a 0 3 < 10
    · have hL : takL a = a 0 3 + 1 := if_pos h
      rw [if_neg (by rw [nJ_le (by omega) (by omega)]; omega), ← hL]
      exact k1
    · have hL : takL a = 10 := if_neg h
      rw [if_pos (by rw [nJ_le (by omega) (by omega)]; omega), ← hL]
      exact k1
theorem rq_takes (w : WF B a) {v : vS} (q : RR a (v 1)) {s : Nat} (hs : s < a 0 0) : (sgP a s → fX8_takes (nI s) v = some (-100005, rfS v (nI 4) (nI s))) ∧ (¬ sgP a s → ∃ v', fX8_takes (nI s) v = some (nI (takL a), v') ∧ RR (takM a s) (v' 1) ∧ ∀ b, b ≠ 1 → v' b = v b) := by
  have hn := wf_n w
  have hl := wf_l w
  have hh := wf_h w
  have hg := wf_g w
  have g1 := rq_is w q hs
  have st : ∀ n k, k < a 0 3 → ¬ (a 5 k = s ∧ a 6 k = a 0 1) → fX8_takes_17 (n + 1) (nI s) (nI k) v = fX8_takes_17 n (nI s) (nI (k + 1)) v := by
    intro n k hk h
    have g := hg k hk
    by_cases e1 : a 5 k = s
    · have e2 : a 6 k ≠ a 0 1 := fun e => h ⟨e1, e⟩
      simp (disch := omega) only [fX8_takes_17, rr_n q, rr_e q, rr_h q, rr_l q, rr_m q, rr_c q, rr_w q, rr_z q, rr_s q, rr_t q, rr_f q, rr_k4 q, rr_k5 q, rr_k6 q, rr_k7 q, e1, lits, nJ_le, nJ_lt, nJ_eq, nJ_clamp, nJ_add, nI_mul, nI_sub, nI_and, nI_or, nI_xor, Nat.add_zero, Nat.not_lt_zero, leF, leT, ltF, ltT, eqF, eqT, bd, obp_some, Option.bind_some, reduceIte, reduceCtorEq, or_self, or_true, true_or, or_false, false_or]
    · simp (disch := omega) only [fX8_takes_17, rr_n q, rr_e q, rr_h q, rr_l q, rr_m q, rr_c q, rr_w q, rr_z q, rr_s q, rr_t q, rr_f q, rr_k4 q, rr_k5 q, rr_k6 q, rr_k7 q, e1, lits, nJ_le, nJ_lt, nJ_eq, nJ_clamp, nJ_add, nI_mul, nI_sub, nI_and, nI_or, nI_xor, Nat.add_zero, Nat.not_lt_zero, leF, leT, ltF, ltT, eqF, eqT, bd, obp_some, Option.bind_some, reduceIte, reduceCtorEq, or_self, or_true, true_or, or_false, false_or]
  rw [fX8_takes, g1, obp_some, if_neg (by decide), l32_0]
  rcases first_or (fun k => a 5 k = s ∧ a 6 k = a 0 1) 0 (a 0 3) with ⟨k, -, h2, h3, h4⟩ | h5
  · constructor
    · intro _
      refine loop_ft (F := fun n i => fX8_takes_17 n (nI s) (nI i) v) 0 k (by omega) (by omega) (fun n i h6 h7 => st n i (by omega) (h4 i (by omega) h7)) (fun n => ?_)
      have g := hg k h2
      simp (disch := omega) only [fX8_takes_17, rr_n q, rr_e q, rr_h q, rr_l q, rr_m q, rr_c q, rr_w q, rr_z q, rr_s q, rr_t q, rr_f q, rr_k4 q, rr_k5 q, rr_k6 q, rr_k7 q, h3.1, h3.2, lits, nJ_le, nJ_lt, nJ_eq, nJ_clamp, nJ_add, nI_mul, nI_sub, nI_and, nI_or, nI_xor, Nat.add_zero, Nat.not_lt_zero, leF, leT, ltF, ltT, eqF, eqT, bd, obp_some, Option.bind_some, reduceIte, reduceCtorEq, or_self, or_true, true_or, or_false, false_or, ref_refuses]
    · intro h
      exact absurd ⟨k, h2, h3.1, h3.2⟩ h
  · constructor
    · intro ⟨k, h1, h2, h3⟩
      exact absurd ⟨h2, h3⟩ (h5 k (by omega) h1)
    · intro _
      obtain ⟨v', e, h6, h7⟩ := rq_takeLoop w q hs
      refine ⟨v', ?_, h6, h7⟩
      rw [← e]
      refine loop_ft (F := fun n i => fX8_takes_17 n (nI s) (nI i) v) 0 (a 0 3) (by omega) (by omega) (fun n i h6 h7 => st n i h7 (h5 i (by omega) h7)) (fun n => ?_)
      simp (disch := omega) only [fX8_takes_17, rr_n q, rr_e q, rr_h q, rr_l q, rr_m q, rr_c q, rr_w q, rr_z q, rr_s q, rr_t q, rr_f q, rr_k4 q, rr_k5 q, rr_k6 q, rr_k7 q, lits, nJ_le, nJ_lt, nJ_eq, nJ_clamp, nJ_add, nI_mul, nI_sub, nI_and, nI_or, nI_xor, Nat.add_zero, Nat.not_lt_zero, leF, leT, ltF, ltT, eqF, eqT, bd, obp_some, Option.bind_some, reduceIte, reduceCtorEq, or_self, or_true, true_or, or_false, false_or]
end
