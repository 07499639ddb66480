theorem loop_fu {R : Type} {F : Nat → Nat → Option R} (i N m : Nat) {r : Option R} (hiN : i ≤ N) (hs : ∀ n k, i ≤ k → k < N → F (n + 1) k = F n (k + 1)) (he : ∀ n, m ≤ n → F n N = r) : ∀ n, N - i + m ≤ n → F n i = r := by
  have h : ∀ d k n, k + d = N → d + m ≤ n → i ≤ k → F n k = r := by
    intro d
    induction d with
    | zero =>
      intro k n h1 h2 h3
      have : k = N := by omega
      subst this
      exact he n (by omega)
    | succ d ih =>
      intro k n h1 h2 h3
      obtain ⟨n, rfl⟩ : ∃ m, n = m + 1 := ⟨n - 1, by omega⟩
      rw [hs n k h3 (by omega)]
      exact ih (k + 1) n (by omega) (by omega) (by omega)
  intro n hn
  exact h (N - i) i n (by omega) hn (Nat.le_refl i)
theorem pc_pos {x : Nat} (h : x < 65536) (h0 : 0 < x) : 0 < pc x := by
  have := pc_step x h h0
  omega
theorem rq_bits {x : Nat} (hx : x < 65536) : fX8_bits (nI x) = some (nI (pc x)) := by
  have h : ∀ n c x, x < 65536 → c + pc x < 1000 → pc x < n → fX8_bits_4 n (nI c) (nI x) = some (nI (c + pc x)) := by
    intro n
    induction n with
    | zero => intro c x h1 h2 h3; omega
    | succ n ih =>
      intro c x h1 h2 h3
      by_cases h0 : x = 0
      · subst h0
        simp (disch := omega) only [fX8_bits_4, lits, nJ_le, nJ_lt, nJ_eq, nJ_clamp, nJ_add, nI_mul, nI_sub, nI_and, nI_or, nI_xor, Nat.add_zero, Nat.not_lt_zero, leF, leT, ltF, ltT, eqF, eqT, bd, obp_some, Option.bind_some, reduceIte, reduceCtorEq, or_self, or_true, true_or, or_false, false_or]
        rfl
      · have h4 := pc_step x h1 (by omega)
        have h5 : x &&& (x - 1) ≤ x := Nat.and_le_left
        have h6 := ih (c + 1) (x &&& (x - 1)) (by omega) (by omega) (by omega)
        have h7 := pc_le x
        simp (disch := omega) only [fX8_bits_4, lits, nJ_le, nJ_lt, nJ_eq, nJ_clamp, nJ_add, nI_mul, nI_sub, nI_and, nI_or, nI_xor, Nat.add_zero, Nat.not_lt_zero, leF, leT, ltF, ltT, eqF, eqT, bd, obp_some, Option.bind_some, reduceIte, reduceCtorEq, or_self, or_true, true_or, or_false, false_or]
        rw [h6]
        congr 2
        omega
  have h2 := h vF 0 x hx (by have := pc_le x; omega) (by have := pc_le x; unfold vF; omega)
  rw [Nat.zero_add] at h2
  exact h2
theorem rq_turned {m : Nat} (hm : m < 65536) : fX8_turned (nI m) = some (nI (rot1 m)) := by
  rw [← rot1_or hm]
  simp (disch := omega) only [fX8_turned, lits, nI_and, nI_shl2, nI_shr2, nI_or]
theorem back32 (x : UInt32) : Int32.toUInt32 (UInt32.toInt32 x) = x := rfl
section
variable {B : Nat} {a : mA} {v : vS}
theorem rq_is (w : WF B a) (r : RR a (v 1)) {s : Nat} (hs : s < a 0 0) : fX8_isSailor (nI s) v = some (nI 1, v) := by
  have hn := wf_n w
  simp (disch := omega) only [fX8_isSailor, fX8_isIn, rr_n r, rr_e r, rr_h r, rr_l r, rr_m r, rr_c r, rr_w r, rr_z r, rr_s r, rr_t r, rr_f r, lits, nJ_le, nJ_lt, nJ_eq, nJ_clamp, nJ_add, nI_mul, nI_sub, nI_and, nI_or, nI_xor, Nat.add_zero, Nat.not_lt_zero, leF, leT, ltF, ltT, eqF, eqT, bd, obp_some, Option.bind_some, reduceIte, reduceCtorEq, or_self, or_true, true_or, or_false, false_or]
theorem rq_isnt (w : WF B a) (r : RR a (v 1)) {x : Int32} (h : x < nI 0 ∨ nI (a 0 0) ≤ x) : fX8_isSailor x v = some (nI 0, v) := by
  have hn := wf_n w
  have e : (nI (a 0 0) - nI 1 < x) ↔ nI (a 0 0) ≤ x := le_sub1 (by omega)
  rcases h with h | h
  · simp only [fX8_isSailor, fX8_isIn, rr_n r, rr_e r, rr_h r, rr_l r, rr_m r, rr_c r, rr_w r, rr_z r, rr_s r, rr_t r, rr_f r, lits, h, if_true, Option.bind_some, true_or]
  · by_cases h0 : x < nI 0
    · simp only [fX8_isSailor, fX8_isIn, rr_n r, rr_e r, rr_h r, rr_l r, rr_m r, rr_c r, rr_w r, rr_z r, rr_s r, rr_t r, rr_f r, lits, h0, if_true, Option.bind_some, true_or]
    · simp only [fX8_isSailor, fX8_isIn, rr_n r, rr_e r, rr_h r, rr_l r, rr_m r, rr_c r, rr_w r, rr_z r, rr_s r, rr_t r, rr_f r, lits, h0, e, h, if_true, if_false, Option.bind_some, true_or]
theorem rq_cheer (w : WF B a) (r : RR a (v 1)) {s : Nat} (hs : s < a 0 0) : fX8_cheer (nI s) v = some (nI (chr (a 1 s)), v) := by
  have hn := wf_n w
  have h1 := wf_s w s hs
  have h2 : a 1 s &&& 255 ≤ 255 := Nat.and_le_right
  simp (disch := omega) only [fX8_cheer, fX8_at, rr_n r, rr_e r, rr_h r, rr_l r, rr_m r, rr_c r, rr_w r, rr_z r, rr_s r, rr_t r, rr_f r, rq_bits, lits, nJ_le, nJ_lt, nJ_eq, nJ_clamp, nJ_add, nI_mul, nI_sub, nI_and, nI_or, nI_xor, Nat.add_zero, Nat.not_lt_zero, leF, leT, ltF, ltT, eqF, eqT, bd, obp_some, Option.bind_some, reduceIte, reduceCtorEq, or_self, or_true, true_or, or_false, false_or, chr]
theorem rq_dread (w : WF B a) (r : RR a (v 1)) {s : Nat} (hs : s < a 0 0) : fX8_dread (nI s) v = some (nI (drd (a 1 s)), v) := by
  have hn := wf_n w
  have h1 := wf_s w s hs
  have h2 : a 1 s >>> 8 ≤ a 1 s := Nat.shiftRight_le _ _
  simp (disch := omega) only [fX8_dread, fX8_at, rr_n r, rr_e r, rr_h r, rr_l r, rr_m r, rr_c r, rr_w r, rr_z r, rr_s r, rr_t r, rr_f r, rq_bits, lits, nJ_le, nJ_lt, nJ_eq, nJ_clamp, nJ_add, nI_mul, nI_sub, nI_and, nI_or, nI_xor, Nat.add_zero, Nat.not_lt_zero, leF, leT, ltF, ltT, eqF, eqT, bd, obp_some, Option.bind_some, reduceIte, reduceCtorEq, or_self, or_true, true_or, or_false, false_or, nI_shr2, drd]
theorem rq_angled (w : WF B a) (r : RR a (v 1)) {s : Nat} (hs : s < a 0 0) : fX8_angled (nI s) v = some (iI (ang a s), v) := by
  have hn := wf_n w
  have h1 := wf_s w s hs
  have e : ang a s = (chr (a 1 s) : Int) + (a 2 s : Int) - (drd (a 1 s) : Int) - (a 4 (a 3 s) : Int) := rfl
  have c : nI (chr (a 1 s)) + nI (a 2 s) - nI (drd (a 1 s)) - nI (a 4 (a 3 s)) = iI (ang a s) := by
    rw [e]
    simp only [nI_iI, iI_add, iI_sub]
  rw [← c]
  simp (disch := omega) only [fX8_angled, fX8_at, rr_n r, rr_e r, rr_h r, rr_l r, rr_m r, rr_c r, rr_w r, rr_z r, rr_s r, rr_t r, rr_f r, rq_cheer w r hs, rq_dread w r hs, lits, nJ_le, nJ_lt, nJ_eq, nJ_clamp, nJ_add, nI_mul, nI_sub, nI_and, nI_or, nI_xor, Nat.add_zero, Nat.not_lt_zero, leF, leT, ltF, ltT, eqF, eqT, bd, obp_some, Option.bind_some, reduceIte, reduceCtorEq, or_self, or_true, true_or, or_false, false_or]
theorem rq_reads (w : WF B a) (r : RR a (v 1)) {s : Nat} (hs : s < a 0 0) : fX8_reads (nI s) v = some (fe (rdR a s), v) := by
  have hn := wf_n w
  have h1 := wf_s w s hs
  have hb := ang_b w hs
  have he := wf_e w
  have hz := rdg_all (ang a s + (a 0 2 : Int) + 16).toNat (by omega) (a 2 s) (by omega)
  have e1 : (((ang a s + (a 0 2 : Int) + 16).toNat : Nat) : Int) - 19 = ang a s + ((a 0 2 : Int) - 3) := by omega
  rw [e1] at hz
  obtain ⟨g1, g2, g3⟩ := hz
  have g4 := (fe_ok (rdR a s) (rdR_lt w hs)).1
  have g5 : fe (2 * (ang a s + (a 0 2 : Int) + 16).toNat + 9 - a 2 s) = fe (rdR a s) := rfl
  rw [g5] at g3
  unfold okF at g1 g2 g4
  have l3 : (3 : Int32) = nI 3 := rfl
  have l12 : (12 : Int32) = nI 12 := rfl
  simp (disch := omega) only [fX8_reads, fX8_at, l32_0, l32_1, l3, l12, rq_angled w r hs, rr_n r, rr_e r, rr_h r, rr_l r, rr_m r, rr_c r, rr_w r, rr_z r, rr_s r, rr_t r, rr_f r, iI_add, nJ_add, nI_mul, bd, obp_some, Option.bind_some, nJ_clamp, nJ_lt, leF, ltF, or_self, Nat.not_lt_zero, if_false, g1, g2, if_true, g3, g4]
theorem rq_sights (w : WF B a) (r : RR a (v 1)) {s : Nat} (hs : s < 8) : fX8_sights (nI s) v = some (nI (cntS a s), v) := by
  have hl := wf_l w
  have hn := wf_n w
  have hg := wf_g w
  rw [fX8_sights]
  refine loop_to (F := fun n i => fX8_sights_4 n (nI s) (nI (sumN i (fun k => if a 5 k = s then 1 else 0))) (nI i) v) (a 0 3) (by omega) (fun n i hi => ?_) (fun n => ?_)
  · have h2 := hg i hi
    simp (disch := omega) only [fX8_sights_4, rr_n r, rr_e r, rr_h r, rr_l r, rr_m r, rr_c r, rr_w r, rr_z r, rr_s r, rr_t r, rr_f r, lits, nJ_le, nJ_lt, nJ_eq, nJ_clamp, nJ_add, nI_mul, nI_sub, nI_and, nI_or, nI_xor, Nat.add_zero, Nat.not_lt_zero, leF, leT, ltF, ltT, eqF, eqT, bd, obp_some, Option.bind_some, reduceIte, reduceCtorEq, or_self, or_true, true_or, or_false, false_or, sumN]
    by_cases h3 : a 5 i = s
    · simp only [h3, if_true]
    · simp only [h3, if_false, Nat.add_zero]
  · simp (disch := omega) only [fX8_sights_4, rr_n r, rr_e r, rr_h r, rr_l r, rr_m r, rr_c r, rr_w r, rr_z r, rr_s r, rr_t r, rr_f r, lits, nJ_le, nJ_lt, nJ_eq, nJ_clamp, nJ_add, nI_mul, nI_sub, nI_and, nI_or, nI_xor, Nat.add_zero, Nat.not_lt_zero, leF, leT, ltF, ltT, eqF, eqT, bd, obp_some, Option.bind_some, reduceIte, reduceCtorEq, or_self, or_true, true_or, or_false, false_or, cntS]
theorem rq_differs (w : WF B a) (r : RR a (v 1)) {s o : Nat} (hs : s < a 0 0) (ho : o < a 0 0) : fX8_differs (nI s) (nI o) v = some (nI (pc (a 1 s ^^^ a 1 o)), v) := by
  have hn := wf_n w
  have h1 := wf_s w s hs
  have h2 := wf_s w o ho
  have h3 := xor_lt16 h1.1 h2.1
  simp (disch := omega) only [fX8_differs, fX8_at, rr_n r, rr_e r, rr_h r, rr_l r, rr_m r, rr_c r, rr_w r, rr_z r, rr_s r, rr_t r, rr_f r, rq_bits, lits, nJ_le, nJ_lt, nJ_eq, nJ_clamp, nJ_add, nI_mul, nI_sub, nI_and, nI_or, nI_xor, Nat.add_zero, Nat.not_lt_zero, leF, leT, ltF, ltT, eqF, eqT, bd, obp_some, Option.bind_some, reduceIte, reduceCtorEq, or_self, or_true, true_or, or_false, false_or]
theorem rq_mates (w : WF B a) (r : RR a (v 1)) {s : Nat} (hs : s < a 0 0) : fX8_mates (nI s) v = some (nI (mts a s (a 0 0)), v) := by
  have hn := wf_n w
  rw [fX8_mates]
  refine loop_to (F := fun n i => fX8_mates_4 n (nI s) (nI (mts a s i)) (nI i) v) (a 0 0) (by omega) (fun n i hi => ?_) (fun n => ?_)
  · have e := rq_differs w r hs hi
    have hp := pc_le (a 1 s ^^^ a 1 i)
    have h0 : mts a s i ||| 0 = mts a s i := Nat.or_zero _
    by_cases e1 : s = i
    · simp (disch := omega) only [fX8_mates_4, rr_n r, rr_e r, rr_h r, rr_l r, rr_m r, rr_c r, rr_w r, rr_z r, rr_s r, rr_t r, rr_f r, lits, nJ_le, nJ_lt, nJ_eq, nJ_clamp, nJ_add, nI_mul, nI_sub, nI_and, nI_or, nI_xor, Nat.add_zero, Nat.not_lt_zero, leF, leT, ltF, ltT, eqF, eqT, bd, obp_some, Option.bind_some, reduceIte, reduceCtorEq, or_self, or_true, true_or, or_false, false_or, mts, e1, if_true]
      rw [Nat.or_zero]
    · by_cases e2 : 4 < pc (a 1 s ^^^ a 1 i)
      · simp (disch := omega) only [fX8_mates_4, rr_n r, rr_e r, rr_h r, rr_l r, rr_m r, rr_c r, rr_w r, rr_z r, rr_s r, rr_t r, rr_f r, e, e1, e2, lits, nJ_le, nJ_lt, nJ_eq, nJ_clamp, nJ_add, nI_mul, nI_sub, nI_and, nI_or, nI_xor, Nat.add_zero, Nat.not_lt_zero, leF, leT, ltF, ltT, eqF, eqT, bd, obp_some, Option.bind_some, reduceIte, reduceCtorEq, or_self, or_true, true_or, or_false, false_or, mts, if_true, if_false]
        rw [Nat.or_zero]
      · simp (disch := omega) only [fX8_mates_4, rr_n r, rr_e r, rr_h r, rr_l r, rr_m r, rr_c r, rr_w r, rr_z r, rr_s r, rr_t r, rr_f r, e, e1, e2, lits, nJ_le, nJ_lt, nJ_eq, nJ_clamp, nJ_add, nI_mul, nI_sub, nI_and, nI_or, nI_xor, Nat.add_zero, Nat.not_lt_zero, leF, leT, ltF, ltT, eqF, eqT, bd, obp_some, Option.bind_some, reduceIte, reduceCtorEq, or_self, or_true, true_or, or_false, false_or, mts, if_true, if_false, nI_shl2]
  · simp (disch := omega) only [fX8_mates_4, rr_n r, rr_e r, rr_h r, rr_l r, rr_m r, rr_c r, rr_w r, rr_z r, rr_s r, rr_t r, rr_f r, lits, nJ_le, nJ_lt, nJ_eq, nJ_clamp, nJ_add, nI_mul, nI_sub, nI_and, nI_or, nI_xor, Nat.add_zero, Nat.not_lt_zero, leF, leT, ltF, ltT, eqF, eqT, bd, obp_some, Option.bind_some, reduceIte, reduceCtorEq, or_self, or_true, true_or, or_false, false_or]
theorem rq_value (w : WF B a) (r : RR a (v 1)) {k : Nat} (hk : k < a 0 3) : fX8_value (nI k) v = some (fe (a 7 k), v) := by
  have hl := wf_l w
  have h1 := wf_g w k hk
  have h2 := (fe_ok (a 7 k) h1.2.2).2.1
  simp (disch := omega) only [fX8_value, rr_n r, rr_e r, rr_h r, rr_l r, rr_m r, rr_c r, rr_w r, rr_z r, rr_s r, rr_t r, rr_f r, h2, back32, lits, nJ_le, nJ_lt, nJ_eq, nJ_clamp, nJ_add, nI_mul, nI_sub, nI_and, nI_or, nI_xor, Nat.add_zero, Nat.not_lt_zero, leF, leT, ltF, ltT, eqF, eqT, bd, obp_some, Option.bind_some, reduceIte, reduceCtorEq, or_self, or_true, true_or, or_false, false_or]
theorem rq_allRum (w : WF B a) (r : RR a (v 1)) : fX8_allRum v = some (nI (sumN (a 0 0) (a 2)), v) := by
  have hn := wf_n w
  have hg := wf_s w
  rw [fX8_allRum]
  refine loop_to (F := fun n i => fX8_allRum_4 n (nI (sumN i (a 2))) (nI i) v) (a 0 0) (by omega) (fun n i hi => ?_) (fun n => ?_)
  · have h2 := hg i hi
    simp (disch := omega) only [fX8_allRum_4, fX8_at, rr_n r, rr_e r, rr_h r, rr_l r, rr_m r, rr_c r, rr_w r, rr_z r, rr_s r, rr_t r, rr_f r, lits, nJ_le, nJ_lt, nJ_eq, nJ_clamp, nJ_add, nI_mul, nI_sub, nI_and, nI_or, nI_xor, Nat.add_zero, Nat.not_lt_zero, leF, leT, ltF, ltT, eqF, eqT, bd, obp_some, Option.bind_some, reduceIte, reduceCtorEq, or_self, or_true, true_or, or_false, false_or, sumN]
  · simp (disch := omega) only [fX8_allRum_4, rr_n r, rr_e r, rr_h r, rr_l r, rr_m r, rr_c r, rr_w r, rr_z r, rr_s r, rr_t r, rr_f r, lits, nJ_le, nJ_lt, nJ_eq, nJ_clamp, nJ_add, nI_mul, nI_sub, nI_and, nI_or, nI_xor, Nat.add_zero, Nat.not_lt_zero, leF, leT, ltF, ltT, eqF, eqT, bd, obp_some, Option.bind_some, reduceIte, reduceCtorEq, or_self, or_true, true_or, or_false, false_or]
theorem rq_fixed (w : WF B a) (r : RR a (v 1)) {s k1 k2 : Nat} (hs : s < a 0 0) (f : FX a s k1 k2) : fX8_fixed (nI s) v = some (fs (a 7 k1 + a 7 k2), v) := by
  have hn := wf_n w
  have hl := wf_l w
  have hg := wf_g w
  obtain ⟨f1, f2, f3, f4, f5, f6⟩ := f
  have g1 := wf_g w k1 (by omega)
  have g2 := wf_g w k2 f2
  obtain ⟨p1, p2, p3, p4, p5⟩ := fix_all (a 7 k1) (a 7 k2) g1.2.2 g2.2.2
  have s1 := (fs_ok (a 7 k1 + a 7 k2) (by omega)).1
  unfold okF at p1 p3 p4 s1
  rw [fX8_fixed]
  dsimp only [bd]
  have t3 : ∀ n, 1 ≤ n → fX8_fixed_7 n (nI s) (FP.fadd (fe (a 7 k1)) (fe (a 7 k2))) (nI 2) (nI (k2 + 1)) v = some (fs (a 7 k1 + a 7 k2), v) := by
    intro n hn
    obtain ⟨n, rfl⟩ : ∃ m, n = m + 1 := ⟨n - 1, by omega⟩
    by_cases e : a 0 3 ≤ k2 + 1
    · simp (disch := omega) only [fX8_fixed_7, rr_n r, rr_e r, rr_h r, rr_l r, rr_m r, rr_c r, rr_w r, rr_z r, rr_s r, rr_t r, rr_f r, lits, nJ_le, nJ_lt, nJ_eq, nJ_clamp, nJ_add, nI_mul, nI_sub, nI_and, nI_or, nI_xor, Nat.add_zero, Nat.not_lt_zero, leF, leT, ltF, ltT, eqF, eqT, bd, obp_some, Option.bind_some, reduceIte, reduceCtorEq, or_self, or_true, true_or, or_false, false_or, p2, s1]
    · simp (disch := omega) only [fX8_fixed_7, rr_n r, rr_e r, rr_h r, rr_l r, rr_m r, rr_c r, rr_w r, rr_z r, rr_s r, rr_t r, rr_f r, lits, nJ_le, nJ_lt, nJ_eq, nJ_clamp, nJ_add, nI_mul, nI_sub, nI_and, nI_or, nI_xor, Nat.add_zero, Nat.not_lt_zero, leF, leT, ltF, ltT, eqF, eqT, bd, obp_some, Option.bind_some, reduceIte, reduceCtorEq, or_self, or_true, true_or, or_false, false_or, p2, s1]
  have t2 := loop_fu (F := fun n i => fX8_fixed_7 n (nI s) (fe (a 7 k1)) (nI 1) (nI i) v) (k1 + 1) k2 2 (r := some (fs (a 7 k1 + a 7 k2), v)) (by omega) (fun n k h1 h2 => ?_) (fun n hn => ?_)
  · have t1 := loop_fu (F := fun n i => fX8_fixed_7 n (nI s) FP.fconst0 (nI 0) (nI i) v) 0 k1 20 (r := some (fs (a 7 k1 + a 7 k2), v)) (by omega) (fun n k h1 h2 => ?_) (fun n hn => ?_)
    · exact t1 vF (by unfold vF; omega)
    · have h3 := hg k (by omega)
      have h4 := f5 k (by omega)
      simp (disch := omega) only [fX8_fixed_7, rr_n r, rr_e r, rr_h r, rr_l r, rr_m r, rr_c r, rr_w r, rr_z r, rr_s r, rr_t r, rr_f r, lits, nJ_le, nJ_lt, nJ_eq, nJ_clamp, nJ_add, nI_mul, nI_sub, nI_and, nI_or, nI_xor, Nat.add_zero, Nat.not_lt_zero, leF, leT, ltF, ltT, eqF, eqT, bd, obp_some, Option.bind_some, reduceIte, reduceCtorEq, or_self, or_true, true_or, or_false, false_or]
    · obtain ⟨n, rfl⟩ : ∃ m, n = m + 1 := ⟨n - 1, by omega⟩
      rw [← t2 n (by omega)]
      simp (disch := omega) only [fX8_fixed_7, rr_n r, rr_e r, rr_h r, rr_l r, rr_m r, rr_c r, rr_w r, rr_z r, rr_s r, rr_t r, rr_f r, rq_value w r, f3, lits, nJ_le, nJ_lt, nJ_eq, nJ_clamp, nJ_add, nI_mul, nI_sub, nI_and, nI_or, nI_xor, Nat.add_zero, Nat.not_lt_zero, leF, leT, ltF, ltT, eqF, eqT, bd, obp_some, Option.bind_some, reduceIte, reduceCtorEq, or_self, or_true, true_or, or_false, false_or]
  · have h3 := hg k (by omega)
    have h4 := f6 k (by omega) h2
    simp (disch := omega) only [fX8_fixed_7, rr_n r, rr_e r, rr_h r, rr_l r, rr_m r, rr_c r, rr_w r, rr_z r, rr_s r, rr_t r, rr_f r, lits, nJ_le, nJ_lt, nJ_eq, nJ_clamp, nJ_add, nI_mul, nI_sub, nI_and, nI_or, nI_xor, Nat.add_zero, Nat.not_lt_zero, leF, leT, ltF, ltT, eqF, eqT, bd, obp_some, Option.bind_some, reduceIte, reduceCtorEq, or_self, or_true, true_or, or_false, false_or]
  · obtain ⟨n, rfl⟩ : ∃ m, n = m + 1 := ⟨n - 1, by omega⟩
    rw [← t3 n (by omega)]
    simp (disch := omega) only [fX8_fixed_7, rr_n r, rr_e r, rr_h r, rr_l r, rr_m r, rr_c r, rr_w r, rr_z r, rr_s r, rr_t r, rr_f r, rq_value w r, f4, p1, lits, nJ_le, nJ_lt, nJ_eq, nJ_clamp, nJ_add, nI_mul, nI_sub, nI_and, nI_or, nI_xor, Nat.add_zero, Nat.not_lt_zero, leF, leT, ltF, ltT, eqF, eqT, bd, obp_some, Option.bind_some, reduceIte, reduceCtorEq, or_self, or_true, true_or, or_false, false_or]
end
