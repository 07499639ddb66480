theorem sumN_front (n : Nat) (g : Nat → Nat) : sumN (n + 1) g = g 0 + sumN n (fun i => g (i + 1)) := by
  induction n with
  | zero => show 0 + g 0 = g 0 + 0; omega
  | succ n ih =>
    show sumN (n + 1) g + g (n + 1) = g 0 + (sumN n (fun i => g (i + 1)) + g (n + 1))
    rw [ih]
    omega
theorem pcN_sum (k m : Nat) : pcN k m = sumN k (fun b => m / 2 ^ b % 2) := by
  induction k generalizing m with
  | zero => rfl
  | succ k ih =>
    rw [sumN_front]
    show m % 2 + pcN k (m / 2) = _
    rw [ih]
    congr 1
    · omega
    · apply sumN_congr
      intro i _
      rw [Nat.div_div_eq_div_mul, Nat.pow_succ, Nat.mul_comm]
theorem xor_bit (x y b : Nat) : (x ^^^ y) / 2 ^ b % 2 = if x / 2 ^ b % 2 = y / 2 ^ b % 2 then 0 else 1 := by
  have h := Nat.testBit_xor x y b
  rw [Nat.testBit_eq_decide_div_mod_eq, Nat.testBit_eq_decide_div_mod_eq, Nat.testBit_eq_decide_div_mod_eq] at h
  generalize (x ^^^ y) / 2 ^ b = p at h ⊢
  generalize x / 2 ^ b = q at h ⊢
  generalize y / 2 ^ b = s at h ⊢
  rcases Nat.mod_two_eq_zero_or_one p with e1 | e1 <;> rcases Nat.mod_two_eq_zero_or_one q with e2 | e2 <;> rcases Nat.mod_two_eq_zero_or_one s with e3 | e3 <;> rw [e1, e2, e3] at h <;> rw [e1, e2, e3] <;> first | rfl | (exact absurd h (by decide))
theorem pc_xor_sum (x y : Nat) : pc (x ^^^ y) = sumN 16 (fun b => if (x >>> b) &&& 1 = (y >>> b) &&& 1 then 0 else 1) := by
  unfold pc
  rw [pcN_sum]
  apply sumN_congr
  intro b _
  rw [xor_bit, Nat.shiftRight_eq_div_pow, Nat.shiftRight_eq_div_pow, Nat.and_one_is_mod, Nat.and_one_is_mod]
theorem xq_unlike {x y : Nat} (hx : x < 65536) (hy : y < 65536) : fX5_unlikeBits (nI x) (nI y) = some (nI (pc (x ^^^ y))) := by
  rw [pc_xor_sum, fX5_unlikeBits]
  refine loop_to (F := fun n i => fX5_unlikeBits_4 n (nI x) (nI y) (nI (sumN i (fun b => if (x >>> b) &&& 1 = (y >>> b) &&& 1 then 0 else 1))) (nI i)) 16 (by omega) (fun n i hi => ?_) (fun n => ?_)
  · have h1 : (x >>> i) &&& 1 ≤ 1 := Nat.and_le_right
    have h2 : (y >>> i) &&& 1 ≤ 1 := Nat.and_le_right
    simp (disch := omega) only [fX5_unlikeBits_4, lits, nJ_le, nJ_lt, nJ_eq, nJ_clamp, nJ_add, nI_mul, nI_sub, nI_and, nI_or, nI_xor, Nat.add_zero, Nat.not_lt_zero, leF, leT, ltF, ltT, eqF, eqT, bd, obp_some, Option.bind_some, reduceIte, reduceCtorEq, or_self, or_true, true_or, or_false, false_or, nI_shr2, sumN]
    by_cases h3 : (x >>> i) &&& 1 = (y >>> i) &&& 1
    · simp only [h3, if_true, Nat.add_zero]
    · simp only [h3, if_false]
  · simp (disch := omega) only [fX5_unlikeBits_4, lits, nJ_le, nJ_lt, nJ_eq, nJ_clamp, nJ_add, nI_mul, nI_sub, nI_and, nI_or, nI_xor, Nat.add_zero, Nat.not_lt_zero, leF, leT, ltF, ltT, eqF, eqT, bd, obp_some, Option.bind_some, reduceIte, reduceCtorEq, or_self, or_true, true_or, or_false, false_or]
theorem or_lt16 {x y : Nat} (hx : x < 65536) (hy : y < 65536) : x ||| y < 65536 := Nat.or_lt_two_pow (n := 16) hx hy
theorem xor_lt16 {x y : Nat} (hx : x < 65536) (hy : y < 65536) : x ^^^ y < 65536 := Nat.xor_lt_two_pow (n := 16) hx hy
theorem xq_counts {x y : Nat} (hx : x < 65536) (hy : y < 65536) : fX5_unlikeByCounts (nI x) (nI y) = some (nI (pc (x ^^^ y))) := by
  have h1 := or_lt16 hx hy
  have h2 : x &&& y ≤ x := Nat.and_le_left
  have h3 : pc (x ||| y) = pc (x &&& y) + pc (x ^^^ y) := pcN_or 16 x y
  rw [← pc_or]
  simp (disch := omega) only [fX5_unlikeByCounts, nI_or, nI_and, jbits, Option.bind_some, nI_sub]
def bst (g : Nat → Nat) : Nat → Nat
  | 0 => 0
  | k + 1 => if g k < g (bst g k) then k else bst g k
theorem bst_le (g : Nat → Nat) (k : Nat) : bst g k ≤ k := by
  induction k with
  | zero => exact Nat.le_refl 0
  | succ k ih =>
    unfold bst
    split <;> omega
def clG (x y : Nat) : Nat → Nat := fun k => pc (rotN k x ^^^ y)
theorem xq_closest {x y : Nat} (hx : x < 65536) (hy : y < 65536) : fX5_closestTurn (nI x) (nI y) = some (nI (bst (clG x y) 16)) := by
  rw [fX5_closestTurn]
  have e1 : bst (clG x y) 1 = 0 := by
    show (if clG x y 0 < clG x y 0 then 0 else 0) = 0
    split <;> rfl
  have h := loop_ft (F := fun n i => fX5_closestTurn_4 n (nI x) (nI y) (nI (bst (clG x y) i)) (nI i)) 1 16 (r := some (nI (bst (clG x y) 16))) (by omega) (by omega) (fun n i h1 h2 => ?_) (fun n => ?_)
  · rw [e1] at h
    exact h
  · have hb := bst_le (clG x y) i
    have hr := rotN_lt hx i
    have hr2 := rotN_lt hx (bst (clG x y) i)
    have p1 := pc_le (rotN i x ^^^ y)
    have p2 := pc_le (rotN (bst (clG x y) i) x ^^^ y)
    have e2 : bst (clG x y) (i + 1) = if pc (rotN i x ^^^ y) < pc (rotN (bst (clG x y) i) x ^^^ y) then i else bst (clG x y) i := rfl
    simp (disch := omega) only [fX5_closestTurn_4, xq_turned, xq_unlike, lits, nJ_le, nJ_lt, nJ_eq, nJ_clamp, nJ_add, nI_mul, nI_sub, nI_and, nI_or, nI_xor, Nat.add_zero, Nat.not_lt_zero, leF, leT, ltF, ltT, eqF, eqT, bd, obp_some, Option.bind_some, reduceIte, reduceCtorEq, or_self, or_true, true_or, or_false, false_or, e2]
    by_cases h3 : pc (rotN i x ^^^ y) < pc (rotN (bst (clG x y) i) x ^^^ y)
    · simp (disch := omega) only [lits, nJ_le, nJ_lt, nJ_eq, nJ_clamp, nJ_add, nI_mul, nI_sub, nI_and, nI_or, nI_xor, Nat.add_zero, Nat.not_lt_zero, leF, leT, ltF, ltT, eqF, eqT, bd, obp_some, Option.bind_some, reduceIte, reduceCtorEq, or_self, or_true, true_or, or_false, false_or, h3, if_true]
    · simp (disch := omega) only [lits, nJ_le, nJ_lt, nJ_eq, nJ_clamp, nJ_add, nI_mul, nI_sub, nI_and, nI_or, nI_xor, Nat.add_zero, Nat.not_lt_zero, leF, leT, ltF, ltT, eqF, eqT, bd, obp_some, Option.bind_some, reduceIte, reduceCtorEq, or_self, or_true, true_or, or_false, false_or, h3, if_false]
  · simp (disch := omega) only [fX5_closestTurn_4, lits, nJ_le, nJ_lt, nJ_eq, nJ_clamp, nJ_add, nI_mul, nI_sub, nI_and, nI_or, nI_xor, Nat.add_zero, Nat.not_lt_zero, leF, leT, ltF, ltT, eqF, eqT, bd, obp_some, Option.bind_some, reduceIte, reduceCtorEq, or_self, or_true, true_or, or_false, false_or]
/-- the mates of a sailor, of the lowest n -/
def mts (a : mA) (s : Nat) : Nat → Nat
  | 0 => 0
  | n + 1 => if s = n then mts a s n else if 4 < pc (a 1 s ^^^ a 1 n) then mts a s n else mts a s n ||| (1 <<< n)
theorem mts_lt (a : mA) (s n : Nat) : mts a s n < 2 ^ n := by
  induction n with
  | zero => exact Nat.one_pos
  | succ n ih =>
    have h2 : 2 ^ (n + 1) = 2 ^ n * 2 := Nat.pow_succ 2 n
    unfold mts
    split
    · omega
    · split
      · omega
      · apply Nat.or_lt_two_pow
        · omega
        · rw [Nat.shiftLeft_eq]; omega
theorem pow_le8 {n : Nat} (h : n ≤ 8) : 2 ^ n ≤ 256 := Nat.pow_le_pow_right (n := 2) (by omega) h
/-- who is in the mess or a mate of one of it, of the lowest n -/
def fld (a : mA) (m : Nat) : Nat → Nat
  | 0 => m
  | n + 1 => if (m >>> n) &&& 1 = 1 then fld a m n ||| mts a n (a 0 0) else fld a m n
theorem fld_lt {a : mA} {m N : Nat} (hm : m < 2 ^ N) (h : a 0 0 ≤ N) (n : Nat) : fld a m n < 2 ^ N := by
  induction n with
  | zero => exact hm
  | succ n ih =>
    unfold fld
    split
    · apply Nat.or_lt_two_pow ih
      have h1 := mts_lt a n (a 0 0)
      have h2 : 2 ^ (a 0 0) ≤ 2 ^ N := Nat.pow_le_pow_right (by omega) h
      omega
    · exact ih
def itF (a : mA) : Nat → Nat → Nat
  | 0, m => m
  | k + 1, m => fld a (itF a k m) (a 0 0)
theorem itF_lt {a : mA} {m N : Nat} (hm : m < 2 ^ N) (h : a 0 0 ≤ N) (k : Nat) : itF a k m < 2 ^ N := by
  induction k with
  | zero => exact hm
  | succ k ih => exact fld_lt ih h _
def mss (a : mA) (s : Nat) : Nat := itF a (a 0 0 - 1) (1 <<< s)
theorem one_shl {s N : Nat} (h : s < N) : 1 <<< s < 2 ^ N := by
  rw [Nat.shiftLeft_eq, Nat.one_mul]
  exact Nat.pow_lt_pow_right (by omega) h
theorem mss_lt {B : Nat} {a : mA} (w : WF B a) {s : Nat} (hs : s < a 0 0) : mss a s < 256 := by
  have hn := wf_n w
  exact itF_lt (N := 8) (one_shl (by omega)) hn _
section
variable {B : Nat} {a : mA} {u : vH}
theorem xq_fixOf (w : WF B a) (r : RX a u) {s k1 k2 : Nat} (hs : s < a 0 0) (f : FX a s k1 k2) : fX5_fixOf (nI s) u = some (fs (a 7 k1 + a 7 k2), u) ∧ fX5_fixFromLatest (nI s) u = some (fs (a 7 k1 + a 7 k2), u) := by
  have hn := wf_n w
  have hl := wf_l w
  obtain ⟨f1, f2, f3, f4, f5, f6⟩ := f
  have g1 := wf_g w k1 (by omega)
  have g2 := wf_g w k2 f2
  obtain ⟨p1, p2, p3, p4, p5⟩ := fix_all (a 7 k1) (a 7 k2) g1.2.2 g2.2.2
  have s1 := (fs_ok (a 7 k1 + a 7 k2) (by omega)).1
  have q1 := xq_sf_hit w r (s := s) (i := 0) (k := k1) (by omega) (by omega) (by omega) f3 (fun j _ hj => f5 j hj)
  have q2 := xq_sf_hit w r (s := s) (i := k1 + 1) (k := k2) (by omega) (by omega) (by omega) f4 (fun j hj hj2 => f6 j (by omega) hj2)
  have n1 : ∀ k : Nat, k < 10 → nI k ≠ -1 := by decide
  have n2 : ∀ k : Nat, k < 10 → nI k ≠ -nI 1 := by decide
  have e1 : fX5_latestReading (nI s) u = some (fe (a 7 k1), u) := by
    simp (disch := omega) only [fX5_latestReading, l32_0, q1, obp_some, n1, if_false, rx_n r, rx_e r, rx_h r, rx_l r, rx_m r, rx_c r, rx_w r, rx_z r, rx_s r, rx_t r, rx_f r, nJ_clamp, nJ_lt, Nat.not_lt_zero, leF, or_self]
  have e2 : fX5_secondReading (nI s) u = some (fe (a 7 k2), u) := by
    simp (disch := omega) only [fX5_secondReading, l32_0, l32_1, q1, q2, nJ_add, obp_some, n2, if_false, rx_n r, rx_e r, rx_h r, rx_l r, rx_m r, rx_c r, rx_w r, rx_z r, rx_s r, rx_t r, rx_f r, nJ_clamp, nJ_lt, Nat.not_lt_zero, leF, or_self]
  unfold okF at p1 p3 p4 s1
  constructor
  · simp only [fX5_fixOf, e1, e2, obp_some, p1, p2, s1, if_true]
  · simp only [fX5_fixFromLatest, e1, e2, obp_some, p3, p4, p5, s1, if_true]
theorem xq_hasFix (w : WF B a) (r : RX a u) {s : Nat} (hs : s < a 0 0) : fX5_hasFix (nI s) u = some (if cntS a s < 2 then nI 0 else nI 1, u) := by
  have hn := wf_n w
  have hl := wf_l w
  have hb : cntS a s ≤ a 0 3 * 1 := sumN_bound (fun i _ => by split <;> omega)
  have e := xq_sightsOf w r (s := s) (by omega)
  have e2 : sumN (a 0 3) (fun k => if a 5 k = s then 1 else 0) = cntS a s := rfl
  rw [e2] at e
  simp (disch := omega) only [fX5_hasFix, e, lits, nJ_le, nJ_lt, nJ_eq, nJ_clamp, nJ_add, nI_mul, nI_sub, nI_and, nI_or, nI_xor, Nat.add_zero, Nat.not_lt_zero, leF, leT, ltF, ltT, eqF, eqT, bd, obp_some, Option.bind_some, reduceIte, reduceCtorEq, or_self, or_true, true_or, or_false, false_or]
  by_cases h : cntS a s < 2
  · simp only [h, if_true]
  · simp only [h, if_false]
theorem xq_areMates (w : WF B a) (r : RX a u) {s o : Nat} (hs : s < a 0 0) (ho : o < a 0 0) : fX5_areMates (nI s) (nI o) u = some (if s = o then nI 0 else if 4 < pc (a 1 s ^^^ a 1 o) then nI 0 else nI 1, u) := by
  have hn := wf_n w
  have h1 := wf_s w s hs
  have h2 := wf_s w o ho
  have hp := pc_le (a 1 s ^^^ a 1 o)
  by_cases e : s = o
  · simp (disch := omega) only [fX5_areMates, lits, nJ_le, nJ_lt, nJ_eq, nJ_clamp, nJ_add, nI_mul, nI_sub, nI_and, nI_or, nI_xor, Nat.add_zero, Nat.not_lt_zero, leF, leT, ltF, ltT, eqF, eqT, bd, obp_some, Option.bind_some, reduceIte, reduceCtorEq, or_self, or_true, true_or, or_false, false_or, e, if_true]
  · simp (disch := omega) only [fX5_areMates, rx_n r, rx_e r, rx_h r, rx_l r, rx_m r, rx_c r, rx_w r, rx_z r, rx_s r, rx_t r, rx_f r, xq_counts, lits, nJ_le, nJ_lt, nJ_eq, nJ_clamp, nJ_add, nI_mul, nI_sub, nI_and, nI_or, nI_xor, Nat.add_zero, Nat.not_lt_zero, leF, leT, ltF, ltT, eqF, eqT, bd, obp_some, Option.bind_some, reduceIte, reduceCtorEq, or_self, or_true, true_or, or_false, false_or]
    by_cases e2 : 4 < pc (a 1 s ^^^ a 1 o)
    · simp only [e, e2, if_true, if_false]
    · simp only [e, e2, if_true, if_false]
theorem xq_mateSet (w : WF B a) (r : RX a u) {s : Nat} (hs : s < a 0 0) : fX5_mateSet (nI s) u = some (nI (mts a s (a 0 0)), u) := by
  have hn := wf_n w
  rw [fX5_mateSet]
  refine loop_to (F := fun n i => fX5_mateSet_4 n (nI s) (nI (mts a s i)) (nI i) u) (a 0 0) (by omega) (fun n i hi => ?_) (fun n => ?_)
  · have e := xq_areMates w r hs hi
    simp (disch := omega) only [fX5_mateSet_4, rx_n r, rx_e r, rx_h r, rx_l r, rx_m r, rx_c r, rx_w r, rx_z r, rx_s r, rx_t r, rx_f r, e, lits, nJ_le, nJ_lt, nJ_eq, nJ_clamp, nJ_add, nI_mul, nI_sub, nI_and, nI_or, nI_xor, Nat.add_zero, Nat.not_lt_zero, leF, leT, ltF, ltT, eqF, eqT, bd, obp_some, Option.bind_some, reduceIte, reduceCtorEq, or_self, or_true, true_or, or_false, false_or, mts]
    by_cases e : s = i
    · simp (disch := omega) only [e, if_true, lits, nJ_le, nJ_lt, nJ_eq, nJ_clamp, nJ_add, nI_mul, nI_sub, nI_and, nI_or, nI_xor, Nat.add_zero, Nat.not_lt_zero, leF, leT, ltF, ltT, eqF, eqT, bd, obp_some, Option.bind_some, reduceIte, reduceCtorEq, or_self, or_true, true_or, or_false, false_or]
    · by_cases e2 : 4 < pc (a 1 s ^^^ a 1 i)
      · simp (disch := omega) only [e, e2, if_true, if_false, lits, nJ_le, nJ_lt, nJ_eq, nJ_clamp, nJ_add, nI_mul, nI_sub, nI_and, nI_or, nI_xor, Nat.add_zero, Nat.not_lt_zero, leF, leT, ltF, ltT, eqF, eqT, bd, obp_some, Option.bind_some, reduceIte, reduceCtorEq, or_self, or_true, true_or, or_false, false_or]
      · simp (disch := omega) only [e, e2, if_true, if_false, nI_shl2, lits, nJ_le, nJ_lt, nJ_eq, nJ_clamp, nJ_add, nI_mul, nI_sub, nI_and, nI_or, nI_xor, Nat.add_zero, Nat.not_lt_zero, leF, leT, ltF, ltT, eqF, eqT, bd, obp_some, Option.bind_some, reduceIte, reduceCtorEq, or_self, or_true, true_or, or_false, false_or]
  · simp (disch := omega) only [fX5_mateSet_4, rx_n r, rx_e r, rx_h r, rx_l r, rx_m r, rx_c r, rx_w r, rx_z r, rx_s r, rx_t r, rx_f r, lits, nJ_le, nJ_lt, nJ_eq, nJ_clamp, nJ_add, nI_mul, nI_sub, nI_and, nI_or, nI_xor, Nat.add_zero, Nat.not_lt_zero, leF, leT, ltF, ltT, eqF, eqT, bd, obp_some, Option.bind_some, reduceIte, reduceCtorEq, or_self, or_true, true_or, or_false, false_or]
theorem mts_lt8 (w : WF B a) (s : Nat) : mts a s (a 0 0) < 256 := by
  have h1 := mts_lt a s (a 0 0)
  have h2 := pow_le8 (wf_n w)
  omega
theorem xq_matesOf (w : WF B a) (r : RX a u) {s : Nat} (hs : s < a 0 0) : fX5_matesOf (nI s) u = some (nI (pc (mts a s (a 0 0))), u) := by
  have h1 := mts_lt8 w s
  simp (disch := omega) only [fX5_matesOf, xq_mateSet w r hs, obp_some, jbits, Option.bind_some]
theorem xq_messOf (w : WF B a) (r : RX a u) {s : Nat} (hs : s < a 0 0) : fX5_messOf (nI s) u = some (nI (mss a s), u) := by
  have hn := wf_n w
  have e1 : (1 : Int32) <<< (nI s &&& 31) = nI (1 <<< s) := nI_shl (a := 1) (by omega)
  rw [fX5_messOf, e1]
  dsimp only [bd]
  have h := loop_ft (F := fun n i => fX5_messOf_6 n (nI (itF a (i - 1) (1 <<< s))) (nI i) u) 1 (a 0 0) (r := some (nI (mss a s), u)) (by omega) (by omega) (fun n i h1 h2 => ?_) (fun n => ?_)
  · exact h
  · have hm : itF a (i - 1) (1 <<< s) < 256 := itF_lt (N := 8) (one_shl (by omega)) hn _
    have e2 : itF a (i + 1 - 1) (1 <<< s) = fld a (itF a (i - 1) (1 <<< s)) (a 0 0) := by
      rw [show i + 1 - 1 = (i - 1) + 1 from by omega]
      rfl
    rw [e2]
    generalize itF a (i - 1) (1 <<< s) = m at hm
    simp (disch := omega) only [fX5_messOf_6, rx_n r, rx_e r, rx_h r, rx_l r, rx_m r, rx_c r, rx_w r, rx_z r, rx_s r, rx_t r, rx_f r, lits, nJ_le, nJ_lt, nJ_eq, nJ_clamp, nJ_add, nI_mul, nI_sub, nI_and, nI_or, nI_xor, Nat.add_zero, Nat.not_lt_zero, leF, leT, ltF, ltT, eqF, eqT, bd, obp_some, Option.bind_some, reduceIte, reduceCtorEq, or_self, or_true, true_or, or_false, false_or]
    have h3 := loop_to (F := fun q j => fX5_messOf_20 q (fun a0 a1 a2 => fX5_messOf_6 n a0 a1 a2) (nI m) (nI i) (nI (fld a m j)) (nI j) u) (a 0 0) (r := fX5_messOf_6 n (nI (fld a m (a 0 0))) (nI (i + 1)) u) (by omega) (fun q j hj => ?_) (fun q => ?_)
    · exact h3
    · have h4 : (m >>> j) &&& 1 ≤ 1 := Nat.and_le_right
      simp (disch := omega) only [fX5_messOf_20, rx_n r, rx_e r, rx_h r, rx_l r, rx_m r, rx_c r, rx_w r, rx_z r, rx_s r, rx_t r, rx_f r, lits, nJ_le, nJ_lt, nJ_eq, nJ_clamp, nJ_add, nI_mul, nI_sub, nI_and, nI_or, nI_xor, Nat.add_zero, Nat.not_lt_zero, leF, leT, ltF, ltT, eqF, eqT, bd, obp_some, Option.bind_some, reduceIte, reduceCtorEq, or_self, or_true, true_or, or_false, false_or, nI_shr2, fld]
      by_cases h5 : (m >>> j) &&& 1 = 1
      · simp (disch := omega) only [h5, if_true, xq_mateSet w r hj, lits, nJ_le, nJ_lt, nJ_eq, nJ_clamp, nJ_add, nI_mul, nI_sub, nI_and, nI_or, nI_xor, Nat.add_zero, Nat.not_lt_zero, leF, leT, ltF, ltT, eqF, eqT, bd, obp_some, Option.bind_some, reduceIte, reduceCtorEq, or_self, or_true, true_or, or_false, false_or]
      · simp only [h5, if_false]
    · simp (disch := omega) only [fX5_messOf_20, rx_n r, rx_e r, rx_h r, rx_l r, rx_m r, rx_c r, rx_w r, rx_z r, rx_s r, rx_t r, rx_f r, lits, nJ_le, nJ_lt, nJ_eq, nJ_clamp, nJ_add, nI_mul, nI_sub, nI_and, nI_or, nI_xor, Nat.add_zero, Nat.not_lt_zero, leF, leT, ltF, ltT, eqF, eqT, bd, obp_some, Option.bind_some, reduceIte, reduceCtorEq, or_self, or_true, true_or, or_false, false_or]
  · simp (disch := omega) only [fX5_messOf_6, rx_n r, rx_e r, rx_h r, rx_l r, rx_m r, rx_c r, rx_w r, rx_z r, rx_s r, rx_t r, rx_f r, lits, nJ_le, nJ_lt, nJ_eq, nJ_clamp, nJ_add, nI_mul, nI_sub, nI_and, nI_or, nI_xor, Nat.add_zero, Nat.not_lt_zero, leF, leT, ltF, ltT, eqF, eqT, bd, obp_some, Option.bind_some, reduceIte, reduceCtorEq, or_self, or_true, true_or, or_false, false_or, mss]
theorem xq_allMesses (w : WF B a) (r : RX a u) : fX5_allMesses u = some (nI (sumN (a 0 0) (fun s => if mss a s &&& (1 <<< s - 1) = 0 then 1 else 0)), u) := by
  have hn := wf_n w
  rw [fX5_allMesses]
  refine loop_to (F := fun n i => fX5_allMesses_4 n (nI (sumN i (fun s => if mss a s &&& (1 <<< s - 1) = 0 then 1 else 0))) (nI i) u) (a 0 0) (by omega) (fun n i hi => ?_) (fun n => ?_)
  · have h1 := mss_lt w hi
    have h2 : mss a i &&& (1 <<< i - 1) ≤ mss a i := Nat.and_le_left
    have h3 : 1 ≤ 1 <<< i := by
      rw [Nat.shiftLeft_eq, Nat.one_mul]
      exact Nat.one_le_two_pow
    have h4 := xq_messOf w r hi
    simp (disch := omega) only [fX5_allMesses_4, rx_n r, rx_e r, rx_h r, rx_l r, rx_m r, rx_c r, rx_w r, rx_z r, rx_s r, rx_t r, rx_f r, h4, nI_shl2, lits, nJ_le, nJ_lt, nJ_eq, nJ_clamp, nJ_add, nI_mul, nI_sub, nI_and, nI_or, nI_xor, Nat.add_zero, Nat.not_lt_zero, leF, leT, ltF, ltT, eqF, eqT, bd, obp_some, Option.bind_some, reduceIte, reduceCtorEq, or_self, or_true, true_or, or_false, false_or, sumN]
    by_cases h5 : mss a i &&& (1 <<< i - 1) = 0
    · simp only [h5, if_true]
    · simp only [h5, if_false, Nat.add_zero]
  · simp (disch := omega) only [fX5_allMesses_4, rx_n r, rx_e r, rx_h r, rx_l r, rx_m r, rx_c r, rx_w r, rx_z r, rx_s r, rx_t r, rx_f r, lits, nJ_le, nJ_lt, nJ_eq, nJ_clamp, nJ_add, nI_mul, nI_sub, nI_and, nI_or, nI_xor, Nat.add_zero, Nat.not_lt_zero, leF, leT, ltF, ltT, eqF, eqT, bd, obp_some, Option.bind_some, reduceIte, reduceCtorEq, or_self, or_true, true_or, or_false, false_or]
theorem xq_sailorsIn (w : WF B a) (r : RX a u) {q : Nat} (hq : q < 4) : fX5_sailorsIn (nI q) u = some (nI (sumN (a 0 0) (fun i => if a 3 i = q then 1 else 0)), u) := by
  have hn := wf_n w
  have hg := wf_s w
  rw [fX5_sailorsIn]
  refine loop_to (F := fun n i => fX5_sailorsIn_4 n (nI q) (nI (sumN i (fun i => if a 3 i = q then 1 else 0))) (nI i) u) (a 0 0) (by omega) (fun n i hi => ?_) (fun n => ?_)
  · have h2 := hg i hi
    simp (disch := omega) only [fX5_sailorsIn_4, rx_n r, rx_e r, rx_h r, rx_l r, rx_m r, rx_c r, rx_w r, rx_z r, rx_s r, rx_t r, rx_f r, lits, nJ_le, nJ_lt, nJ_eq, nJ_clamp, nJ_add, nI_mul, nI_sub, nI_and, nI_or, nI_xor, Nat.add_zero, Nat.not_lt_zero, leF, leT, ltF, ltT, eqF, eqT, bd, obp_some, Option.bind_some, reduceIte, reduceCtorEq, or_self, or_true, true_or, or_false, false_or, sumN]
    by_cases h3 : a 3 i = q
    · simp only [h3, if_true]
    · simp only [h3, if_false, Nat.add_zero]
  · simp (disch := omega) only [fX5_sailorsIn_4, rx_n r, rx_e r, rx_h r, rx_l r, rx_m r, rx_c r, rx_w r, rx_z r, rx_s r, rx_t r, rx_f r, lits, nJ_le, nJ_lt, nJ_eq, nJ_clamp, nJ_add, nI_mul, nI_sub, nI_and, nI_or, nI_xor, Nat.add_zero, Nat.not_lt_zero, leF, leT, ltF, ltT, eqF, eqT, bd, obp_some, Option.bind_some, reduceIte, reduceCtorEq, or_self, or_true, true_or, or_false, false_or]
theorem xq_watchCheer (w : WF B a) (r : RX a u) {q : Nat} (hq : q < 4) : fX5_watchCheer (nI q) u = some (nI (sumN (a 0 0) (fun i => if a 3 i = q then chr (a 1 i) else 0)), u) := by
  have hn := wf_n w
  have hg := wf_s w
  rw [fX5_watchCheer]
  refine loop_to (F := fun n i => fX5_watchCheer_4 n (nI q) (nI (sumN i (fun i => if a 3 i = q then chr (a 1 i) else 0))) (nI i) u) (a 0 0) (by omega) (fun n i hi => ?_) (fun n => ?_)
  · have h2 := hg i hi
    simp (disch := omega) only [fX5_watchCheer_4, rx_n r, rx_e r, rx_h r, rx_l r, rx_m r, rx_c r, rx_w r, rx_z r, rx_s r, rx_t r, rx_f r, xq_cheer, lits, nJ_le, nJ_lt, nJ_eq, nJ_clamp, nJ_add, nI_mul, nI_sub, nI_and, nI_or, nI_xor, Nat.add_zero, Nat.not_lt_zero, leF, leT, ltF, ltT, eqF, eqT, bd, obp_some, Option.bind_some, reduceIte, reduceCtorEq, or_self, or_true, true_or, or_false, false_or, sumN]
    by_cases h3 : a 3 i = q
    · simp only [h3, if_true]
    · simp only [h3, if_false, Nat.add_zero]
  · simp (disch := omega) only [fX5_watchCheer_4, rx_n r, rx_e r, rx_h r, rx_l r, rx_m r, rx_c r, rx_w r, rx_z r, rx_s r, rx_t r, rx_f r, lits, nJ_le, nJ_lt, nJ_eq, nJ_clamp, nJ_add, nI_mul, nI_sub, nI_and, nI_or, nI_xor, Nat.add_zero, Nat.not_lt_zero, leF, leT, ltF, ltT, eqF, eqT, bd, obp_some, Option.bind_some, reduceIte, reduceCtorEq, or_self, or_true, true_or, or_false, false_or]
theorem xq_watchDread (w : WF B a) (r : RX a u) {q : Nat} (hq : q < 4) : fX5_watchDread (nI q) u = some (nI (sumN (a 0 0) (fun i => if a 3 i = q then drd (a 1 i) else 0)), u) := by
  have hn := wf_n w
  have hg := wf_s w
  rw [fX5_watchDread]
  refine loop_to (F := fun n i => fX5_watchDread_4 n (nI q) (nI (sumN i (fun i => if a 3 i = q then drd (a 1 i) else 0))) (nI i) u) (a 0 0) (by omega) (fun n i hi => ?_) (fun n => ?_)
  · have h2 := hg i hi
    simp (disch := omega) only [fX5_watchDread_4, rx_n r, rx_e r, rx_h r, rx_l r, rx_m r, rx_c r, rx_w r, rx_z r, rx_s r, rx_t r, rx_f r, xq_dread, lits, nJ_le, nJ_lt, nJ_eq, nJ_clamp, nJ_add, nI_mul, nI_sub, nI_and, nI_or, nI_xor, Nat.add_zero, Nat.not_lt_zero, leF, leT, ltF, ltT, eqF, eqT, bd, obp_some, Option.bind_some, reduceIte, reduceCtorEq, or_self, or_true, true_or, or_false, false_or, sumN]
    by_cases h3 : a 3 i = q
    · simp only [h3, if_true]
    · simp only [h3, if_false, Nat.add_zero]
  · simp (disch := omega) only [fX5_watchDread_4, rx_n r, rx_e r, rx_h r, rx_l r, rx_m r, rx_c r, rx_w r, rx_z r, rx_s r, rx_t r, rx_f r, lits, nJ_le, nJ_lt, nJ_eq, nJ_clamp, nJ_add, nI_mul, nI_sub, nI_and, nI_or, nI_xor, Nat.add_zero, Nat.not_lt_zero, leF, leT, ltF, ltT, eqF, eqT, bd, obp_some, Option.bind_some, reduceIte, reduceCtorEq, or_self, or_true, true_or, or_false, false_or]
theorem xq_allCups (w : WF B a) (r : RX a u) : fX5_allCups u = some (nI (sumN (a 0 0) (a 2)), u) := by
  have hn := wf_n w
  have hg := wf_s w
  rw [fX5_allCups]
  refine loop_to (F := fun n i => fX5_allCups_4 n (nI (sumN i (a 2))) (nI i) u) (a 0 0) (by omega) (fun n i hi => ?_) (fun n => ?_)
  · have h2 := hg i hi
    simp (disch := omega) only [fX5_allCups_4, rx_n r, rx_e r, rx_h r, rx_l r, rx_m r, rx_c r, rx_w r, rx_z r, rx_s r, rx_t r, rx_f r, lits, nJ_le, nJ_lt, nJ_eq, nJ_clamp, nJ_add, nI_mul, nI_sub, nI_and, nI_or, nI_xor, Nat.add_zero, Nat.not_lt_zero, leF, leT, ltF, ltT, eqF, eqT, bd, obp_some, Option.bind_some, reduceIte, reduceCtorEq, or_self, or_true, true_or, or_false, false_or, sumN]
  · simp (disch := omega) only [fX5_allCups_4, rx_n r, rx_e r, rx_h r, rx_l r, rx_m r, rx_c r, rx_w r, rx_z r, rx_s r, rx_t r, rx_f r, lits, nJ_le, nJ_lt, nJ_eq, nJ_clamp, nJ_add, nI_mul, nI_sub, nI_and, nI_or, nI_xor, Nat.add_zero, Nat.not_lt_zero, leF, leT, ltF, ltT, eqF, eqT, bd, obp_some, Option.bind_some, reduceIte, reduceCtorEq, or_self, or_true, true_or, or_false, false_or]
theorem xq_allAngles (w : WF B a) (r : RX a u) : fX5_allAngles u = some (iI (sumZ (a 0 0) (ang a)), u) := by
  have hn := wf_n w
  have hg := wf_s w
  rw [fX5_allAngles]
  refine loop_to (F := fun n i => fX5_allAngles_4 n (iI (sumZ i (ang a))) (nI i) u) (a 0 0) (by omega) (fun n i hi => ?_) (fun n => ?_)
  · have h2 := xq_angle0 w r hi
    simp (disch := omega) only [fX5_allAngles_4, rx_n r, rx_e r, rx_h r, rx_l r, rx_m r, rx_c r, rx_w r, rx_z r, rx_s r, rx_t r, rx_f r, h2, iI_add, lits, nJ_le, nJ_lt, nJ_eq, nJ_clamp, nJ_add, nI_mul, nI_sub, nI_and, nI_or, nI_xor, Nat.add_zero, Nat.not_lt_zero, leF, leT, ltF, ltT, eqF, eqT, bd, obp_some, Option.bind_some, reduceIte, reduceCtorEq, or_self, or_true, true_or, or_false, false_or, sumZ]
  · simp (disch := omega) only [fX5_allAngles_4, rx_n r, rx_e r, rx_h r, rx_l r, rx_m r, rx_c r, rx_w r, rx_z r, rx_s r, rx_t r, rx_f r, lits, nJ_le, nJ_lt, nJ_eq, nJ_clamp, nJ_add, nI_mul, nI_sub, nI_and, nI_or, nI_xor, Nat.add_zero, Nat.not_lt_zero, leF, leT, ltF, ltT, eqF, eqT, bd, obp_some, Option.bind_some, reduceIte, reduceCtorEq, or_self, or_true, true_or, or_false, false_or]
end

