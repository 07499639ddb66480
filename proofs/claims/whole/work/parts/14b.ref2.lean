theorem pc_mono (k : Nat) : ∀ m x, pcN k m ≤ pcN k (m ||| x) ∧ (pcN k m = pcN k (m ||| x) → m < 2 ^ k → m ||| x < 2 ^ k → m ||| x = m) := by
  induction k with
  | zero =>
    intro m x
    refine ⟨Nat.le_refl _, fun _ h1 h2 => ?_⟩
    simp only [Nat.pow_zero] at h1 h2
    omega
  | succ k ih =>
    intro m x
    have h1 : (m ||| x) / 2 = m / 2 ||| x / 2 := Nat.or_div_two
    have h4 : m % 2 ≤ (m ||| x) % 2 := by
      have e1 := Nat.or_mod_two_pow (a := m) (b := x) (n := 1)
      have ha : m % 2 = 0 ∨ m % 2 = 1 := by omega
      have hb : x % 2 = 0 ∨ x % 2 = 1 := by omega
      simp only [Nat.pow_one] at e1
      rcases ha with ha | ha <;> rcases hb with hb | hb <;> rw [e1, ha, hb] <;> decide
    obtain ⟨i1, i2⟩ := ih (m / 2) (x / 2)
    unfold pcN
    rw [h1]
    refine ⟨by omega, fun g1 g2 g3 => ?_⟩
    rw [Nat.pow_succ] at g2 g3
    have := i2 (by omega) (by omega) (by omega)
    omega
theorem pc_top (k : Nat) : ∀ n m, m < 2 ^ n → pcN k m ≤ n := by
  induction k with
  | zero => intro n m _; exact Nat.zero_le _
  | succ k ih =>
    intro n m h
    unfold pcN
    cases n with
    | zero =>
      have : m = 0 := by simp only [Nat.pow_zero] at h; omega
      subst this
      have := ih 0 (0 / 2) (by decide)
      omega
    | succ n =>
      rw [Nat.pow_succ] at h
      have := ih n (m / 2) (by omega)
      omega
theorem fld_or (a : mA) (m : Nat) (n : Nat) : ∃ x, fld a m n = m ||| x := by
  induction n with
  | zero => exact ⟨0, (Nat.or_zero m).symm⟩
  | succ n ih =>
    obtain ⟨x, hx⟩ := ih
    unfold fld
    split
    · exact ⟨x ||| mts a n (a 0 0), by rw [hx, Nat.or_assoc]⟩
    · exact ⟨x, hx⟩
theorem itF_stop {a : mA} {m i : Nat} (h : itF a (i + 1) m = itF a i m) : ∀ j, i ≤ j → itF a j m = itF a i m := by
  intro j hj
  obtain ⟨d, rfl⟩ : ∃ d, j = i + d := ⟨j - i, by omega⟩
  clear hj
  induction d with
  | zero => rfl
  | succ d ih =>
    show fld a (itF a (i + d) m) (a 0 0) = _
    rw [ih]
    exact h
theorem itF_fix {B : Nat} {a : mA} (w : WF B a) {s : Nat} (hs : s < a 0 0) : ∃ i, i < a 0 0 ∧ itF a (i + 1) (1 <<< s) = itF a i (1 <<< s) ∧ ∀ j, j < i → itF a (j + 1) (1 <<< s) ≠ itF a j (1 <<< s) := by
  have hn := wf_n w
  rcases first_or (fun i => itF a (i + 1) (1 <<< s) = itF a i (1 <<< s)) 0 (a 0 0) with ⟨i, -, h2, h3, h4⟩ | h5
  · exact ⟨i, h2, h3, fun j hj => h4 j (by omega) hj⟩
  · exfalso
    have hp : ∀ i, i ≤ a 0 0 → i + 1 ≤ pc (itF a i (1 <<< s)) := by
      intro i
      induction i with
      | zero =>
        intro _
        have h1 : 0 < 1 <<< s := by rw [Nat.shiftLeft_eq, Nat.one_mul]; exact Nat.two_pow_pos s
        have h2 : 1 <<< s < 65536 := one_shl (N := 16) (by omega)
        exact pc_pos h2 h1
      | succ i ih =>
        intro hi
        have h6 := ih (by omega)
        obtain ⟨x, hx⟩ := fld_or a (itF a i (1 <<< s)) (a 0 0)
        have h7 : itF a (i + 1) (1 <<< s) = itF a i (1 <<< s) ||| x := hx
        obtain ⟨m1, m2⟩ := pc_mono 16 (itF a i (1 <<< s)) x
        rw [← h7] at m1 m2
        have h8 := itF_lt (a := a) (N := 16) (m := 1 <<< s) (one_shl (by omega)) (by omega)
        have h9 := h5 i (by omega) (by omega)
        have : pcN 16 (itF a i (1 <<< s)) ≠ pcN 16 (itF a (i + 1) (1 <<< s)) := fun e => h9 (m2 e (h8 i) (h8 (i + 1)))
        unfold pc at h6 ⊢
        omega
    have h6 := hp (a 0 0) (Nat.le_refl _)
    have h7 := pc_top 16 (a 0 0) (itF a (a 0 0) (1 <<< s)) (itF_lt (one_shl hs) (Nat.le_refl _) _)
    unfold pc at h6
    omega
section
variable {B : Nat} {a : mA} {v : vS}
theorem rq_mess (w : WF B a) (r : RR a (v 1)) {s : Nat} (hs : s < a 0 0) : fX8_mess (nI s) v = some (nI (mss a s), v) := by
  have hn := wf_n w
  have e1 : (1 : Int32) <<< (nI s &&& 31) = nI (1 <<< s) := nI_shl (a := 1) (by omega)
  rw [fX8_mess, e1]
  dsimp only [bd]
  obtain ⟨i, hi, h1, h2⟩ := itF_fix w hs
  have e2 : mss a s = itF a i (1 <<< s) := itF_stop h1 _ (by omega)
  have hb : ∀ j, itF a j (1 <<< s) < 256 := fun j => itF_lt (N := 8) (one_shl (by omega)) hn _
  have hpos : 0 < 1 <<< s := by rw [Nat.shiftLeft_eq, Nat.one_mul]; exact Nat.two_pow_pos s
  have h := loop_fu (F := fun n j => fX8_mess_6 n (nI (itF a j (1 <<< s))) (nI (if j = 0 then 0 else itF a (j - 1) (1 <<< s))) v) 0 (i + 1) 1 (r := some (nI (mss a s), v)) (by omega) (fun n j g1 g2 => ?_) (fun n hn => ?_)
  · exact h vF (by unfold vF; omega)
  · have g3 : itF a j (1 <<< s) ≠ (if j = 0 then 0 else itF a (j - 1) (1 <<< s)) := by
      by_cases e : j = 0
      · rw [if_pos e, e]
        show 1 <<< s ≠ 0
        omega
      · rw [if_neg e]
        have := h2 (j - 1) (by omega)
        rw [show j - 1 + 1 = j from by omega] at this
        exact this
    have g4 := hb j
    have g5 : (if j = 0 then 0 else itF a (j - 1) (1 <<< s)) < 256 := by
      split
      · omega
      · exact hb _
    have e3 : itF a (j + 1) (1 <<< s) = fld a (itF a j (1 <<< s)) (a 0 0) := rfl
    have e4 : (if j + 1 = 0 then 0 else itF a (j + 1 - 1) (1 <<< s)) = itF a j (1 <<< s) := rfl
    rw [e3, e4]
    generalize itF a j (1 <<< s) = m at *
    generalize (if j = 0 then 0 else itF a (j - 1) (1 <<< s)) = p at *
    have e5 : ¬ nI m = nI p := by rw [nJ_eq (by omega) (by omega)]; exact g3
    rw [fX8_mess_6, if_neg e5]
    have h3 := loop_to (F := fun q k => fX8_mess_16 q (fun a0 a1 a2 => fX8_mess_6 n a0 a1 a2) (nI (fld a m k)) (nI m) (nI k) v) (a 0 0) (r := fX8_mess_6 n (nI (fld a m (a 0 0))) (nI m) v) (by omega) (fun q k hk => ?_) (fun q => ?_)
    · exact h3
    · have h4 : (m >>> k) &&& 1 ≤ 1 := Nat.and_le_right
      simp (disch := omega) only [fX8_mess_16, rr_n r, rr_e r, rr_h r, rr_l r, rr_m r, rr_c r, rr_w r, rr_z r, rr_s r, rr_t r, rr_f r, lits, nJ_le, nJ_lt, nJ_eq, nJ_clamp, nJ_add, nI_mul, nI_sub, nI_and, nI_or, nI_xor, Nat.add_zero, Nat.not_lt_zero, leF, leT, ltF, ltT, eqF, eqT, bd, obp_some, Option.bind_some, reduceIte, reduceCtorEq, or_self, or_true, true_or, or_false, false_or, nI_shr2, fld]
      by_cases h5 : (m >>> k) &&& 1 = 1
      · simp (disch := omega) only [h5, if_true, rq_mates w r hk, lits, nJ_le, nJ_lt, nJ_eq, nJ_clamp, nJ_add, nI_mul, nI_sub, nI_and, nI_or, nI_xor, Nat.add_zero, Nat.not_lt_zero, leF, leT, ltF, ltT, eqF, eqT, bd, obp_some, Option.bind_some, reduceIte, reduceCtorEq, or_self, or_true, true_or, or_false, false_or]
      · simp only [h5, if_false]
    · simp (disch := omega) only [fX8_mess_16, rr_n r, rr_e r, rr_h r, rr_l r, rr_m r, rr_c r, rr_w r, rr_z r, rr_s r, rr_t r, rr_f r, lits, nJ_le, nJ_lt, nJ_eq, nJ_clamp, nJ_add, nI_mul, nI_sub, nI_and, nI_or, nI_xor, Nat.add_zero, Nat.not_lt_zero, leF, leT, ltF, ltT, eqF, eqT, bd, obp_some, Option.bind_some, reduceIte, reduceCtorEq, or_self, or_true, true_or, or_false, false_or]
  · obtain ⟨n, rfl⟩ : ∃ m, n = m + 1 := ⟨n - 1, by omega⟩
    rw [fX8_mess_6, if_neg (by omega : ¬ i + 1 = 0), show i + 1 - 1 = i from rfl, h1, if_pos rfl, e2]
theorem rq_messes (w : WF B a) (r : RR a (v 1)) : fX8_messes v = some (nI (sumN (a 0 0) (fun s => if mss a s &&& (1 <<< s - 1) = 0 then 1 else 0)), v) := by
  have hn := wf_n w
  rw [fX8_messes]
  refine loop_to (F := fun n i => fX8_messes_4 n (nI (sumN i (fun s => if mss a s &&& (1 <<< s - 1) = 0 then 1 else 0))) (nI i) v) (a 0 0) (by omega) (fun n i hi => ?_) (fun n => ?_)
  · have h1 := mss_lt w hi
    have h2 : mss a i &&& (1 <<< i - 1) ≤ mss a i := Nat.and_le_left
    have h3 : 1 ≤ 1 <<< i := by
      rw [Nat.shiftLeft_eq, Nat.one_mul]
      exact Nat.one_le_two_pow
    have h4 := rq_mess w r hi
    simp (disch := omega) only [fX8_messes_4, rr_n r, rr_e r, rr_h r, rr_l r, rr_m r, rr_c r, rr_w r, rr_z r, rr_s r, rr_t r, rr_f r, h4, nI_shl2, lits, nJ_le, nJ_lt, nJ_eq, nJ_clamp, nJ_add, nI_mul, nI_sub, nI_and, nI_or, nI_xor, Nat.add_zero, Nat.not_lt_zero, leF, leT, ltF, ltT, eqF, eqT, bd, obp_some, Option.bind_some, reduceIte, reduceCtorEq, or_self, or_true, true_or, or_false, false_or, sumN]
    by_cases h5 : mss a i &&& (1 <<< i - 1) = 0
    · simp only [h5, if_true]
    · simp only [h5, if_false, Nat.add_zero]
  · simp (disch := omega) only [fX8_messes_4, rr_n r, rr_e r, rr_h r, rr_l r, rr_m r, rr_c r, rr_w r, rr_z r, rr_s r, rr_t r, rr_f r, lits, nJ_le, nJ_lt, nJ_eq, nJ_clamp, nJ_add, nI_mul, nI_sub, nI_and, nI_or, nI_xor, Nat.add_zero, Nat.not_lt_zero, leF, leT, ltF, ltT, eqF, eqT, bd, obp_some, Option.bind_some, reduceIte, reduceCtorEq, or_self, or_true, true_or, or_false, false_or]
theorem rq_closest (w : WF B a) (r : RR a (v 1)) {s o : Nat} (hs : s < a 0 0) (ho : o < a 0 0) : fX8_closest (nI s) (nI o) v = some (nI (bst (clG (a 1 s) (a 1 o)) 16), v) := by
  have hn := wf_n w
  have h1 := wf_s w s hs
  have h2 := wf_s w o ho
  have h0 := loop_to (F := fun n i => fX8_closest_40 n (nI o) (nI (bst (clG (a 1 s) (a 1 o)) i)) (nI (if i = 0 then 17 else clG (a 1 s) (a 1 o) (bst (clG (a 1 s) (a 1 o)) i))) (nI (rotN i (a 1 s))) (nI i) v) 16 (r := some (nI (bst (clG (a 1 s) (a 1 o)) 16), v)) (by omega) (fun n i hi => ?_) (fun n => ?_)
  · have l17 : (17 : Int32) = nI (if (0 : Nat) = 0 then 17 else clG (a 1 s) (a 1 o) (bst (clG (a 1 s) (a 1 o)) 0)) := rfl
    have e0 : nI (bst (clG (a 1 s) (a 1 o)) 0) = nI 0 := rfl
    have e1 : nI (rotN 0 (a 1 s)) = nI (a 1 s) := rfl
    rw [e0, e1] at h0
    rw [fX8_closest, rq_is w r hs, obp_some, if_neg (by decide), rq_is w r ho, obp_some, if_neg (by decide), l17]
    simp (disch := omega) only [fX8_at, rr_n r, rr_e r, rr_h r, rr_l r, rr_m r, rr_c r, rr_w r, rr_z r, rr_s r, rr_t r, rr_f r, lits, nJ_le, nJ_lt, nJ_eq, nJ_clamp, nJ_add, nI_mul, nI_sub, nI_and, nI_or, nI_xor, Nat.add_zero, Nat.not_lt_zero, leF, leT, ltF, ltT, eqF, eqT, bd, obp_some, Option.bind_some, reduceIte, reduceCtorEq, or_self, or_true, true_or, or_false, false_or]
    exact h0
  · have hr := rotN_lt h1.1 i
    have hx := xor_lt16 hr h2.1
    have p1 := pc_le (rotN i (a 1 s) ^^^ a 1 o)
    have e2 : clG (a 1 s) (a 1 o) i = pc (rotN i (a 1 s) ^^^ a 1 o) := rfl
    have p2 : (if i = 0 then 17 else clG (a 1 s) (a 1 o) (bst (clG (a 1 s) (a 1 o)) i)) ≤ 17 := by
      split
      · omega
      · exact Nat.le_trans (pc_le _) (by omega)
    have e3 : bst (clG (a 1 s) (a 1 o)) (i + 1) = if pc (rotN i (a 1 s) ^^^ a 1 o) < clG (a 1 s) (a 1 o) (bst (clG (a 1 s) (a 1 o)) i) then i else bst (clG (a 1 s) (a 1 o)) i := rfl
    have e4 : rotN (i + 1) (a 1 s) = rot1 (rotN i (a 1 s)) := rfl
    have e5 : bst (clG (a 1 s) (a 1 o)) (i + 1) = if pc (rotN i (a 1 s) ^^^ a 1 o) < (if i = 0 then 17 else clG (a 1 s) (a 1 o) (bst (clG (a 1 s) (a 1 o)) i)) then i else bst (clG (a 1 s) (a 1 o)) i := by
      by_cases h : i = 0
      · subst h
        rw [if_pos rfl, if_pos (by omega)]
        rw [e3]
        split <;> rfl
      · rw [if_neg h]
        exact e3
    have e6 : (if i + 1 = 0 then 17 else clG (a 1 s) (a 1 o) (bst (clG (a 1 s) (a 1 o)) (i + 1))) = if pc (rotN i (a 1 s) ^^^ a 1 o) < (if i = 0 then 17 else clG (a 1 s) (a 1 o) (bst (clG (a 1 s) (a 1 o)) i)) then pc (rotN i (a 1 s) ^^^ a 1 o) else (if i = 0 then 17 else clG (a 1 s) (a 1 o) (bst (clG (a 1 s) (a 1 o)) i)) := by
      rw [if_neg (by omega), e5]
      by_cases h : i = 0
      · subst h
        rw [if_pos rfl, if_pos (by omega), if_pos (by omega), e2]
      · rw [if_neg h]
        split
        · exact e2
        · rfl
    rw [e4, e6, e5]
    generalize (if i = 0 then 17 else clG (a 1 s) (a 1 o) (bst (clG (a 1 s) (a 1 o)) i)) = few at p2
    generalize bst (clG (a 1 s) (a 1 o)) i = best
    simp (disch := omega) only [fX8_closest_40, fX8_closest_78, fX8_at, rr_n r, rr_e r, rr_h r, rr_l r, rr_m r, rr_c r, rr_w r, rr_z r, rr_s r, rr_t r, rr_f r, rq_bits, rq_turned, lits, nJ_le, nJ_lt, nJ_eq, nJ_clamp, nJ_add, nI_mul, nI_sub, nI_and, nI_or, nI_xor, Nat.add_zero, Nat.not_lt_zero, leF, leT, ltF, ltT, eqF, eqT, bd, obp_some, Option.bind_some, reduceIte, reduceCtorEq, or_self, or_true, true_or, or_false, false_or]
    by_cases h : pc (rotN i (a 1 s) ^^^ a 1 o) < few
    · simp (disch := omega) only [lits, nJ_le, nJ_lt, nJ_eq, nJ_clamp, nJ_add, nI_mul, nI_sub, nI_and, nI_or, nI_xor, Nat.add_zero, Nat.not_lt_zero, leF, leT, ltF, ltT, eqF, eqT, bd, obp_some, Option.bind_some, reduceIte, reduceCtorEq, or_self, or_true, true_or, or_false, false_or, h, if_true]
    · simp (disch := omega) only [lits, nJ_le, nJ_lt, nJ_eq, nJ_clamp, nJ_add, nI_mul, nI_sub, nI_and, nI_or, nI_xor, Nat.add_zero, Nat.not_lt_zero, leF, leT, ltF, ltT, eqF, eqT, bd, obp_some, Option.bind_some, reduceIte, reduceCtorEq, or_self, or_true, true_or, or_false, false_or, h, if_false]
  · simp (disch := omega) only [fX8_closest_40, rr_n r, rr_e r, rr_h r, rr_l r, rr_m r, rr_c r, rr_w r, rr_z r, rr_s r, rr_t r, rr_f r, lits, nJ_le, nJ_lt, nJ_eq, nJ_clamp, nJ_add, nI_mul, nI_sub, nI_and, nI_or, nI_xor, Nat.add_zero, Nat.not_lt_zero, leF, leT, ltF, ltT, eqF, eqT, bd, obp_some, Option.bind_some, reduceIte, reduceCtorEq, or_self, or_true, true_or, or_false, false_or]
end
