theorem nL_toInt {n : Nat} (h : n < 9223372036854775808) : (nL n).toInt = n := by
  have e : nL n = Int64.ofInt (n : Int) := (Int64.ofInt_eq_ofNat).symm
  rw [e]
  exact Int64.toInt_ofInt_of_le (by omega) (by omega)
theorem nL_lt {a b : Nat} (ha : a < 9223372036854775808) (hb : b < 9223372036854775808) : nL a < nL b ↔ a < b := by
  rw [Int64.lt_iff_toInt_lt, nL_toInt ha, nL_toInt hb]
  omega
theorem nL_eq {a b : Nat} (ha : a < 9223372036854775808) (hb : b < 9223372036854775808) : nL a = nL b ↔ a = b := by
  rw [← Int64.toInt_inj, nL_toInt ha, nL_toInt hb]
  omega
theorem nL_div {a b : Nat} (ha : a < 9223372036854775808) (hb : b < 9223372036854775808) : nL a / nL b = nL (a / b) := by
  apply Int64.toInt_inj.mp
  have h1 : a / b ≤ a := Nat.div_le_self a b
  rw [Int64.toInt_div_of_ne_left, nL_toInt ha, nL_toInt hb, nL_toInt (by omega)]
  · rfl
  · intro h
    have := congrArg Int64.toInt h
    rw [nL_toInt ha] at this
    revert this
    have e : (Int64.minValue).toInt = -9223372036854775808 := by decide
    rw [e]
    omega
theorem nL_mul (a b : Nat) : nL a * nL b = nL (a * b) := by
  have e : ∀ n : Nat, nL n = Int64.ofInt (n : Int) := fun n => (Int64.ofInt_eq_ofNat).symm
  rw [e, e, e, ← Int64.ofInt_mul]
  rfl
theorem nL_sub {a b : Nat} (h : b ≤ a) : nL a - nL b = nL (a - b) := by
  have e : ∀ n : Nat, nL n = Int64.ofInt (n : Int) := fun n => (Int64.ofInt_eq_ofNat).symm
  rw [e, e, e, ← Int64.ofInt_sub, Int.ofNat_sub h]
theorem nL_mod {a b : Nat} (ha : a < 9223372036854775808) (hb : b < 9223372036854775808) : nL a - nL a / nL b * nL b = nL (a % b) := by
  rw [nL_div ha hb, nL_mul, nL_sub (Nat.div_mul_le_self a b)]
  congr 1
  have := Nat.div_add_mod a b
  rw [Nat.mul_comm] at this
  omega
theorem cmp_ge {a b : Nat} (ha : a < 9223372036854775808) (hb : b < 9223372036854775808) : (0 ≤ lg_cmp (nL a) (nL b)) ↔ b ≤ a := by
  unfold lg_cmp
  by_cases h : b < a
  · rw [if_pos ((nL_lt hb ha).mpr h)]
    exact ⟨fun _ => by omega, fun _ => by decide⟩
  · rw [if_neg (fun h2 => h ((nL_lt hb ha).mp h2))]
    by_cases h2 : a = b
    · rw [if_pos (by rw [h2])]
      exact ⟨fun _ => by omega, fun _ => by decide⟩
    · rw [if_neg (fun h3 => h2 ((nL_eq ha hb).mp h3))]
      exact ⟨fun h3 => absurd h3 (by decide), fun h3 => by omega⟩
theorem cmp_pos {a : Nat} (ha : a < 9223372036854775808) : (lg_cmp (nL a) (nL 0) ≤ 0) ↔ a = 0 := by
  unfold lg_cmp
  by_cases h : 0 < a
  · rw [if_pos ((nL_lt (by omega) ha).mpr h)]
    exact ⟨fun h3 => absurd h3 (by decide), fun h3 => by omega⟩
  · have : a = 0 := by omega
    subst this
    exact ⟨fun _ => rfl, fun _ => by decide⟩
theorem cmp_one {a : Nat} (ha : a < 9223372036854775808) : (lg_cmp (nL a) (nL 1) = 0) ↔ a = 1 := by
  unfold lg_cmp
  by_cases h : 1 < a
  · rw [if_pos ((nL_lt (by omega) ha).mpr h)]
    exact ⟨fun h3 => absurd h3 (by decide), fun h3 => by omega⟩
  · rw [if_neg (fun h2 => h ((nL_lt (by omega) ha).mp h2))]
    by_cases h2 : a = 1
    · rw [if_pos (by rw [h2])]
      exact ⟨fun _ => h2, fun _ => rfl⟩
    · rw [if_neg (fun h3 => h2 ((nL_eq ha (by omega)).mp h3))]
      exact ⟨fun h3 => absurd h3 (by decide), fun h3 => absurd h3 h2⟩
/-- a line as both sides write it -/
def LNp (n : Nat) (l v : vS) : Prop := l 0 1 = nI n ∧ v 0 21 = nI n ∧ ∀ i, i < n → l 1 i = v 7 i
def FL (v v' : vS) : Prop := (∀ b, b ≠ 0 → b ≠ 7 → v' b = v b) ∧ ∀ k, k ≠ 21 → v' 0 k = v 0 k
theorem fl_refl (v : vS) : FL v v := ⟨fun _ _ _ => rfl, fun _ _ => rfl⟩
theorem fl_trans {v1 v2 v3 : vS} (h : FL v1 v2) (g : FL v2 v3) : FL v1 v3 := ⟨fun b h0 h7 => (g.1 b h0 h7).trans (h.1 b h0 h7), fun k hk => (g.2 k hk).trans (h.2 k hk)⟩
theorem ln_put {n c : Nat} {l v : vS} (hn : n < 140) (hc : c < 127) (L : LNp n l v) : ∃ l' v', fX3_put (nI c) l = some l' ∧ fX8_writes (nI c) v = some v' ∧ LNp (n + 1) l' v' ∧ FL v v' := by
  obtain ⟨h1, h2, h3⟩ := L
  have j3 : ¬ (nI n < 0 ∨ 140 ≤ Int32.toNatClampNeg (nI n)) := (nJ_in (n := 140) (by omega) (by omega)).mp
  have l140 : (140 : Int32) = nI 140 := rfl
  refine ⟨up2 (up2 l 1 n (nI c)) 0 1 (nI (n + 1)), up2 (up2 v 7 n (nI c)) 0 21 (nI (n + 1)), ?_, ?_, ⟨rfl, rfl, fun i hi => ?_⟩, fun b h0 h7 => ?_, fun k hk => ?_⟩
  · rw [fX3_put, h1, if_neg (by rw [l140, nJ_le (by omega) (by omega)]; omega), if_neg j3, nJ_clamp (by omega), nar_char c hc]
    dsimp only [bd]
    rw [show up2 l 1 n (nI c) 0 1 = nI n from h1, l32_1, nJ_add]
  · rw [fX8_writes, h2, if_neg j3, nJ_clamp (by omega)]
    dsimp only [bd]
    rw [show up2 v 7 n (nI c) 0 21 = nI n from h2, l32_1, nJ_add]
  · show upd (l 1) n (nI c) i = upd (v 7) n (nI c) i
    by_cases e : i = n
    · rw [upd_eq e, upd_eq e]
    · rw [upd_ne e, upd_ne e]
      exact h3 i (by omega)
  · rw [up2_o h0, up2_o h7]
  · show upd (v 0) 21 (nI (n + 1)) k = _
    rw [upd_ne hk]
theorem dig_c : ∀ d : Nat, d < 10 → (Int32.toUInt32 (Int64.toInt32 ((48 : Int64) + nL d)) % 65536).toInt32 = nI (48 + d) := by decide +kernel
theorem p10_le {k : Nat} (h : k ≤ 9) : 10 ^ k ≤ 1000000000 := by
  have : 10 ^ k ≤ 10 ^ 9 := Nat.pow_le_pow_right (by omega) h
  omega
theorem p10_pos (k : Nat) : 1 ≤ 10 ^ k := Nat.one_le_pow k 10 (by omega)
theorem ln_digits {m : Nat} (hm : m < 2147483648) : ∀ k, k ≤ 9 → (10 ^ k ≤ m ∨ k = 0) → ∀ n7 n8 j l v, k + 2 ≤ n7 → k + 2 ≤ n8 → j + k + 1 ≤ 140 → LNp j l v → ∃ l' v', fX3_putNumber_23 n7 (nL m) (nL (10 ^ k)) l = some l' ∧ fX8_writesNumber_39 n8 (nI m) (nI (10 ^ k)) v = some v' ∧ LNp (j + k + 1) l' v' ∧ FL v v' := by
  intro k
  induction k with
  | zero =>
    intro hk hc n7 n8 j l v h7 h8 hj L
    obtain ⟨n7, rfl⟩ : ∃ n, n7 = n + 1 + 1 := ⟨n7 - 2, by omega⟩
    obtain ⟨n8, rfl⟩ : ∃ n, n8 = n + 1 + 1 := ⟨n8 - 2, by omega⟩
    have hd : m % 10 < 10 := Nat.mod_lt m (by omega)
    obtain ⟨l', v', e1, e2, L', f⟩ := ln_put (c := 48 + m % 10) (by omega) (by omega) L
    refine ⟨l', v', ?_, ?_, L', f⟩
    · have a1 : fX3_putNumber_44 (fun a0 a1 a2 => fX3_putNumber_23 (n7 + 1) a0 a1 a2) (nL m) (nL (10 ^ 0)) l = some l' := by
        have t1 : nL m / nL 1 = nL m := by rw [nL_div (by omega) (by omega), Nat.div_one]
        rw [fX3_putNumber_44, if_neg (by decide), show nL (10 ^ 0) = nL 1 from rfl, t1, show (10 : Int64) = nL 10 from rfl, nL_mod (by omega) (by omega), dig_c _ hd, e1, Option.bind_some]
        dsimp only [bd]
        rw [nL_div (by omega) (by omega), fX3_putNumber_23]
        exact if_pos (by decide)
      rw [fX3_putNumber_23, if_neg (by decide)]
      by_cases h : 0 ≤ lg_cmp (nL m) (nL (10 ^ 0))
      · rw [if_pos h]; exact a1
      · rw [if_neg h, if_pos (by decide)]; exact a1
    · rw [fX8_writesNumber_39, if_neg (by decide), if_neg (by decide), show nI (10 ^ 0) = nI 1 from rfl, nI_div (by omega) (by omega), Nat.div_one, show (10 : Int32) = nI 10 from rfl, nI_mod (by omega) (by omega), show (48 : Int32) = nI 48 from rfl, nJ_add, e2, Option.bind_some]
      dsimp only [bd]
      rw [nI_div (by omega) (by omega), fX8_writesNumber_39]
      exact if_pos (by decide)
  | succ k ih =>
    intro hk hc n7 n8 j l v h7 h8 hj L
    obtain ⟨n7, rfl⟩ : ∃ n, n7 = n + 1 := ⟨n7 - 1, by omega⟩
    obtain ⟨n8, rfl⟩ : ∃ n, n8 = n + 1 := ⟨n8 - 1, by omega⟩
    have hp := p10_le hk
    have hp1 := p10_pos k
    have hps : 10 ^ (k + 1) = 10 ^ k * 10 := Nat.pow_succ 10 k
    have hge : 10 ^ (k + 1) ≤ m := by
      rcases hc with h | h
      · exact h
      · omega
    have hd : m / 10 ^ (k + 1) % 10 < 10 := Nat.mod_lt _ (by omega)
    have hq : m / 10 ^ (k + 1) ≤ m := Nat.div_le_self _ _
    have hdiv : 10 ^ (k + 1) / 10 = 10 ^ k := by omega
    obtain ⟨l', v', e1, e2, L', f⟩ := ln_put (c := 48 + m / 10 ^ (k + 1) % 10) (by omega) (by omega) L
    obtain ⟨l2, v2, g1, g2, L2, f2⟩ := ih (by omega) (Or.inl (by omega)) n7 n8 (j + 1) l' v' (by omega) (by omega) (by omega) L'
    refine ⟨l2, v2, ?_, ?_, by rw [show j + (k + 1) + 1 = j + 1 + k + 1 from by omega]; exact L2, fl_trans f f2⟩
    · generalize hP : 10 ^ (k + 1) = P at *
      have c1 : ¬ lg_cmp (nL P) (0 : Int64) ≤ 0 := by
        have := cmp_pos (a := P) (by omega)
        intro h
        have := this.mp h
        omega
      have c2 : 0 ≤ lg_cmp (nL m) (nL P) := (cmp_ge (by omega) (by omega)).mpr hge
      have c3 : ¬ nL P = 0 := by
        intro h
        have := (nL_eq (b := 0) (by omega) (by omega)).mp h
        omega
      rw [fX3_putNumber_23, if_neg c1, if_pos c2, fX3_putNumber_44, if_neg c3, nL_div (by omega) (by omega), show (10 : Int64) = nL 10 from rfl, nL_mod (by omega) (by omega), dig_c _ hd, e1, Option.bind_some]
      dsimp only [bd]
      rw [nL_div (by omega) (by omega), hdiv]
      exact g1
    · generalize hP : 10 ^ (k + 1) = P at *
      have c1 : ¬ nI P ≤ 0 := by rw [l32_0, nJ_le (by omega) (by omega)]; omega
      have c3 : ¬ nI P = 0 := by rw [l32_0, nJ_eq (by omega) (by omega)]; omega
      rw [fX8_writesNumber_39, if_neg c1, if_neg c3, nI_div (by omega) (by omega), show (10 : Int32) = nI 10 from rfl, nI_mod (by omega) (by omega), show (48 : Int32) = nI 48 from rfl, nJ_add, e2, Option.bind_some]
      dsimp only [bd]
      rw [nI_div (by omega) (by omega), hdiv]
      exact g2
theorem top_p (m : Nat) : ∀ q, m < 10 ^ (q + 1) → ∃ p, p ≤ q ∧ (10 ^ p ≤ m ∨ p = 0) ∧ m < 10 ^ (p + 1) := by
  intro q
  induction q with
  | zero => intro h; exact ⟨0, Nat.le_refl _, Or.inr rfl, h⟩
  | succ q ih =>
    intro h
    by_cases h2 : m < 10 ^ (q + 1)
    · obtain ⟨p, h3, h4⟩ := ih h2
      exact ⟨p, by omega, h4⟩
    · exact ⟨q + 1, Nat.le_refl _, Or.inl (by omega), h⟩
theorem cls_skip {m : Nat} (l : vS) : ∀ d p n, p + d ≤ 9 → m < 10 ^ (p + 1) → fX3_putNumber_23 (n + d) (nL m) (nL (10 ^ (p + d))) l = fX3_putNumber_23 n (nL m) (nL (10 ^ p)) l := by
  intro d
  induction d with
  | zero => intro p n _ _; rfl
  | succ d ih =>
    intro p n h1 h2
    have hp := p10_le h1
    have hp1 := p10_pos (p + d)
    have hps : 10 ^ (p + (d + 1)) = 10 ^ (p + d) * 10 := Nat.pow_succ 10 (p + d)
    have hle : 10 ^ (p + 1) ≤ 10 ^ (p + (d + 1)) := Nat.pow_le_pow_right (by omega) (by omega)
    have hdiv : 10 ^ (p + (d + 1)) / 10 = 10 ^ (p + d) := by omega
    rw [← ih p n (by omega) h2]
    generalize hP : 10 ^ (p + (d + 1)) = P at *
    have c1 : ¬ lg_cmp (nL P) (0 : Int64) ≤ 0 := by
      have := cmp_pos (a := P) (by omega)
      intro h
      have := this.mp h
      omega
    have c2 : ¬ 0 ≤ lg_cmp (nL m) (nL P) := by
      rw [cmp_ge (by omega) (by omega)]
      omega
    have c3 : ¬ lg_cmp (nL P) (1 : Int64) = 0 := by
      have := cmp_one (a := P) (by omega)
      intro h
      have := this.mp h
      omega
    show fX3_putNumber_23 (n + d + 1) (nL m) (nL P) l = _
    rw [fX3_putNumber_23, if_neg c1, if_neg c2, if_neg c3]
    dsimp only [bd]
    rw [show (10 : Int64) = nL 10 from rfl, nL_div (by omega) (by omega), hdiv]
theorem ref_up {m : Nat} (hm : m < 2147483648) (v : vS) : ∀ d k n, k + d ≤ 9 → (10 ^ (k + d) ≤ m ∨ d = 0) → m < 10 ^ (k + d + 1) → fX8_writesNumber_23 (n + d + 1) (nI m) (nI (10 ^ k)) v = fX8_writesNumber_39 vF (nI m) (nI (10 ^ (k + d))) v := by
  intro d
  induction d with
  | zero =>
    intro k n h1 h2 h3
    have hp := p10_le (show k ≤ 9 by omega)
    have hp1 := p10_pos k
    have hps : 10 ^ (k + 1) = 10 ^ k * 10 := Nat.pow_succ 10 k
    rw [Nat.add_zero] at h3 ⊢
    rw [Nat.add_zero]
    have hlt : m / 10 ^ k < 10 := by
      rw [Nat.div_lt_iff_lt_mul (by omega), Nat.mul_comm]
      omega
    generalize hP : 10 ^ k = P at *
    have hq : m / P ≤ m := Nat.div_le_self _ _
    have c3 : ¬ nI P = 0 := by rw [l32_0, nJ_eq (by omega) (by omega)]; omega
    have c4 : nI (m / P) < (10 : Int32) := (nJ_lt (b := 10) (by omega) (by omega)).mpr hlt
    rw [fX8_writesNumber_23, if_neg c3, nI_div (by omega) (by omega), if_pos c4]
  | succ d ih =>
    intro k n h1 h2 h3
    have hp := p10_le (show k + 1 ≤ 9 by omega)
    have hp1 := p10_pos k
    have hps : 10 ^ (k + 1) = 10 ^ k * 10 := Nat.pow_succ 10 k
    have hge : 10 ^ (k + 1) ≤ m := by
      have hle : 10 ^ (k + 1) ≤ 10 ^ (k + (d + 1)) := Nat.pow_le_pow_right (by omega) (by omega)
      omega
    have e := ih (k + 1) n (by omega) (by rw [show k + 1 + d = k + (d + 1) from by omega]; rcases h2 with h | h <;> omega) (by rw [show k + 1 + d + 1 = k + (d + 1) + 1 from by omega]; exact h3)
    rw [show k + (d + 1) = k + 1 + d from by omega, ← e, hps]
    have hnl : ¬ m / 10 ^ k < 10 := by
      rw [Nat.div_lt_iff_lt_mul (by omega), Nat.mul_comm]
      omega
    generalize hP : 10 ^ k = P at *
    have hq : m / P ≤ m := Nat.div_le_self _ _
    have c3 : ¬ nI P = 0 := by rw [l32_0, nJ_eq (by omega) (by omega)]; omega
    have c4 : ¬ nI (m / P) < (10 : Int32) := fun h => hnl ((nJ_lt (b := 10) (by omega) (by omega)).mp h)
    show fX8_writesNumber_23 (n + (d + 1) + 1) (nI m) (nI P) v = _
    rw [fX8_writesNumber_23, if_neg c3, nI_div (by omega) (by omega), if_neg c4]
    dsimp only [bd]
    rw [show (10 : Int32) = nI 10 from rfl, nI_mul]
    rfl
theorem ln_num (q : Nat) {m j : Nat} {l v : vS} (hq : q ≤ 8) (hm : m < 10 ^ (q + 1)) (hj : j + q + 1 ≤ 140) (L : LNp j l v) : ∃ j' l' v', fX3_putNumber_23 vF (nL m) (1000000000 : Int64) l = some l' ∧ fX8_writesNumber_23 vF (nI m) (1 : Int32) v = some v' ∧ LNp j' l' v' ∧ j' ≤ j + q + 1 ∧ FL v v' := by
  have hm9 : 10 ^ (q + 1) ≤ 1000000000 := p10_le (by omega)
  obtain ⟨p, h1, h2, h3⟩ := top_p m q hm
  have e7 := cls_skip (m := m) l (9 - p) p (vF - (9 - p)) (by omega) h3
  rw [show vF - (9 - p) + (9 - p) = vF from by unfold vF; omega, show p + (9 - p) = 9 from by omega] at e7
  have e8 := ref_up (m := m) (by omega) v p 0 (vF - p - 1) (by omega) (by rw [Nat.zero_add]; rcases h2 with h | h; exact Or.inl h; exact Or.inr h) (by rw [Nat.zero_add]; exact h3)
  rw [show vF - p - 1 + p + 1 = vF from by unfold vF; omega, Nat.zero_add] at e8
  obtain ⟨l', v', g1, g2, L', f⟩ := ln_digits (m := m) (by omega) p (by omega) h2 (vF - (9 - p)) vF j l v (by unfold vF; omega) (by unfold vF; omega) (by omega) L
  refine ⟨j + p + 1, l', v', ?_, ?_, L', by omega, f⟩
  · rw [← g1, ← e7]
    rfl
  · rw [← g2, ← e8]
    rfl
theorem num_nn (q : Nat) {m j : Nat} {l v : vS} (hq : q ≤ 8) (hm : m < 10 ^ (q + 1)) (hj : j + q + 1 ≤ 140) (L : LNp j l v) : ∃ j' l' v', fX3_putNumber (nI m) l = some l' ∧ fX8_writesNumber (nI m) v = some v' ∧ LNp j' l' v' ∧ j' ≤ j + q + 1 ∧ FL v v' := by
  have hm9 : 10 ^ (q + 1) ≤ 1000000000 := p10_le (by omega)
  obtain ⟨j', l', v', e1, e2, h⟩ := ln_num q hq hm hj L
  have h0 : (0 : Int32) ≤ nI m := (nJ_le (a := 0) (by omega) (by omega)).mpr (by omega)
  refine ⟨j', l', v', ?_, ?_, h⟩
  · rw [fX3_putNumber]
    dsimp only [bd]
    have c : 0 ≤ lg_cmp (nL m) (0 : Int64) := (cmp_ge (a := m) (b := 0) (by omega) (by omega)).mpr (by omega)
    rw [nI_toLong (by omega), if_pos c]
    exact e1
  · rw [fX8_writesNumber, if_pos h0, fX8_writesNumber_10, if_pos h0]
    exact e2
theorem neg_all : ∀ k : Nat, k < 20 → 0 < k → ¬ (0 ≤ lg_cmp (Int32.toInt64 (iI (-(k : Int)))) (0 : Int64)) ∧ -(Int32.toInt64 (iI (-(k : Int)))) = nL k ∧ -(iI (-(k : Int))) = nI k ∧ ¬ (0 : Int32) ≤ iI (-(k : Int)) := by decide +kernel
theorem num_all {z : Int} {j : Nat} {l v : vS} (h1 : -16 ≤ z) (h2 : z ≤ 17) (hj : j + 11 ≤ 140) (L : LNp j l v) : ∃ j' l' v', fX3_putNumber (iI z) l = some l' ∧ fX8_writesNumber (iI z) v = some v' ∧ LNp j' l' v' ∧ j' ≤ j + 11 ∧ FL v v' := by
  by_cases h : 0 ≤ z
  · obtain ⟨m, rfl⟩ : ∃ m : Nat, z = (m : Int) := ⟨z.toNat, by omega⟩
    obtain ⟨j', l', v', e1, e2, e3, e4, e5⟩ := num_nn 1 (m := m) (by omega) (by omega) (by omega) L
    rw [nI_iI] at e1 e2
    exact ⟨j', l', v', e1, e2, e3, by omega, e5⟩
  · obtain ⟨k, rfl⟩ : ∃ k : Nat, z = -(k : Int) := ⟨(-z).toNat, by omega⟩
    obtain ⟨n1, n2, n3, n4⟩ := neg_all k (by omega) (by omega)
    obtain ⟨l1, v1, p1, p2, L1, f1⟩ := ln_put (c := 45) (by omega) (by omega) L
    obtain ⟨j', l', v', e1, e2, e3, e4, e5⟩ := ln_num 1 (m := k) (by omega) (by omega) (by omega) L1
    refine ⟨j', l', v', ?_, ?_, e3, by omega, fl_trans f1 e5⟩
    · rw [fX3_putNumber]
      dsimp only [bd]
      rw [if_neg n1, show (45 : Int32) = nI 45 from rfl, p1, Option.bind_some, n2]
      exact e1
    · rw [fX8_writesNumber, if_neg n4, fX8_writesNumber_10, if_neg n4, show (45 : Int32) = nI 45 from rfl, p2, Option.bind_some, n3]
      exact e2
