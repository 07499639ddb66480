/-! THE CLASS'S LINE AS A TEXT -/
def lnT (l : vS) (T : List Nat) : Prop := l 0 1 = nI T.length ∧ T.length ≤ 140 ∧ ∀ i, i < T.length → l 1 i = nI (T.getD i 0)
theorem ln_clear (l : vS) : ∃ l', fX3_clear l = some l' ∧ lnT l' [] := by
  refine ⟨_, rfl, ?_, Nat.zero_le _, fun i hi => absurd hi (Nat.not_lt_zero i)⟩
  rfl
theorem nar_c : ∀ c : Nat, c < 256 → vp_nar .char (nI c) = nI c := by decide +kernel
theorem ln_put {l : vS} {T : List Nat} {c : Nat} (h : lnT l T) (hc : c < 256) (hT : T.length + 1 ≤ 140) : ∃ l', fX3_put (nI c) l = some l' ∧ lnT l' (T ++ [c]) := by
  obtain ⟨h1, h2, h3⟩ := h
  unfold fX3_put
  simp only [bdE]
  rw [h1, if_neg (show ¬ (140 : Int32) ≤ nI T.length from nI_ge (b := 140) (by omega) (by omega)), if_neg (nI_in (by omega) (by omega)), nI_clamp (by omega), nar_c c hc]
  refine ⟨_, rfl, ?_, by rw [List.length_append]; exact hT, fun i hi => ?_⟩
  · rw [List.length_append]
    show up2 (up2 l 1 T.length (nI c)) 0 1 (up2 l 1 T.length (nI c) 0 1 + 1) 0 1 = _
    simp [up2, h1]
    rw [nI_1]
    exact pk_us
  · rw [List.length_append] at hi
    show up2 (up2 l 1 T.length (nI c)) 0 1 (up2 l 1 T.length (nI c) 0 1 + 1) 1 i = _
    by_cases e : i < T.length
    · rw [gD_l e, ← h3 i e]
      have e2 : i ≠ T.length := by omega
      simp [up2]
      exact pk_un e2
    · have e2 : i = T.length := by simp at hi; omega
      subst e2
      rw [gD_r (Nat.le_refl _), Nat.sub_self]
      simp [up2]
      exact pk_us
/-- digits p .. 0 of m -/
def dP : Nat → Nat → List Nat
  | 0, m => [48 + m % 10]
  | p + 1, m => (48 + m / 10 ^ (p + 1) % 10) :: dP p m
theorem dP_len : ∀ p m, (dP p m).length = p + 1
  | 0, _ => rfl
  | p + 1, m => by rw [dP, List.length_cons, dP_len p m]
theorem dP_snoc : ∀ p m, dP (p + 1) m = dP p (m / 10) ++ [48 + m % 10]
  | 0, m => by rw [dP, dP, dP]; simp
  | p + 1, m => by
    rw [dP, dP_snoc p m, dP, Nat.div_div_eq_div_mul, ← Nat.pow_succ']
    rfl
theorem dT_dP : ∀ p m, p ≤ 9 → m < 10 ^ (p + 1) → (10 ^ p ≤ m ∨ p = 0) → dT m = dP p m
  | 0, m, _, h, _ => by
    have h1 : m < 10 := by simpa using h
    rw [dT_lt h1, dP, Nat.mod_eq_of_lt h1]
  | p + 1, m, hp, h, h2 => by
    have e1 : (10 : Nat) ^ (p + 1 + 1) = 10 ^ (p + 1) * 10 := Nat.pow_succ 10 (p + 1)
    have e2 : (10 : Nat) ^ (p + 1) = 10 ^ p * 10 := Nat.pow_succ 10 p
    have e3 : 1 ≤ 10 ^ p := Nat.one_le_pow p 10 (by omega)
    have e4 : (10 : Nat) ^ p ≤ 10 ^ 9 := Nat.pow_le_pow_right (by omega) (by omega)
    have e5 : (10 : Nat) ^ 9 = 1000000000 := by decide
    have h3 : 10 ^ (p + 1) ≤ m := by
      rcases h2 with h2 | h2
      · exact h2
      · omega
    rw [dT_10 (by omega) (by omega), dT_dP p (m / 10) (by omega) (by omega) (Or.inl (by omega)), dP_snoc]
theorem cls_digits {m : Nat} (hm : m < 10000000000) : ∀ p n (l : vS) (T : List Nat), p ≤ 9 → (10 ^ p ≤ m ∨ p = 0) → lnT l T → T.length + (p + 1) ≤ 140 → p + 1 < n → ∃ l', fX3_putNumber_23 n (nL m) (nL (10 ^ p)) l = some l' ∧ lnT l' (T ++ dP p m) := by
  intro p
  induction p with
  | zero =>
    intro n l T _ _ h hT hn
    obtain ⟨n, rfl⟩ : ∃ k, n = k + 2 := ⟨n - 2, by omega⟩
    have c1 : ¬ lg_cmp (nL 1) (0 : Int64) ≤ 0 := by decide
    have c3 : lg_cmp (nL 1) (1 : Int64) = 0 := by decide
    obtain ⟨l', e1, e2⟩ := ln_put (c := 48 + m % 10) h (by omega) (by omega)
    have hd : ∀ rec, fX3_putNumber_44 rec (nL m) (nL 1) l = rec (nL m) (nL 0) l' := by
      intro rec
      unfold fX3_putNumber_44
      rw [if_neg (by decide), nL_div (by omega) (by omega), show (10 : Int64) = nL 10 from rfl, nL_mod (by omega) (by omega), Nat.div_one, dig_c _ (by omega), e1]
      rfl
    refine ⟨l', ?_, e2⟩
    show fX3_putNumber_23 (n + 1 + 1) (nL m) (nL 1) l = _
    rw [fX3_putNumber_23, if_neg c1, hd, if_pos c3]
    have c4 : lg_cmp (nL 0) (0 : Int64) ≤ 0 := by decide
    have e9 : fX3_putNumber_23 (n + 1) (nL m) (nL 0) l' = some l' := by rw [fX3_putNumber_23, if_pos c4]
    rw [e9]
    split <;> rfl
  | succ p ih =>
    intro n l T hp h2 h hT hn
    obtain ⟨n, rfl⟩ : ∃ k, n = k + 1 := ⟨n - 1, by omega⟩
    have e2 : (10 : Nat) ^ (p + 1) = 10 ^ p * 10 := Nat.pow_succ 10 p
    have e3 := p10_pos p
    have e4 := p10_le (k := p + 1) (by omega)
    have h3 : 10 ^ (p + 1) ≤ m := by
      rcases h2 with h2 | h2
      · exact h2
      · omega
    obtain ⟨l1, f1, f2⟩ := ln_put (c := 48 + m / 10 ^ (p + 1) % 10) h (by omega) (by omega)
    obtain ⟨l', g1, g2⟩ := ih n l1 _ (by omega) (Or.inl (by omega)) f2 (by rw [List.length_append]; simp; omega) (by omega)
    refine ⟨l', ?_, by rw [List.append_assoc] at g2; exact g2⟩
    have hdiv : 10 ^ (p + 1) / 10 = 10 ^ p := by omega
    have hq : m / 10 ^ (p + 1) < 10000000000 := Nat.lt_of_le_of_lt (Nat.div_le_self _ _) hm
    generalize hP : 10 ^ (p + 1) = P at *
    have c1 : ¬ lg_cmp (nL P) (0 : Int64) ≤ 0 := by
      have := cmp_pos (a := P) (by omega)
      intro z
      have := this.mp z
      omega
    have c2 : 0 ≤ lg_cmp (nL m) (nL P) := (cmp_ge (by omega) (by omega)).mpr (by omega)
    rw [fX3_putNumber_23, if_neg c1, if_pos c2]
    unfold fX3_putNumber_44
    rw [if_neg (show ¬ nL P = 0 from fun z => by
      have := (nL_eq (a := P) (b := 0) (by omega) (by omega)).mp z
      omega), nL_div (by omega) (by omega), show (10 : Int64) = nL 10 from rfl, nL_mod (by omega) (by omega), dig_c _ (by omega), f1]
    simp only [Option.bind_some, bdE]
    rw [nL_div (by omega) (by omega), hdiv]
    exact g1
theorem ln_num {m : Nat} (hm : m < 2147483648) {l : vS} {T : List Nat} (h : lnT l T) (hT : T.length + (dT m).length ≤ 140) : ∃ l', fX3_putNumber_23 vF (nL m) (1000000000 : Int64) l = some l' ∧ lnT l' (T ++ dT m) := by
  obtain ⟨p, h1, h2, h3⟩ := top_p m 9 (by
    have e : (10 : Nat) ^ (9 + 1) = 10000000000 := by decide
    omega)
  have e1 := dT_dP p m h1 h3 h2
  rw [e1, dP_len] at hT
  rw [e1]
  obtain ⟨l', e2, e3⟩ := cls_digits (m := m) (by omega) p (vF - (9 - p)) l T h1 h2 h hT (by unfold vF; omega)
  refine ⟨l', ?_, e3⟩
  have := cls_skip (m := m) l (9 - p) p (vF - (9 - p)) (by omega) h3
  rw [show vF - (9 - p) + (9 - p) = vF by unfold vF; omega, show p + (9 - p) = 9 by omega] at this
  exact this.trans e2
theorem ln_int {z : Int} (h1 : -20 < z) (h2 : z < 2147483648) {l : vS} {T : List Nat} (h : lnT l T) (hT : T.length + (iT z).length ≤ 140) : ∃ l', fX3_putNumber (iI z) l = some l' ∧ lnT l' (T ++ iT z) := by
  unfold fX3_putNumber
  simp only [bdE]
  by_cases hz : z < 0
  · have e : iT z = [45] ++ dT z.natAbs := by rw [iT, if_pos hz]
    rw [e, List.length_append, List.length_singleton] at hT
    rw [e, ← List.append_assoc]
    obtain ⟨a1, a2, -, -⟩ := neg_all z.natAbs (by omega) (by omega)
    rw [show -(z.natAbs : Int) = z by omega] at a1 a2
    obtain ⟨l1, f1, f2⟩ := ln_put (c := 45) h (by omega) (by omega)
    obtain ⟨l', g1, g2⟩ := ln_num (m := z.natAbs) (by omega) f2 (by rw [List.length_append, List.length_singleton]; omega)
    rw [if_neg a1, show (45 : Int32) = nI 45 from rfl, f1]
    simp only [Option.bind_some]
    rw [a2]
    exact ⟨l', g1, g2⟩
  · have e : iT z = dT z.natAbs := by rw [iT, if_neg hz, List.nil_append]
    rw [e] at hT ⊢
    obtain ⟨l', g1, g2⟩ := ln_num (m := z.natAbs) (by omega) h hT
    rw [show iI z = nI z.natAbs by rw [nI_iI, show ((z.natAbs : Nat) : Int) = z by omega], nI_l (by omega)]
    have c : 0 ≤ lg_cmp (nL z.natAbs) (0 : Int64) := (cmp_ge (b := 0) (by omega) (by omega)).mpr (Nat.zero_le _)
    exact ⟨l', by rw [show lN z.natAbs = nL z.natAbs from rfl, if_pos c]; exact g1, g2⟩
/-- a mood's four hex digits -/
theorem hx_shr {m k : Nat} (hm : m < 65536) (hk : k < 32) : (nI m >>> (nI k &&& 31)) &&& 15 = nI (m / 2 ^ k % 16) := by
  rw [nI_shr (by omega) hk, hx_and, Nat.shiftRight_eq_div_pow]
theorem hx_chr : ∀ d, d < 16 → (if (10 : Int32) ≤ nI d then (Int32.toUInt32 (((97 : Int32) + nI d) - (10 : Int32)) % 65536).toInt32 else (Int32.toUInt32 ((48 : Int32) + nI d) % 65536).toInt32) = nI (hD d) := by decide +kernel
theorem ln_hex1 {m k n : Nat} {l : vS} {T : List Nat} (hm : m < 65536) (hk : k < 32) (h : lnT l T) (hT : T.length + 1 ≤ 140) : ∃ l', fX3_putMood_3 (n + 1) (nI m) (nI k) l = fX3_putMood_3 n (nI m) (nI k + (-4)) l' ∧ lnT l' (T ++ [hD (m / 2 ^ k % 16)]) := by
  have hd : m / 2 ^ k % 16 < 16 := Nat.mod_lt _ (by decide)
  obtain ⟨l', f1, f2⟩ := ln_put (c := hD (m / 2 ^ k % 16)) h (hD_dig _ hd).2 hT
  refine ⟨l', ?_, f2⟩
  rw [fX3_putMood_3, if_neg (show ¬ nI k < 0 from nI_neg0 (by omega))]
  simp only [bdE]
  rw [hx_shr hm hk]
  have e := hx_chr _ hd
  by_cases hc : (10 : Int32) ≤ nI (m / 2 ^ k % 16)
  · rw [if_pos hc] at e ⊢
    rw [e, f1]; rfl
  · rw [if_neg hc] at e ⊢
    rw [e, f1]; rfl
theorem ln_hex {m : Nat} {l : vS} {T : List Nat} (hm : m < 65536) (h : lnT l T) (hL : T.length + 4 ≤ 140) : ∃ l', fX3_putMood (nI m) l = some l' ∧ lnT l' (T ++ hT m) := by
  obtain ⟨l1, a1, b1⟩ := ln_hex1 (m := m) (k := 12) (n := 999) hm (by decide) h (by omega)
  obtain ⟨l2, a2, b2⟩ := ln_hex1 (m := m) (k := 8) (n := 998) hm (by decide) b1 (by rw [List.length_append, List.length_singleton]; omega)
  obtain ⟨l3, a3, b3⟩ := ln_hex1 (m := m) (k := 4) (n := 997) hm (by decide) b2 (by rw [List.length_append, List.length_append, List.length_singleton, List.length_singleton]; omega)
  obtain ⟨l4, a4, b4⟩ := ln_hex1 (m := m) (k := 0) (n := 996) hm (by decide) b3 (by rw [List.length_append, List.length_append, List.length_append, List.length_singleton, List.length_singleton, List.length_singleton]; omega)
  refine ⟨l4, ?_, ?_⟩
  · show fX3_putMood_3 (999 + 1) (nI m) (nI 12) l = _
    rw [a1, show nI 12 + (-4) = nI 8 by decide, a2, show nI 8 + (-4) = nI 4 by decide, a3, show nI 4 + (-4) = nI 0 by decide, a4, fX3_putMood_3, if_pos (by decide)]
  · rw [List.append_assoc, List.append_assoc, List.append_assoc] at b4
    rw [show hT m = [hD (m / 2 ^ 12 % 16)] ++ ([hD (m / 2 ^ 8 % 16)] ++ ([hD (m / 2 ^ 4 % 16)] ++ [hD (m / 2 ^ 0 % 16)])) by
      show [_, _, _, _] = [_, _, _, _]
      rw [show m / 2 ^ 0 = m by simp]]
    exact b4
