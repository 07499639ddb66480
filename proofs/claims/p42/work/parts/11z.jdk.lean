/-! THE JDK'S TEXTS: decimal digits as letters; what stringSize and getChars do -/
def dTf : Nat → Nat → List Nat
  | 0, _ => []
  | n + 1, v => if v < 10 then [48 + v] else dTf n (v / 10) ++ [48 + v % 10]
def dT (v : Nat) : List Nat := dTf 11 v
def iT (z : Int) : List Nat := (if z < 0 then [45] else []) ++ dT z.natAbs
theorem dTf_up : ∀ n v, v < 10 ^ (n + 1) → dTf (n + 2) v = dTf (n + 1) v
  | 0, v, h => by
    have h1 : v < 10 := by simpa using h
    rw [dTf, dTf, if_pos h1, if_pos h1]
  | n + 1, v, h => by
    rw [dTf, dTf]
    by_cases h1 : v < 10
    · rw [if_pos h1, if_pos h1]
    · rw [if_neg h1, if_neg h1, dTf_up n (v / 10) (by
        have e : (10 : Nat) ^ (n + 1 + 1) = 10 ^ (n + 1) * 10 := Nat.pow_succ 10 (n + 1)
        rw [e] at h
        exact Nat.div_lt_of_lt_mul (by omega))]
theorem dT_lt {v : Nat} (h : v < 10) : dT v = [48 + v] := by rw [dT, dTf, if_pos h]
theorem dT_10 {v : Nat} (h : 10 ≤ v) (h2 : v < 100000000000) : dT v = dT (v / 10) ++ [48 + v % 10] := by
  rw [dT, dTf, if_neg (by omega), dT, dTf_up 9 (v / 10) (by
    have e : (10 : Nat) ^ (9 + 1) = 10000000000 := by decide
    rw [e]; omega)]
theorem dT_100 {v : Nat} (h : 100 ≤ v) (h2 : v < 100000000000) : dT v = dT (v / 100) ++ [48 + v % 100 / 10] ++ [48 + v % 100 % 10] := by
  rw [dT_10 (by omega) h2, dT_10 (v := v / 10) (by omega) (by omega), show v / 10 / 10 = v / 100 by omega, show v / 10 % 10 = v % 100 / 10 by omega, show v % 10 = v % 100 % 10 by omega]
theorem dT_99 {v : Nat} (h : 10 ≤ v) (h2 : v < 100) : dT v = [48 + v / 10] ++ [48 + v % 10] := by
  rw [dT_10 h (by omega), dT_lt (by omega)]
theorem dT_len : ∀ k v, v < 10 ^ (k + 1) → (10 ^ k ≤ v ∨ k = 0) → k ≤ 10 → (dT v).length = k + 1
  | 0, v, h, _, _ => by rw [dT_lt (by simpa using h)]; rfl
  | k + 1, v, h, h2, h3 => by
    have e1 : (10 : Nat) ^ (k + 1 + 1) = 10 ^ (k + 1) * 10 := Nat.pow_succ 10 (k + 1)
    have e2 : (10 : Nat) ^ (k + 1) = 10 ^ k * 10 := Nat.pow_succ 10 k
    have h4 : 10 ^ (k + 1) ≤ v := by
      rcases h2 with h2 | h2
      · exact h2
      · omega
    have h5 : 1 ≤ 10 ^ k := Nat.one_le_pow k 10 (by omega)
    have h6 : (10 : Nat) ^ (k + 1 + 1) ≤ 10 ^ 11 := Nat.pow_le_pow_right (by omega) (by omega)
    have h7 : (10 : Nat) ^ 11 = 100000000000 := by decide
    rw [dT_10 (by omega) (by omega), List.length_append, dT_len k (v / 10) (by omega) (Or.inl (by omega)) (by omega)]
    rfl
theorem dT_pos (v : Nat) : 1 ≤ (dT v).length := by
  rw [dT, dTf]
  split
  · exact Nat.le_refl 1
  · rw [List.length_append]; exact Nat.le_add_left 1 _
theorem m10 : (-10 : Int32) = iI (-((10 ^ 1 : Nat) : Int)) := by decide +kernel
theorem p10i : (10 : Int32) = iI 10 := by decide +kernel
theorem m100 : (-100 : Int32) = iI (-100) := by decide +kernel
theorem m9 : (-9 : Int32) = iI (-9) := by decide +kernel
theorem m1 : (-1 : Int32) = iI (-1) := by decide +kernel
theorem c10 : ((10 : Nat) ^ 1 : Nat) = 10 := by decide
theorem m100lt {v : Nat} (hv : v ≤ 2147483648) : (-100 : Int32) < iI (-(v : Int)) ↔ v < 100 := by
  rw [m100, iI_lt (by omega) (by omega) (by omega) (by omega)]
  omega
theorem m9le {v : Nat} (hv : v ≤ 2147483648) : (-9 : Int32) ≤ iI (-(v : Int)) ↔ v < 10 := by
  rw [m9, iI_le (by omega) (by omega) (by omega) (by omega)]
  omega
theorem ss_loop (v : Nat) (hv : v ≤ 2147483648) (x2 : Int32) : ∀ d i n, i + d = 10 → 1 ≤ i → (10 ^ (i - 1) ≤ v ∨ i = 1) → d < n → fJ6_stringSize_0f7a4_16 n (iI (-(v : Int))) x2 (iI (-((10 ^ i : Nat) : Int))) (nI i) = some (nI (dT v).length + x2)
  | 0, i, 0, _, _, _, hn => absurd hn (by omega)
  | 0, i, n + 1, hi, h1, h2, _ => by
    have hi : i = 10 := by omega
    subst hi
    rw [fJ6_stringSize_0f7a4_16, if_pos (show (10 : Int32) ≤ nI 10 by decide), dT_len 9 v (by
      have e : (10 : Nat) ^ (9 + 1) = 10000000000 := by decide
      rw [e]; omega) (by simpa using h2) (by omega)]
    rfl
  | d + 1, i, 0, _, _, _, hn => absurd hn (by omega)
  | d + 1, i, n + 1, hi, h1, h2, hn => by
    have p1 : (10 : Nat) ^ i ≤ 10 ^ 9 := Nat.pow_le_pow_right (by omega) (by omega)
    have p2 : (10 : Nat) ^ 9 = 1000000000 := by decide
    rw [fJ6_stringSize_0f7a4_16, if_neg (show ¬ (10 : Int32) ≤ nI i from nI_ge (a := i) (b := 10) (by omega) (by omega))]
    by_cases hc : 10 ^ i ≤ v
    · rw [if_pos ((iI_le (by omega) (by omega) (by omega) (by omega)).mpr (by omega))]
      simp only [bd]
      rw [p10i, iI_mul, nI_1, show (10 : Int) * -((10 ^ i : Nat) : Int) = -((10 ^ (i + 1) : Nat) : Int) by rw [Nat.pow_succ]; omega]
      exact ss_loop v hv x2 d (i + 1) n (by omega) (by omega) (Or.inl (by simpa using hc)) (by omega)
    · rw [if_neg (fun z => hc (by have := (iI_le (by omega) (by omega) (by omega) (by omega)).mp z; omega))]
      have e : i - 1 + 1 = i := by omega
      rw [dT_len (i - 1) v (by rw [e]; omega) (by
        rcases h2 with h2 | h2
        · exact Or.inl h2
        · exact Or.inr (by omega)) (by omega), e]
theorem ss_spec {z : Int} (h1 : -2147483648 ≤ z) (h2 : z < 2147483648) : fJ6_stringSize_0f7a4 (iI z) = some (nI (iT z).length) := by
  have hz : (iI z < 0) ↔ z < 0 := iI_lt (b := 0) h1 h2 (by decide) (by decide)
  rw [fJ6_stringSize_0f7a4, iT, m10]
  by_cases hc : z < 0
  · rw [if_pos (hz.mpr hc), if_pos hc]
    have h3 := ss_loop z.natAbs (by omega) 1 9 1 vF (by omega) (by omega) (Or.inr rfl) (by decide)
    rw [show -(z.natAbs : Int) = z by omega] at h3
    refine h3.trans ?_
    show some (nI _ + nI 1) = _
    rw [nJ_add, List.length_append, List.length_singleton, Nat.add_comm]
  · rw [if_neg (fun q => hc (hz.mp q)), if_neg hc, List.nil_append]
    have h3 := ss_loop z.natAbs (by omega) 0 9 1 vF (by omega) (by omega) (Or.inr rfl) (by decide)
    rw [show -(z.natAbs : Int) = -z by omega, ← iI_neg] at h3
    refine h3.trans ?_
    show some (nI _ + nI 0) = _
    rw [nJ_add]; rfl
/-- g' is g with the letters T at q, q + 1, .. -/
def gPut (g g' : Nat → Int32) (q : Nat) (T : List Nat) : Prop := (∀ i, i < T.length → g' (q + i) = sb_b (T.getD i 0)) ∧ ∀ j, (j < q ∨ q + T.length ≤ j) → g' j = g j
theorem gPut_nil (g : Nat → Int32) (q : Nat) : gPut g g q [] := ⟨fun i h => absurd h (Nat.not_lt_zero i), fun _ _ => rfl⟩
theorem gPut_snoc {g g' : Nat → Int32} {q c : Nat} {T : List Nat} (h : gPut (upd g (q + T.length) (sb_b c)) g' q T) : gPut g g' q (T ++ [c]) := by
  refine ⟨fun i hi => ?_, fun j hj => ?_⟩
  · rw [List.length_append] at hi
    by_cases e : i < T.length
    · rw [h.1 i e, List.getD_append _ _ _ _ e]
    · have e2 : i = T.length := by simp at hi; omega
      subst e2
      rw [h.2 _ (Or.inr (Nat.le_refl _)), pk_us, List.getD_append_right _ _ _ _ (Nat.le_refl _), Nat.sub_self]; rfl
  · rw [List.length_append] at hj
    have hj2 : j < q ∨ q + T.length + 1 ≤ j := by simp at hj; omega
    rw [h.2 j (by omega), pk_un (by omega)]
theorem gc_neg {v : Nat} (hv : v < 100) : -(iI (-(v : Int))) = nI v := by
  rw [iI_neg, nI_iI, Int.neg_neg]
theorem gc_div {v : Nat} (hv : v ≤ 2147483648) : iI (-(v : Int)) / 100 = iI (-((v / 100 : Nat) : Int)) := by
  apply Int32.toInt_inj.mp
  have h100 : (100 : Int32).toInt = 100 := by decide
  rw [Int32.toInt_div, iI_toInt (by omega) (by omega), h100, iI_toInt (by omega) (by omega), Int.neg_tdiv, Int.tdiv_eq_ediv_of_nonneg (by omega), Int.bmod_eq_of_le (by omega) (by omega)]
  omega
theorem p100 : (100 : Int32) = iI 100 := by decide +kernel
theorem gc_rem {v : Nat} : iI (-((v / 100 : Nat) : Int)) * 100 - iI (-(v : Int)) = nI (v % 100) := by
  rw [p100, iI_mul, iI_sub, nI_iI]
  congr 1
  omega
theorem gc_dec {p : Nat} (h : 0 < p) : nI p + (-1) = nI (p - 1) := by
  rw [m1, nI_iI, iI_add, nI_iI]
  congr 1
  omega
theorem vn_sb (c : Nat) : vp_nar .byte (nI c) = sb_b c := rfl
theorem vn_45 : vp_nar .byte (45 : Int32) = sb_b 45 := rfl
theorem gc_sign {b : Int32} {q n4 : Nat} {g : Nat → Int32} (hn : n4 < 2147483648) (T : List Nat) (hT : (if b = 0 then ([] : List Nat) else [45]) = T) (h : q + T.length ≤ n4) : ∃ g', hf_J6_getChars_ba4f3_104 (nI (q + T.length)) b n4 g = some (nI q, n4, g') ∧ gPut g g' q T := by
  unfold hf_J6_getChars_ba4f3_104
  by_cases hb : b = 0
  · rw [if_pos hb] at hT ⊢
    subst hT
    exact ⟨g, rfl, gPut_nil g q⟩
  · rw [if_neg hb] at hT ⊢
    subst hT
    have h2 : q + 1 ≤ n4 := h
    rw [List.length_singleton]
    simp only [bd]
    rw [gc_dec (by omega), Nat.add_sub_cancel, if_neg (nI_in (c := q) (by omega) (by omega)), nI_clamp (by omega), vn_45]
    exact ⟨_, rfl, gPut_snoc (T := []) (gPut_nil _ q)⟩
theorem gc_loop {b : Int32} {n4 : Nat} (hn : n4 < 2147483648) (S : List Nat) (hS : (if b = 0 then ([] : List Nat) else [45]) = S) : ∀ (n k v q : Nat) (g : Nat → Int32), v ≤ 2147483648 → v < 100 ^ (k + 1) → q + (S ++ dT v).length ≤ n4 → k < n → ∃ g', hf_J6_getChars_ba4f3_22 n (iI (-(v : Int))) (nI (q + (S ++ dT v).length)) b n4 g = some (nI q, n4, g') ∧ gPut g g' q (S ++ dT v)
  | 0, k, v, q, g, hv, hk, hq, h0 => absurd h0 (by omega)
  | n + 1, k, v, q, g, hv, hk, hq, h0 => by
    rw [hf_J6_getChars_ba4f3_22]
    by_cases h1 : v < 100
    · rw [if_pos ((m100lt hv).mpr h1), gc_neg h1]
      by_cases h2 : v < 10
      · rw [dT_lt h2] at hq ⊢
        rw [List.length_append, List.length_singleton] at hq ⊢
        simp only [bd]
        rw [gc_dec (by omega), show q + (S.length + 1) - 1 = q + S.length by omega, if_neg (nI_in (by omega) (by omega)), if_neg (nI_in (by omega) (by omega)), nI_clamp (n := q + S.length) (by omega), nI_clamp (n := v) (by omega), if_pos ((m9le hv).mpr h2), Nat.mod_eq_of_lt h2, vn_sb]
        obtain ⟨g', e1, e2⟩ := gc_sign (b := b) (q := q) (n4 := n4) (g := upd g (q + S.length) (sb_b (48 + v))) hn S hS (by omega)
        exact ⟨g', e1, gPut_snoc e2⟩
      · rw [dT_99 (by omega) h1, ← List.append_assoc] at hq ⊢
        rw [List.length_append, List.length_append, List.length_singleton, List.length_singleton] at hq ⊢
        simp only [bd]
        rw [gc_dec (by omega), show q + (S.length + 1 + 1) - 1 = q + (S.length + 1) by omega, if_neg (nI_in (by omega) (by omega)), if_neg (nI_in (by omega) (by omega)), if_neg (fun z => h2 ((m9le hv).mp z)), gc_dec (by omega), show q + (S.length + 1) - 1 = q + S.length by omega, if_neg (nI_in (by omega) (by omega)), if_neg (nI_in (by omega) (by omega)), nI_clamp (n := q + (S.length + 1)) (by omega), nI_clamp (n := v) (by omega), nI_clamp (n := q + S.length) (by omega), vn_sb, vn_sb]
        obtain ⟨g', e1, e2⟩ := gc_sign (b := b) (q := q) (n4 := n4) (g := upd (upd g (q + (S.length + 1)) (sb_b (48 + v % 10))) (q + S.length) (sb_b (48 + v / 10))) hn S hS (by omega)
        refine ⟨g', e1, gPut_snoc ?_⟩
        rw [List.length_append, List.length_singleton]
        exact gPut_snoc e2
    · obtain ⟨k', rfl⟩ : ∃ k', k = k' + 1 := by
        cases k with
        | zero => exact absurd (by simpa using hk) h1
        | succ k' => exact ⟨k', rfl⟩
      have ek : (100 : Nat) ^ (k' + 1 + 1) = 100 ^ (k' + 1) * 100 := Nat.pow_succ 100 (k' + 1)
      rw [if_neg (fun z => h1 ((m100lt hv).mp z)), gc_div hv]
      rw [dT_100 (by omega) (by omega), ← List.append_assoc, ← List.append_assoc] at hq ⊢
      rw [List.length_append, List.length_append, List.length_singleton, List.length_singleton] at hq ⊢
      have ih := fun g2 h9 => gc_loop hn S hS n k' (v / 100) q g2 (by omega) (by omega) h9 (by omega)
      generalize hU : S ++ dT (v / 100) = U at hq ih ⊢
      simp only [bd]
      rw [gc_rem, gc_dec (by omega), show q + (U.length + 1 + 1) - 1 = q + (U.length + 1) by omega, if_neg (nI_in (by omega) (by omega)), if_neg (nI_in (by omega) (by omega)), gc_dec (by omega), show q + (U.length + 1) - 1 = q + U.length by omega, if_neg (nI_in (by omega) (by omega)), if_neg (nI_in (by omega) (by omega)), nI_clamp (n := q + (U.length + 1)) (by omega), nI_clamp (n := v % 100) (by omega), nI_clamp (n := q + U.length) (by omega), vn_sb, vn_sb]
      obtain ⟨g', e1, e2⟩ := ih (upd (upd g (q + (U.length + 1)) (sb_b (48 + v % 100 % 10))) (q + U.length) (sb_b (48 + v % 100 / 10))) (by omega)
      refine ⟨g', e1, gPut_snoc ?_⟩
      rw [List.length_append, List.length_singleton]
      exact gPut_snoc e2
theorem gc_spec {z : Int} (h1 : -2147483648 ≤ z) (h2 : z < 2147483648) {q n : Nat} (hn : n < 2147483648) {g : Nat → Int32} (hq : q + (iT z).length ≤ n) : ∃ g', hf_J6_getChars_ba4f3 (iI z) (nI (q + (iT z).length)) n g = some (nI q, n, g') ∧ gPut g g' q (iT z) := by
  have hz : (0 ≤ iI z) ↔ 0 ≤ z := iI_le (a := 0) (by decide) (by decide) h1 h2
  have e5 : (100 : Nat) ^ (4 + 1) = 10000000000 := by decide
  rw [hf_J6_getChars_ba4f3]
  by_cases hc : z < 0
  · have e : iT z = [45] ++ dT z.natAbs := by rw [iT, if_pos hc]
    rw [e] at hq ⊢
    rw [if_neg (fun q => by have := hz.mp q; omega)]
    have h3 := gc_loop (b := 1) hn [45] rfl vF 4 z.natAbs q g (by omega) (by omega) hq (by decide)
    rw [show -(z.natAbs : Int) = z by omega] at h3
    exact h3
  · have e : iT z = [] ++ dT z.natAbs := by rw [iT, if_neg hc]
    rw [e] at hq ⊢
    rw [if_pos (hz.mpr (by omega))]
    have h3 := gc_loop (b := 0) hn [] rfl vF 4 z.natAbs q g (by omega) (by omega) hq (by decide)
    rw [show -(z.natAbs : Int) = -z by omega, ← iI_neg] at h3
    exact h3
