theorem m10 : (-10 : Int32) = iI (-((10 ^ 1 : Nat) : Int)) := by decide +kernel
theorem p10i : (10 : Int32) = iI 10 := by decide +kernel
theorem m100 : (-100 : Int32) = iI (-100) := by decide +kernel
theorem m9 : (-9 : Int32) = iI (-9) := by decide +kernel
theorem m1 : (-1 : Int32) = iI (-1) := by decide +kernel
theorem c10 : ((10 : Nat) ^ 1 : Nat) = 10 := by decide
theorem m100lt {v : Nat} (hv : v ≤ 2147483648) : (-100 : Int32) < iI (-(v : Int)) ↔ v < 100 := by
  rw [m100, iI_lt (by omega) (by omega) (by omega) (by omega)]
  omega
theorem m9le {v : Nat} (hv : v ≤ 2147483648) : (-9 : Int32) ≤ iI (-(v : Int)) ↔ v < 10 := by
  rw [m9, iI_le (by omega) (by omega) (by omega) (by omega)]
  omega
theorem ss_loop (v : Nat) (hv : v ≤ 2147483648) (x2 : Int32) : ∀ d i n, i + d = 10 → 1 ≤ i → (10 ^ (i - 1) ≤ v ∨ i = 1) → d < n → fJ6_stringSize_0f7a4_16 n (iI (-(v : Int))) x2 (iI (-((10 ^ i : Nat) : Int))) (nI i) = some (nI (dT v).length + x2)
  | 0, i, 0, _, _, _, hn => absurd hn (by omega)
  | 0, i, n + 1, hi, h1, h2, _ => by
    have hi : i = 10 := by omega
    subst hi
    rw [fJ6_stringSize_0f7a4_16, if_pos (show (10 : Int32) ≤ nI 10 by decide), dT_len 9 v (by
      have e : (10 : Nat) ^ (9 + 1) = 10000000000 := by decide
      rw [e]; omega) (by simpa using h2) (by omega)]
    rfl
  | d + 1, i, 0, _, _, _, hn => absurd hn (by omega)
  | d + 1, i, n + 1, hi, h1, h2, hn => by
    have p1 : (10 : Nat) ^ i ≤ 10 ^ 9 := Nat.pow_le_pow_right (by omega) (by omega)
    have p2 : (10 : Nat) ^ 9 = 1000000000 := by decide
    rw [p2] at p1
    have p3 : (10 : Nat) ^ (i + 1) = 10 ^ i * 10 := Nat.pow_succ 10 i
    have ih := fun h9 => ss_loop v hv x2 d (i + 1) n (by omega) (by omega) (Or.inl h9) (by omega)
    rw [Nat.add_sub_cancel] at ih
    rw [fJ6_stringSize_0f7a4_16, if_neg (show ¬ (10 : Int32) ≤ nI i from nI_ge (a := i) (b := 10) (by omega) (by omega))]
    by_cases hc : 10 ^ i ≤ v
    · have ih := ih hc
      rw [p3] at ih
      generalize (10 : Nat) ^ i = P at p1 hc ih ⊢
      rw [if_pos ((iI_le (by omega) (by omega) (by omega) (by omega)).mpr (by omega))]
      simp only [bdE]
      rw [p10i, iI_mul, nI_1, show (10 : Int) * -(P : Int) = -((P * 10 : Nat) : Int) by omega]
      exact ih
    · have e : i - 1 + 1 = i := by omega
      have hl := dT_len (i - 1) v (by rw [e]; omega) (by
        rcases h2 with h2 | h2
        · exact Or.inl h2
        · exact Or.inr (by omega)) (by omega)
      rw [e] at hl
      generalize (10 : Nat) ^ i = P at p1 hc ⊢
      rw [if_neg (fun z => hc (by have := (iI_le (by omega) (by omega) (by omega) (by omega)).mp z; omega)), hl]
theorem ss_spec {z : Int} (h1 : -2147483648 ≤ z) (h2 : z < 2147483648) : fJ6_stringSize_0f7a4 (iI z) = some (nI (iT z).length) := by
  have hz : (iI z < 0) ↔ z < 0 := iI_lt (b := 0) h1 h2 (by decide) (by decide)
  rw [fJ6_stringSize_0f7a4, iT, m10]
  by_cases hc : z < 0
  · rw [if_pos (hz.mpr hc), if_pos hc]
    have h3 := ss_loop z.natAbs (by omega) 1 9 1 vF (by omega) (by omega) (Or.inr rfl) (by decide)
    rw [show -(z.natAbs : Int) = z by omega] at h3
    refine h3.trans ?_
    show some (nI _ + nI 1) = _
    rw [nJ_add, List.length_append, List.length_singleton, Nat.add_comm]
  · rw [if_neg (fun q => hc (hz.mp q)), if_neg hc, List.nil_append]
    have h3 := ss_loop z.natAbs (by omega) 0 9 1 vF (by omega) (by omega) (Or.inr rfl) (by decide)
    rw [show -(z.natAbs : Int) = -z by omega, ← iI_neg] at h3
    simp only [bdE]
    refine h3.trans ?_
    show some (nI _ + nI 0) = _
    rw [nJ_add]; rfl
theorem gD_l {T W : List Nat} {i : Nat} (h : i < T.length) : (T ++ W).getD i 0 = T.getD i 0 := by
  rw [List.getD_eq_getElem?_getD, List.getD_eq_getElem?_getD, List.getElem?_append_left h]
theorem gD_r {T W : List Nat} {i : Nat} (h : T.length ≤ i) : (T ++ W).getD i 0 = W.getD (i - T.length) 0 := by
  rw [List.getD_eq_getElem?_getD, List.getD_eq_getElem?_getD, List.getElem?_append_right h]
theorem gD_e {W : List Nat} {i : Nat} (h : i < W.length) : W.getD i 0 = W[i] := by
  rw [List.getD_eq_getElem?_getD, List.getElem?_eq_getElem h]; rfl
