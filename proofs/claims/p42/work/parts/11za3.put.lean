/-- g' is g with the letters T at q, q + 1, .. -/
def gPut (g g' : Nat → Int32) (q : Nat) (T : List Nat) : Prop := (∀ i, i < T.length → g' (q + i) = sb_b (T.getD i 0)) ∧ ∀ j, (j < q ∨ q + T.length ≤ j) → g' j = g j
theorem gPut_nil (g : Nat → Int32) (q : Nat) : gPut g g q [] := ⟨fun i h => absurd h (Nat.not_lt_zero i), fun _ _ => rfl⟩
theorem gPut_one (g : Nat → Int32) (q c : Nat) : gPut g (upd g q (sb_b c)) q [c] := by
  refine ⟨fun i hi => ?_, fun j hj => ?_⟩
  · have e : i = 0 := by
      rw [List.length_singleton] at hi; omega
    subst e
    exact pk_us
  · rw [List.length_singleton] at hj
    exact pk_un (by omega)
theorem gPut_snoc {g g' : Nat → Int32} {q c : Nat} {T : List Nat} (h : gPut (upd g (q + T.length) (sb_b c)) g' q T) : gPut g g' q (T ++ [c]) := by
  refine ⟨fun i hi => ?_, fun j hj => ?_⟩
  · rw [List.length_append] at hi
    by_cases e : i < T.length
    · rw [h.1 i e, gD_l e]
    · have e2 : i = T.length := by simp at hi; omega
      subst e2
      rw [h.2 _ (Or.inr (Nat.le_refl _)), pk_us, gD_r (Nat.le_refl _), Nat.sub_self]; rfl
  · rw [List.length_append] at hj
    have hj2 : j < q ∨ q + T.length + 1 ≤ j := by simp at hj; omega
    rw [h.2 j (by omega), pk_un (by omega)]
theorem gc_neg {v : Nat} (hv : v < 100) : -(iI (-(v : Int))) = nI v := by
  rw [iI_neg, nI_iI, Int.neg_neg]
theorem gc_div {v : Nat} (hv : v ≤ 2147483648) : iI (-(v : Int)) / 100 = iI (-((v / 100 : Nat) : Int)) := by
  apply Int32.toInt_inj.mp
  have h100 : (100 : Int32).toInt = 100 := by decide
  rw [Int32.toInt_div, iI_toInt (by omega) (by omega), h100, iI_toInt (by omega) (by omega), Int.neg_tdiv, Int.tdiv_eq_ediv_of_nonneg (by omega), Int.bmod_eq_of_le (by omega) (by omega)]
  omega
theorem p100 : (100 : Int32) = iI 100 := by decide +kernel
theorem gc_rem {v : Nat} : iI (-((v / 100 : Nat) : Int)) * 100 - iI (-(v : Int)) = nI (v % 100) := by
  rw [p100, iI_mul, iI_sub, nI_iI]
  congr 1
  omega
theorem gc_dec {p : Nat} (h : 0 < p) : nI p + (-1) = nI (p - 1) := by
  rw [m1, nI_iI, iI_add, nI_iI]
  congr 1
  omega
theorem vn_x (x : Int32) : vp_nar .byte x = x.toInt8.toInt32 := rfl
theorem vn_sb (c : Nat) : vp_nar .byte (nI c) = sb_b c := by
  rw [vn_x, sb_b]
theorem l45 : (45 : Int32) = nI 45 := rfl
theorem vn_45 : vp_nar .byte (45 : Int32) = sb_b 45 := by
  rw [l45, vn_sb]
theorem gs_0 {x : Int32} {n4 : Nat} {g : Nat → Int32} : hf_J6_getChars_ba4f3_104 x 0 n4 g = some (x, n4, g) := by
  unfold hf_J6_getChars_ba4f3_104
  exact if_pos rfl
