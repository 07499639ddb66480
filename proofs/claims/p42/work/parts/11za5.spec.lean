theorem gc_spec {z : Int} (h1 : -2147483648 ≤ z) (h2 : z < 2147483648) {q n : Nat} (hn : n < 2147483648) {g : Nat → Int32} (hq : q + (iT z).length ≤ n) : ∃ g', hf_J6_getChars_ba4f3 (iI z) (nI (q + (iT z).length)) n g = some (nI q, n, g') ∧ gPut g g' q (iT z) := by
  have hz : (0 ≤ iI z) ↔ 0 ≤ z := iI_le (a := 0) (by decide) (by decide) h1 h2
  have e5 : (100 : Nat) ^ (4 + 1) = 10000000000 := by decide
  rw [hf_J6_getChars_ba4f3]
  by_cases hc : z < 0
  · have e : iT z = [45] ++ dT z.natAbs := by rw [iT, if_pos hc]
    rw [e] at hq ⊢
    rw [if_neg (fun q => by have := hz.mp q; omega)]
    have h3 := gc_loop (b := 1) hn [45] rfl vF 4 z.natAbs q g (by omega) (by omega) hq (by decide)
    rw [show -(z.natAbs : Int) = z by omega] at h3
    exact h3
  · have e : iT z = [] ++ dT z.natAbs := by rw [iT, if_neg hc]
    rw [e] at hq ⊢
    rw [if_pos (hz.mpr (by omega))]
    simp only [bdE]
    have h3 := gc_loop (b := 0) hn [] rfl vF 4 z.natAbs q g (by omega) (by omega) hq (by decide)
    rw [show -(z.natAbs : Int) = -z by omega, ← iI_neg] at h3
    exact h3
