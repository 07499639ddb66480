/-! THE LAW'S CELL: always some int -/
theorem cell_some {L : Nat} (hL : L ≤ 260) (xs : Nat → Int32) {i : Nat} (hi : i < 1000) : ∃ v, hf_L_cell L xs (nI i) = some v := by
  unfold hf_L_cell
  rw [oN]
  by_cases h0 : L = 0
  · rw [if_pos (show nI L = 0 by rw [h0]; rfl)]
    exact ⟨_, rfl⟩
  · have hne : ¬ nI L = 0 := fun z => h0 ((nJ_eq (b := 0) (by omega) (by omega)).mp z)
    have hm : i % L < L := Nat.mod_lt _ (by omega)
    rw [if_neg hne, if_neg hne, nI_mod (by omega) (by omega), if_neg (nI_in hm (by omega)), if_neg hne]
    exact ⟨_, rfl⟩
