theorem gc_sign {b : Int32} {q n4 : Nat} {g : Nat → Int32} (hn : n4 < 2147483648) (T : List Nat) (hT : (if b = 0 then ([] : List Nat) else [45]) = T) (h : q + T.length ≤ n4) : ∃ g', hf_J6_getChars_ba4f3_104 (nI (q + T.length)) b n4 g = some (nI q, n4, g') ∧ gPut g g' q T := by
  by_cases hb : b = 0
  · rw [if_pos hb] at hT
    rw [← hT, hb]
    exact ⟨g, gs_0, gPut_nil g q⟩
  · rw [if_neg hb] at hT
    rw [← hT] at h ⊢
    rw [List.length_singleton] at h ⊢
    exact ⟨_, gs_1 hb h (Nat.lt_of_lt_of_le hn (by decide)), gPut_one g q 45⟩
