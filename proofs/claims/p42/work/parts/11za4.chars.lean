theorem gc_loop {b : Int32} {n4 : Nat} (hn : n4 < 2147483648) (S : List Nat) (hS : (if b = 0 then ([] : List Nat) else [45]) = S) : ∀ (n k v q : Nat) (g : Nat → Int32), v ≤ 2147483648 → v < 100 ^ (k + 1) → q + (S ++ dT v).length ≤ n4 → k < n → ∃ g', hf_J6_getChars_ba4f3_22 n (iI (-(v : Int))) (nI (q + (S ++ dT v).length)) b n4 g = some (nI q, n4, g') ∧ gPut g g' q (S ++ dT v)
  | 0, k, v, q, g, hv, hk, hq, h0 => absurd h0 (by omega)
  | n + 1, k, v, q, g, hv, hk, hq, h0 => by
    rw [hf_J6_getChars_ba4f3_22]
    by_cases h1 : v < 100
    · rw [if_pos ((m100lt hv).mpr h1), gc_neg h1]
      by_cases h2 : v < 10
      · rw [dT_lt h2] at hq ⊢
        rw [List.length_append, List.length_singleton] at hq ⊢
        simp only [bdE]
        rw [gc_dec (by omega), show q + (S.length + 1) - 1 = q + S.length by omega, if_neg (nI_in (by omega) (by omega)), if_neg (nI_in (by omega) (by omega)), nI_clamp (n := q + S.length) (by omega), nI_clamp (n := v) (by omega), if_pos ((m9le hv).mpr h2), Nat.mod_eq_of_lt h2, vn_sb]
        obtain ⟨g', e1, e2⟩ := gc_sign (b := b) (q := q) (n4 := n4) (g := upd g (q + S.length) (sb_b (48 + v))) hn S hS (by omega)
        exact ⟨g', e1, gPut_snoc e2⟩
      · rw [dT_99 (by omega) h1, ← List.append_assoc] at hq ⊢
        rw [List.length_append, List.length_append, List.length_singleton, List.length_singleton] at hq ⊢
        simp only [bdE]
        rw [gc_dec (by omega), show q + (S.length + 1 + 1) - 1 = q + (S.length + 1) by omega, if_neg (nI_in (by omega) (by omega)), if_neg (nI_in (by omega) (by omega)), if_neg (fun z => h2 ((m9le hv).mp z)), gc_dec (by omega), show q + (S.length + 1) - 1 = q + S.length by omega, if_neg (nI_in (by omega) (by omega)), if_neg (nI_in (by omega) (by omega)), nI_clamp (n := q + (S.length + 1)) (by omega), nI_clamp (n := v) (by omega), nI_clamp (n := q + S.length) (by omega), vn_sb, vn_sb]
        obtain ⟨g', e1, e2⟩ := gc_sign (b := b) (q := q) (n4 := n4) (g := upd (upd g (q + (S.length + 1)) (sb_b (48 + v % 10))) (q + S.length) (sb_b (48 + v / 10))) hn S hS (by omega)
        refine ⟨g', e1, gPut_snoc ?_⟩
        rw [List.length_append, List.length_singleton]
        exact gPut_snoc e2
    · obtain ⟨k', rfl⟩ : ∃ k', k = k' + 1 := by
        cases k with
        | zero => exact absurd (by simpa using hk) h1
        | succ k' => exact ⟨k', rfl⟩
      have ek : (100 : Nat) ^ (k' + 1 + 1) = 100 ^ (k' + 1) * 100 := Nat.pow_succ 100 (k' + 1)
      rw [if_neg (fun z => h1 ((m100lt hv).mp z)), gc_div hv]
      rw [dT_100 (by omega) (by omega), ← List.append_assoc, ← List.append_assoc] at hq ⊢
      rw [List.length_append, List.length_append, List.length_singleton, List.length_singleton] at hq ⊢
      have ih := fun g2 h9 => gc_loop hn S hS n k' (v / 100) q g2 (by omega) (by omega) h9 (by omega)
      generalize hU : S ++ dT (v / 100) = U at hq ih ⊢
      simp only [bdE]
      rw [gc_rem, gc_dec (by omega), show q + (U.length + 1 + 1) - 1 = q + (U.length + 1) by omega, if_neg (nI_in (by omega) (by omega)), if_neg (nI_in (by omega) (by omega)), gc_dec (by omega), show q + (U.length + 1) - 1 = q + U.length by omega, if_neg (nI_in (by omega) (by omega)), if_neg (nI_in (by omega) (by omega)), nI_clamp (n := q + (U.length + 1)) (by omega), nI_clamp (n := v % 100) (by omega), nI_clamp (n := q + U.length) (by omega), vn_sb, vn_sb]
      obtain ⟨g', e1, e2⟩ := ih (upd (upd g (q + (U.length + 1)) (sb_b (48 + v % 100 % 10))) (q + U.length) (sb_b (48 + v % 100 / 10))) (by omega)
      refine ⟨g', e1, gPut_snoc ?_⟩
      rw [List.length_append, List.length_singleton]
      exact gPut_snoc e2
