theorem loop_fu {R : Type} {F : Nat → Nat → Option R} (i N m : Nat) {r : Option R} (hiN : i ≤ N) (hs : ∀ n k, i ≤ k → k < N → F (n + 1) k = F n (k + 1)) (he : ∀ n, m ≤ n → F n N = r) : ∀ n, N - i + m ≤ n → F n i = r := by
  have h : ∀ d k n, k + d = N → d + m ≤ n → i ≤ k → F n k = r := by
    intro d
    induction d with
    | zero =>
      intro k n h1 h2 h3
      have : k = N := by omega
      subst this
      exact he n (by omega)
    | succ d ih =>
      intro k n h1 h2 h3
      obtain ⟨n, rfl⟩ : ∃ m, n = m + 1 := ⟨n - 1, by omega⟩
      rw [hs n k h3 (by omega)]
      exact ih (k + 1) n (by omega) (by omega) (by omega)
  intro n hn
  exact h (N - i) i n (by omega) hn (Nat.le_refl i)
theorem pc_pos {x : Nat} (h : x < 65536) (h0 : 0 < x) : 0 < pc x := by
  have := pc_step x h h0
  omega
section
variable {B : Nat} {a : mA} {v : vS}
end


