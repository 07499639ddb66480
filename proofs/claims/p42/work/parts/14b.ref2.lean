theorem pc_mono (k : Nat) : ∀ m x, pcN k m ≤ pcN k (m ||| x) ∧ (pcN k m = pcN k (m ||| x) → m < 2 ^ k → m ||| x < 2 ^ k → m ||| x = m) := by
  induction k with
  | zero =>
    intro m x
    refine ⟨Nat.le_refl _, fun _ h1 h2 => ?_⟩
    simp only [Nat.pow_zero] at h1 h2
    omega
  | succ k ih =>
    intro m x
    have h1 : (m ||| x) / 2 = m / 2 ||| x / 2 := Nat.or_div_two
    have h4 : m % 2 ≤ (m ||| x) % 2 := by
      have e1 := Nat.or_mod_two_pow (a := m) (b := x) (n := 1)
      have ha : m % 2 = 0 ∨ m % 2 = 1 := by omega
      have hb : x % 2 = 0 ∨ x % 2 = 1 := by omega
      simp only [Nat.pow_one] at e1
      rcases ha with ha | ha <;> rcases hb with hb | hb <;> rw [e1, ha, hb] <;> decide
    obtain ⟨i1, i2⟩ := ih (m / 2) (x / 2)
    unfold pcN
    rw [h1]
    refine ⟨by omega, fun g1 g2 g3 => ?_⟩
    rw [Nat.pow_succ] at g2 g3
    have := i2 (by omega) (by omega) (by omega)
    omega
theorem pc_top (k : Nat) : ∀ n m, m < 2 ^ n → pcN k m ≤ n := by
  induction k with
  | zero => intro n m _; exact Nat.zero_le _
  | succ k ih =>
    intro n m h
    unfold pcN
    cases n with
    | zero =>
      have : m = 0 := by simp only [Nat.pow_zero] at h; omega
      subst this
      have := ih 0 (0 / 2) (by decide)
      omega
    | succ n =>
      rw [Nat.pow_succ] at h
      have := ih n (m / 2) (by omega)
      omega
theorem fld_or (a : mA) (m : Nat) (n : Nat) : ∃ x, fld a m n = m ||| x := by
  induction n with
  | zero => exact ⟨0, (Nat.or_zero m).symm⟩
  | succ n ih =>
    obtain ⟨x, hx⟩ := ih
    unfold fld
    split
    · exact ⟨x ||| mts a n (a 0 0), by rw [hx, Nat.or_assoc]⟩
    · exact ⟨x, hx⟩
theorem itF_stop {a : mA} {m i : Nat} (h : itF a (i + 1) m = itF a i m) : ∀ j, i ≤ j → itF a j m = itF a i m := by
  intro j hj
  obtain ⟨d, rfl⟩ : ∃ d, j = i + d := ⟨j - i, by omega⟩
  clear hj
  induction d with
  | zero => rfl
  | succ d ih =>
    show fld a (itF a (i + d) m) (a 0 0) = _
    rw [ih]
    exact h
theorem itF_fix {B : Nat} {a : mA} (w : WF B a) {s : Nat} (hs : s < a 0 0) : ∃ i, i < a 0 0 ∧ itF a (i + 1) (1 <<< s) = itF a i (1 <<< s) ∧ ∀ j, j < i → itF a (j + 1) (1 <<< s) ≠ itF a j (1 <<< s) := by
  have hn := wf_n w
  rcases first_or (fun i => itF a (i + 1) (1 <<< s) = itF a i (1 <<< s)) 0 (a 0 0) with ⟨i, -, h2, h3, h4⟩ | h5
  · exact ⟨i, h2, h3, fun j hj => h4 j (by omega) hj⟩
  · exfalso
    have hp : ∀ i, i ≤ a 0 0 → i + 1 ≤ pc (itF a i (1 <<< s)) := by
      intro i
      induction i with
      | zero =>
        intro _
        have h1 : 0 < 1 <<< s := by rw [Nat.shiftLeft_eq, Nat.one_mul]; exact Nat.two_pow_pos s
        have h2 : 1 <<< s < 65536 := one_shl (N := 16) (by omega)
        exact pc_pos h2 h1
      | succ i ih =>
        intro hi
        have h6 := ih (by omega)
        obtain ⟨x, hx⟩ := fld_or a (itF a i (1 <<< s)) (a 0 0)
        have h7 : itF a (i + 1) (1 <<< s) = itF a i (1 <<< s) ||| x := hx
        obtain ⟨m1, m2⟩ := pc_mono 16 (itF a i (1 <<< s)) x
        rw [← h7] at m1 m2
        have h8 := itF_lt (a := a) (N := 16) (m := 1 <<< s) (one_shl (by omega)) (by omega)
        have h9 := h5 i (by omega) (by omega)
        have : pcN 16 (itF a i (1 <<< s)) ≠ pcN 16 (itF a (i + 1) (1 <<< s)) := fun e => h9 (m2 e (h8 i) (h8 (i + 1)))
        unfold pc at h6 ⊢
        omega
    have h6 := hp (a 0 0) (Nat.le_refl _)
    have h7 := pc_top 16 (a 0 0) (itF a (a 0 0) (1 <<< s)) (itF_lt (one_shl hs) (Nat.le_refl _) _)
    unfold pc at h6
    omega
section
variable {B : Nat} {a : mA} {v : vS}
end

