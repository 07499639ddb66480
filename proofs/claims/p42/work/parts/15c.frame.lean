theorem cpy_in {α : Type} (f g : Nat → α) {n i : Nat} (h : i < n) : va_cpy f g 0 0 n i = f i := by
  unfold va_cpy
  rw [if_pos ⟨Nat.zero_le _, by omega⟩]
  rw [Nat.zero_add, Nat.sub_zero]
/-- a copy of a ship -/
theorem xq_copy (d s : vH) : ∃ d', fX5_copyFrom (d, s) = some (d', s) ∧ ∀ a : mA, a 0 0 ≤ 8 → a 0 3 ≤ 10 → RX a s → RX a d' := by
  refine ⟨_, rfl, fun a h8 h10 r => ⟨⟨(rx_n r :), (rx_e r :), (rx_h r :), (rx_l r :)⟩, ⟨(rx_k4 r :), (rx_k5 r :), (rx_k6 r :), (rx_k7 r :)⟩, fun i hi => ?_, fun i hi => ?_, fun i hi => ?_, fun i hi => ?_, fun i hi => ?_, fun i hi => ?_, fun i hi => ?_⟩⟩
  · exact Eq.trans (cpy_in (s.1 1) _ (n := 8) (by omega)) (rx_m r i hi)
  · exact Eq.trans (cpy_in (s.1 2) _ (n := 8) (by omega)) (rx_c r i hi)
  · exact Eq.trans (cpy_in (s.1 3) _ (n := 8) (by omega)) (rx_w r i hi)
  · exact Eq.trans (cpy_in (s.1 4) _ (n := 4) (by omega)) (rx_z r i hi)
  · exact Eq.trans (cpy_in (s.1 5) _ (n := 10) (by omega)) (rx_s r i hi)
  · exact Eq.trans (cpy_in (s.1 6) _ (n := 10) (by omega)) (rx_t r i hi)
  · exact Eq.trans (cpy_in s.2 _ (n := 10) (by omega)) (rx_f r i hi)
