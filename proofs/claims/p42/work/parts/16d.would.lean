def pIt : Nat → mA → mA
  | 0, a => a
  | k + 1, a => passM (pIt k a)
theorem pIt_wf {B : Nat} {a : mA} (w : WF B a) : ∀ k, B + k < 1000000000 → WF (B + k) (pIt k a) := by
  intro k
  induction k with
  | zero => intro _; exact w
  | succ k ih => intro h; exact wf_pass (ih (by omega)) h
theorem pIt_is (a : mA) : ∀ k, pIt k a 0 0 = a 0 0 ∧ pIt k a 0 1 = a 0 1 + k ∧ pIt k a 4 = a 4 ∧ ∀ s, s < a 0 0 → pIt k a 1 s = rotN k (a 1 s) ∧ pIt k a 2 s = a 2 s - k ∧ (a 3 s < 4 → pIt k a 3 s = (a 3 s + ((a 0 1 + k) / 4 - a 0 1 / 4)) % 4) := by
  intro k
  induction k with
  | zero =>
    refine ⟨rfl, rfl, rfl, fun s hs => ⟨rfl, rfl, fun h => ?_⟩⟩
    show a 3 s = _
    omega
  | succ k ih =>
    obtain ⟨i1, i2, i3, i4⟩ := ih
    refine ⟨i1, ?_, i3, fun s hs => ?_⟩
    · show pIt k a 0 1 + 1 = _
      omega
    · obtain ⟨j1, j2, j3⟩ := i4 s hs
      have hs2 : s < pIt k a 0 0 := by omega
      refine ⟨?_, ?_, fun h => ?_⟩
      · show (if s < pIt k a 0 0 then rot1 (pIt k a 1 s) else pIt k a 1 s) = _
        rw [if_pos hs2, j1]
        rfl
      · show (if s < pIt k a 0 0 then pIt k a 2 s - 1 else pIt k a 2 s) = _
        rw [if_pos hs2, j2]
        omega
      · show (if s < pIt k a 0 0 then (if (pIt k a 0 1 + 1) % 4 = 0 then (pIt k a 3 s + 1) % 4 else pIt k a 3 s) else pIt k a 3 s) = _
        rw [if_pos hs2, i2, j3 h]
        split <;> omega
theorem ang_pIt {B : Nat} {a : mA} (w : WF B a) {s : Nat} (hs : s < a 0 0) (h : Nat) : ang (pIt h a) s = angA a s h := by
  obtain ⟨i1, i2, i3, i4⟩ := pIt_is a h
  obtain ⟨j1, j2, j3⟩ := i4 s hs
  unfold ang angA
  rw [j1, j2, j3 (wf_s w s hs).2.2, i3]
section
variable {B : Nat} {a : mA} {u : vZ} {v : vS}
end

