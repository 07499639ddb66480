/-- the ships before, the latest first: how the class keeps them, and the reference -/
def RHc (n : Nat) (hs : Nat → mA) (h : (Nat → Int32) × (Nat → vH)) : Prop := n ≤ 8 ∧ h.1 2 = nI n ∧ ∃ x, x < 8 ∧ h.1 1 = nI x ∧ ∀ j, j < n → RX (hs j) (h.2 ((x + 7 - j) % 8))
theorem wf_up {B B' : Nat} {a : mA} (w : WF B a) (h : B ≤ B') (h' : B' < 1000000000) : WF B' a :=
  ⟨⟨w.1.1, w.1.2.1, Nat.le_trans w.1.2.2.1 h, w.1.2.2.2.1, h'⟩, w.2.1, w.2.2.1, w.2.2.2.1, w.2.2.2.2⟩
def pushH (a : mA) (hs : Nat → mA) : Nat → mA := fun j => if j = 0 then a else hs (j - 1)
def pushN (n : Nat) : Nat := if n = 8 then 8 else n + 1
theorem rem_ok {n : Nat} {hs : Nat → mA} {h : (Nat → Int32) × (Nat → vH)} {a : mA} {s : vH} (h8 : a 0 0 ≤ 8) (h10 : a 0 3 ≤ 10) (r : RX a s) (R : RHc n hs h) : ∃ h', fX2_remember (s, h) = some (s, h') ∧ RHc (pushN n) (pushH a hs) h' := by
  obtain ⟨hn, h2, x, hx, h1, hR⟩ := R
  obtain ⟨d', e, hd⟩ := xq_copy (h.2 x) s
  have i0 : ¬ (nI x < 0 ∨ 8 ≤ Int32.toNatClampNeg (nI x)) := (nJ_in (n := 8) hx (by omega)).mp
  have l8 : (8 : Int32) = nI 8 := rfl
  have hpn : pushN n ≤ 8 := by unfold pushN; split <;> omega
  have key : ∀ y : Nat, y < 8 → y = (x + 1) % 8 → ∀ h' : (Nat → Int32) × (Nat → vH), h'.1 2 = nI (pushN n) → h'.1 1 = nI y → h'.2 = va_up h.2 x d' → RHc (pushN n) (pushH a hs) h' := by
    intro y hy ey h' g2 g1 g3
    refine ⟨hpn, g2, y, hy, g1, fun j hj => ?_⟩
    rw [g3]
    unfold va_up pushH
    by_cases e : j = 0
    · rw [if_pos e, if_pos (by omega)]
      exact hd a h8 h10 r
    · rw [if_neg e, if_neg (by omega)]
      have := hR (j - 1) (by unfold pushN at hj; split at hj <;> omega)
      rw [show (y + 7 - j) % 8 = (x + 7 - (j - 1)) % 8 from by omega]
      exact this
  have k35 : ∀ y : Nat, y < 8 → y = (x + 1) % 8 → ∃ h', fX2_remember_35 (nI y) (s, (h.1, va_up h.2 x d')) = some (s, h') ∧ RHc (pushN n) (pushH a hs) h' := by
    intro y hy ey
    have e2 : (upd h.1 1 (nI y)) 2 = nI n := by rw [upd_ne (by omega)]; exact h2
    rw [fX2_remember_35]
    dsimp only [bd]
    by_cases e8 : n = 8
    · have hp : pushN n = n := by unfold pushN; rw [if_pos e8, e8]
      have hc : (8 : Int32) ≤ upd h.1 1 (nI y) 2 := by rw [e2, l8, nJ_le (by omega) (by omega)]; omega
      rw [if_pos hc]
      exact ⟨_, rfl, key y hy ey _ (by rw [hp]; exact e2) rfl rfl⟩
    · have hp : pushN n = n + 1 := if_neg e8
      have hc : ¬ (8 : Int32) ≤ upd h.1 1 (nI y) 2 := by rw [e2, l8, nJ_le (by omega) (by omega)]; omega
      rw [if_neg hc, e2, l32_1, nJ_add]
      exact ⟨_, rfl, key y hy ey _ (by rw [hp]; rfl) rfl rfl⟩
  rw [fX2_remember]
  show ∃ h', (if h.1 1 < 0 ∨ 8 ≤ Int32.toNatClampNeg (h.1 1) then none else _) = some (s, h') ∧ _
  rw [h1, if_neg i0, nJ_clamp (by omega), e, Option.bind_some]
  dsimp only [bd]
  by_cases ex : x = 7
  · have hc : (8 : Int32) ≤ h.1 1 + 1 := by rw [h1, l32_1, nJ_add, l8, nJ_le (by omega) (by omega)]; omega
    rw [if_pos hc]
    exact k35 0 (by omega) (by omega)
  · have hc : ¬ (8 : Int32) ≤ h.1 1 + 1 := by rw [h1, l32_1, nJ_add, l8, nJ_le (by omega) (by omega)]; omega
    rw [if_neg hc, h1, l32_1, nJ_add]
    exact k35 (x + 1) (by omega) (by omega)


