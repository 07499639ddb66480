/-- the ships before, the latest first: how the class keeps them, and the reference -/
def RHc (n : Nat) (hs : Nat → mA) (h : (Nat → Int32) × (Nat → vH)) : Prop := n ≤ 8 ∧ h.1 2 = nI n ∧ ∃ x, x < 8 ∧ h.1 1 = nI x ∧ ∀ j, j < n → RX (hs j) (h.2 ((x + 7 - j) % 8))
def RHr (B n : Nat) (hs : Nat → mA) (v : vS) : Prop := v 0 1 = nI n ∧ ∀ j, j < n → WF B (hs j) ∧ RR (hs j) (fun k => v 5 (66 * (n - 1 - j) + k))
def RV (B : Nat) (u : vZ) (v : vS) : Prop := (u.1 7 = nI 0 ∧ v 0 7 = nI 0) ∨ (u.1 7 = nI 1 ∧ v 0 7 = nI 1 ∧ ∃ sv, WF B sv ∧ RX sv u.2.2.2.1 ∧ RR sv (v 3))
def RE (p v : vS) : Prop := (p 0 2 = nI 0 ∧ v 0 2 = nI 0) ∨ (p 0 2 = nI 1 ∧ v 0 2 ≠ nI 0 ∧ p 1 0 = v 0 2 ∧ p 2 0 = v 0 3 ∧ v 0 4 = nI 0) ∨ (p 0 2 = nI 2 ∧ v 0 2 ≠ nI 0 ∧ v 0 4 ≠ nI 0 ∧ p 1 0 = v 0 2 ∧ p 2 0 = v 0 3 ∧ p 1 1 = v 0 4 ∧ p 2 1 = v 0 5)
def RT (t : vX) (v : vS) : Prop := ∃ n, n ≤ 60 ∧ t.1 0 1 = nI n ∧ v 0 18 = nI n ∧ ∀ i, i < n → ∃ c, 32 ≤ c ∧ c ≤ 126 ∧ t.1 1 i = nI c ∧ v 6 i = nI c
def RN (l v : vS) : Prop := ∃ n, n ≤ 140 ∧ l 0 1 = nI n ∧ v 0 21 = nI n ∧ ∀ i, i < n → l 1 i = v 7 i
def RF (u : vZ) (v : vS) : Prop := (u.1 8 = nI 0 ∧ v 0 6 = -1) ∨ (u.1 8 = nI 1 ∧ ∃ k, k ≤ 60 ∧ u.1 9 = nI k ∧ v 0 6 = nI k)
def RC (v : vS) : Prop := (∀ i, i < 50 → v 9 i = vtb9.getD i 0) ∧ ∀ i, i < 10 → v 10 i = vtb10.getD i 0
/-- class and reference hold the same -/
def RLs (B : Nat) (a : mA) (u : vZ) (v : vS) : Prop := (WF B a ∧ RX a u.2.1.1 ∧ RR a (v 1)) ∧ (∃ n hs, RHc n hs u.2.1.2 ∧ RHr B n hs v) ∧ RV B u v ∧ RE u.2.2.2.2.1 v ∧ RT u.2.2.2.2.2.1 v ∧ RN u.2.2.2.2.2.2 v ∧ RF u v ∧ RC v
theorem wf_up {B B' : Nat} {a : mA} (w : WF B a) (h : B ≤ B') (h' : B' < 1000000000) : WF B' a :=
  ⟨⟨w.1.1, w.1.2.1, Nat.le_trans w.1.2.2.1 h, w.1.2.2.2.1, h'⟩, w.2.1, w.2.2.1, w.2.2.2.1, w.2.2.2.2⟩
theorem rhr_up {B B' n : Nat} {hs : Nat → mA} {v : vS} (r : RHr B n hs v) (h : B ≤ B') (h' : B' < 1000000000) : RHr B' n hs v :=
  ⟨r.1, fun j hj => ⟨wf_up (r.2 j hj).1 h h', (r.2 j hj).2⟩⟩
theorem rv_up {B B' : Nat} {u : vZ} {v : vS} (r : RV B u v) (h : B ≤ B') (h' : B' < 1000000000) : RV B' u v := by
  rcases r with r | ⟨r1, r2, sv, r3, r4⟩
  · exact Or.inl r
  · exact Or.inr ⟨r1, r2, sv, wf_up r3 h h', r4⟩
/-- what a call leaves as it was -/
def FRM (v v' : vS) : Prop := v' 3 = v 3 ∧ v' 6 = v 6 ∧ v' 7 = v 7 ∧ v' 9 = v 9 ∧ v' 10 = v 10 ∧ ∀ k, 6 ≤ k → v' 0 k = v 0 k
theorem frm_trans {v1 v2 v3 : vS} (h : FRM v1 v2) (g : FRM v2 v3) : FRM v1 v3 := by
  obtain ⟨h1, h2, h3, h4, h5, h6⟩ := h
  obtain ⟨g1, g2, g3, g4, g5, g6⟩ := g
  exact ⟨g1.trans h1, g2.trans h2, g3.trans h3, g4.trans h4, g5.trans h5, fun k hk => (g6 k hk).trans (h6 k hk)⟩
def pushH (a : mA) (hs : Nat → mA) : Nat → mA := fun j => if j = 0 then a else hs (j - 1)
def pushN (n : Nat) : Nat := if n = 8 then 8 else n + 1
def opW (c : vS → Option (Int32 × vS)) (v : vS) : Option (Int32 × vS) := (fX8_begins v).bind fun u1 => obp (c u1) fun y3 u2 => obp (fX8_ends y3 u2) fun y5 u4 => some (y5, u4)
theorem ends_fail {v : vS} (y : Int32) (h : v 0 0 ≠ 0) : fX8_ends y v = some (v 0 0, cpS v 1 2 66) := by
  rw [fX8_ends, if_neg h, rl_12, Option.bind_some]
  rfl
theorem ends_ok {v : vS} (y : Int32) {n : Nat} (hn : n ≤ 8) (h0 : v 0 0 = 0) (h1 : v 0 1 = nI n) : ∃ v', fX8_ends y v = some (y, v') ∧ (∀ b, b ≠ 0 → b ≠ 5 → v' b = v b) ∧ (∀ k, k ≠ 1 → v' 0 k = v 0 k) ∧ v' 0 1 = nI (pushN n) ∧ (∀ k, k < 66 → v' 5 (66 * (pushN n - 1) + k) = v 2 k) ∧ (∀ j k, j < pushN n - 1 → k < 66 → v' 5 (66 * j + k) = if n = 8 then v 5 (66 * (j + 1) + k) else v 5 (66 * j + k)) := by
  rw [fX8_ends, if_pos h0, h1, l32_0]
  by_cases e : n = 8
  · subst e
    have hp : pushN 8 = 8 := if_pos rfl
    have h7 : (up2 (downS v 462) 0 1 (nI 7)) 0 1 = nI 7 := rfl
    rw [if_pos (by rfl), rl_down v y h1, rl_push _ y (c := 7) (by omega) h7, hp]
    refine ⟨_, rfl, fun b hb hb2 => ?_, fun k hk => ?_, rfl, fun k hk => ?_, fun j k hj hk => ?_⟩
    · rw [up2_o hb]
      unfold pushS
      rw [if_neg hb2, up2_o hb]
      unfold downS
      rw [if_neg hb2]
    · rw [up2_r, upd_ne hk]
      exact upd_ne (f := v 0) hk
    · show (if 66 * 7 ≤ 66 * (8 - 1) + k ∧ 66 * (8 - 1) + k < 66 * 7 + 66 then v 2 (66 * (8 - 1) + k - 66 * 7) else _) = _
      have e : 66 * (8 - 1) + k - 66 * 7 = k := by omega
      rw [if_pos (by omega), e]
    · show (if 66 * 7 ≤ 66 * j + k ∧ 66 * j + k < 66 * 7 + 66 then _ else (if 66 * j + k < 462 then v 5 (66 * j + k + 66) else v 5 (66 * j + k))) = _
      have e : 66 * j + k + 66 = 66 * (j + 1) + k := by omega
      rw [if_neg (by omega), if_pos (by omega), if_pos rfl, e]
  · have hp : pushN n = n + 1 := if_neg e
    have l8 : (8 : Int32) = nI 8 := rfl
    have hne : ¬ nI n = (8 : Int32) := by rw [l8, nJ_eq (by omega) (by omega)]; exact e
    rw [if_neg hne, rl_push _ y (c := n) (by omega) h1, hp]
    refine ⟨_, rfl, fun b hb hb2 => ?_, fun k hk => ?_, rfl, fun k hk => ?_, fun j k hj hk => ?_⟩
    · rw [up2_o hb]
      unfold pushS
      rw [if_neg hb2]
    · rw [up2_r, upd_ne hk]
      rfl
    · show (if 66 * n ≤ 66 * (n + 1 - 1) + k ∧ 66 * (n + 1 - 1) + k < 66 * n + 66 then v 2 (66 * (n + 1 - 1) + k - 66 * n) else _) = _
      have e : 66 * (n + 1 - 1) + k - 66 * n = k := by omega
      rw [if_pos (by omega), e]
    · show (if 66 * n ≤ 66 * j + k ∧ 66 * j + k < 66 * n + 66 then _ else v 5 (66 * j + k)) = _
      rw [if_neg (by omega), if_neg e]
theorem rem_ok {n : Nat} {hs : Nat → mA} {h : (Nat → Int32) × (Nat → vH)} {a : mA} {s : vH} (h8 : a 0 0 ≤ 8) (h10 : a 0 3 ≤ 10) (r : RX a s) (R : RHc n hs h) : ∃ h', fX2_remember (s, h) = some (s, h') ∧ RHc (pushN n) (pushH a hs) h' := by
  obtain ⟨hn, h2, x, hx, h1, hR⟩ := R
  obtain ⟨d', e, hd⟩ := xq_copy (h.2 x) s
  have i0 : ¬ (nI x < 0 ∨ 8 ≤ Int32.toNatClampNeg (nI x)) := (nJ_in (n := 8) hx (by omega)).mp
  have l8 : (8 : Int32) = nI 8 := rfl
  have hpn : pushN n ≤ 8 := by unfold pushN; split <;> omega
  have key : ∀ y : Nat, y < 8 → y = (x + 1) % 8 → ∀ h' : (Nat → Int32) × (Nat → vH), h'.1 2 = nI (pushN n) → h'.1 1 = nI y → h'.2 = va_up h.2 x d' → RHc (pushN n) (pushH a hs) h' := by
    intro y hy ey h' g2 g1 g3
    refine ⟨hpn, g2, y, hy, g1, fun j hj => ?_⟩
    rw [g3]
    unfold va_up pushH
    by_cases e : j = 0
    · rw [if_pos e, if_pos (by omega)]
      exact hd a h8 h10 r
    · rw [if_neg e, if_neg (by omega)]
      have := hR (j - 1) (by unfold pushN at hj; split at hj <;> omega)
      rw [show (y + 7 - j) % 8 = (x + 7 - (j - 1)) % 8 from by omega]
      exact this
  have k35 : ∀ y : Nat, y < 8 → y = (x + 1) % 8 → ∃ h', fX2_remember_35 (nI y) (s, (h.1, va_up h.2 x d')) = some (s, h') ∧ RHc (pushN n) (pushH a hs) h' := by
    intro y hy ey
    have e2 : (upd h.1 1 (nI y)) 2 = nI n := by rw [upd_ne (by omega)]; exact h2
    rw [fX2_remember_35]
    dsimp only [bd]
    by_cases e8 : n = 8
    · have hp : pushN n = n := by unfold pushN; rw [if_pos e8, e8]
      have hc : (8 : Int32) ≤ upd h.1 1 (nI y) 2 := by rw [e2, l8, nJ_le (by omega) (by omega)]; omega
      rw [if_pos hc]
      exact ⟨_, rfl, key y hy ey _ (by rw [hp]; exact e2) rfl rfl⟩
    · have hp : pushN n = n + 1 := if_neg e8
      have hc : ¬ (8 : Int32) ≤ upd h.1 1 (nI y) 2 := by rw [e2, l8, nJ_le (by omega) (by omega)]; omega
      rw [if_neg hc, e2, l32_1, nJ_add]
      exact ⟨_, rfl, key y hy ey _ (by rw [hp]; rfl) rfl rfl⟩
  rw [fX2_remember]
  show ∃ h', (if h.1 1 < 0 ∨ 8 ≤ Int32.toNatClampNeg (h.1 1) then none else _) = some (s, h') ∧ _
  rw [h1, if_neg i0, nJ_clamp (by omega), e, Option.bind_some]
  dsimp only [bd]
  by_cases ex : x = 7
  · have hc : (8 : Int32) ≤ h.1 1 + 1 := by rw [h1, l32_1, nJ_add, l8, nJ_le (by omega) (by omega)]; omega
    rw [if_pos hc]
    exact k35 0 (by omega) (by omega)
  · have hc : ¬ (8 : Int32) ≤ h.1 1 + 1 := by rw [h1, l32_1, nJ_add, l8, nJ_le (by omega) (by omega)]; omega
    rw [if_neg hc, h1, l32_1, nJ_add]
    exact k35 (x + 1) (by omega) (by omega)
