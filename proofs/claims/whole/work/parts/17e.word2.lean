theorem wof_onto : ∀ w, w < 9 → ∃ f, f < 10 ∧ wof f = w := by
  intro w hw
  have : w = 0 ∨ w = 1 ∨ w = 2 ∨ w = 3 ∨ w = 4 ∨ w = 5 ∨ w = 6 ∨ w = 7 ∨ w = 8 := by omega
  rcases this with e | e | e | e | e | e | e | e | e <;> subst e
  · exact ⟨0, by omega, rfl⟩
  · exact ⟨1, by omega, rfl⟩
  · exact ⟨2, by omega, rfl⟩
  · exact ⟨3, by omega, rfl⟩
  · exact ⟨4, by omega, rfl⟩
  · exact ⟨5, by omega, rfl⟩
  · exact ⟨6, by omega, rfl⟩
  · exact ⟨7, by omega, rfl⟩
  · exact ⟨9, by omega, rfl⟩
section
variable {c : Nat → Nat} {n : Nat}
theorem far_ge {p k f : Nat} (h : f < k) : Mf c n f p ≤ far c n p k := by
  induction k with
  | zero => omega
  | succ k ih =>
    show _ ≤ max (far c n p k) (Mf c n k p)
    by_cases e : f = k
    · rw [e]; omega
    · have := ih (by omega)
      omega
theorem far_lub {p k m : Nat} (h : ∀ f, f < k → Mf c n f p ≤ m) : far c n p k ≤ m := by
  induction k with
  | zero => exact Nat.zero_le _
  | succ k ih =>
    show max (far c n p k) (Mf c n k p) ≤ m
    have h1 := ih (fun f hf => h f (by omega))
    have h2 := h k (by omega)
    omega
theorem mw_pos_fit {w p : Nat} (h : 0 < Mw c n w p) : p + Mw c n w p ≤ n := by
  obtain ⟨m1, m2⟩ := mm_in (c := c) (n := n) (wrd w) p (Mw c n w p - 1) (by unfold Mw at h ⊢; omega)
  omega
theorem word_start {v : vS} : ∃ v1, fX8_word v = fX8_word_25 vF (nI 0) (-1) v1 ∧ PF v v1 ∧ (∀ w, w < 9 → v1 8 w = nI 1) ∧ v1 0 = v 0 := by
  obtain ⟨v1, e, g1, g2, g3⟩ := loop_st (F := fun N w (z : vS) => fX8_word_2 N (nI w) z) (fun w z => PF v z ∧ z 0 = v 0 ∧ ∀ x, x < w → z 8 x = nI 1) 9 (fun v1 => fX8_word_25 vF (nI 0) (-1) v1) (fun N w z hw hP => by
    obtain ⟨p1, p2, p3⟩ := hP
    have i9 : ¬ (nI w < 0 ∨ 9 ≤ Int32.toNatClampNeg (nI w)) := (nJ_in (n := 9) hw (by omega)).mp
    have c9 : ¬ (9 : Int32) ≤ nI w := by rw [show (9 : Int32) = nI 9 from rfl, nJ_le (by omega) (by omega)]; omega
    refine ⟨up2 z 8 w (nI 1), ?_, pf_trans p1 ⟨fun x h0 h8 => up2_o h8, fun x _ _ => rfl⟩, p2, fun x hx => ?_⟩
    · show fX8_word_2 (N + 1) (nI w) z = _
      rw [fX8_word_2, if_neg c9, if_neg i9, nJ_clamp (by omega)]
      dsimp only [bd]
      rw [l32_1, nJ_add]
    · rw [up2_r]
      by_cases e : x = w
      · rw [upd_eq e]
      · rw [upd_ne e]
        exact p3 x (by omega)) (fun N z hP => by
    show fX8_word_2 (N + 1) (nI 9) z = _
    rw [fX8_word_2, if_pos (by decide)]
    rfl) vF 0 v (by omega) (by unfold vF; omega) ⟨pf_refl v, rfl, fun x hx => absurd hx (Nat.not_lt_zero x)⟩
  exact ⟨v1, e, g1, g3, g2⟩
/-- the word is read whole, or not -/
theorem word_whole {v : vS} (C : CT c n v) {w p : Nat} (hw : w < 9) (S : ST v p 0) (h : Mw c n w p = (wrd w).length) : ∃ v', fX8_word v = some (nI w, v') ∧ PF v v' ∧ ST v' (p + (wrd w).length) 0 := by
  obtain ⟨l1, l2, l3, l4⟩ := off_l w hw
  have hfit := mw_pos_fit (c := c) (n := n) (w := w) (p := p) (by omega)
  obtain ⟨v1, e1, f1, a1, z1⟩ := word_start (v := v)
  have key : ∀ d k N z, k + d = (wrd w).length → d + 2 ≤ N → 0 < d → PF v z → WS c n p k z → ST z (p + k) 0 → ∃ v', fX8_word_25 N (nI k) (-1) z = some (nI w, v') ∧ PF v v' ∧ ST v' (p + (wrd w).length) 0 := by
    intro d
    induction d with
    | zero => intro k N z _ _ h; omega
    | succ d ih =>
      intro k N z h1 h2 _ fz W S'
      obtain ⟨N, rfl⟩ : ∃ m, N = m + 1 := ⟨N - 1, by omega⟩
      have ha : anyM c n p k 9 = 1 := by
        rcases anyM_b (c := c) (n := n) p k 9 with h0 | h0
        · exact absurd (by omega : k + 1 ≤ Mw c n w p) (anyM_0 h0 w hw)
        · exact h0
      obtain ⟨v', e, g1, g2, g3⟩ := (w_25 C (N := N) (by omega) (by omega) fz W S').2 ha
      have other : ∀ y, y < 9 → y ≠ w → ¬ (k + 1 ≤ Mw c n y p ∧ (wrd y).length = k + 1) := by
        intro y hy hne ⟨h3, h4⟩
        have := mw_one (c := c) (n := n) (p := p) hw hy (fun e => hne e.symm) h
        omega
      rw [e]
      by_cases hd : d = 0
      · have ei : isM c n p (k + 1) 9 = nI w := isM_some hw ⟨by omega, by omega⟩ other
        obtain ⟨N, rfl⟩ : ∃ m, N = m + 1 := ⟨N - 1, by omega⟩
        rw [ei]
        refine ⟨v', ?_, g1, by rw [show p + (wrd w).length = p + k + 1 from by omega]; exact g3⟩
        rw [fX8_word_25, if_pos (nI_nn (by omega))]
      · have ei : isM c n p (k + 1) 9 = -1 := isM_none (fun y hy h3 => by
          by_cases hne : y = w
          · rw [hne] at h3
            omega
          · exact other y hy hne h3)
        rw [ei]
        exact ih (k + 1) N v' (by omega) (by omega) (by omega) g1 g2 g3
  obtain ⟨v', e2, g1, g2⟩ := key (wrd w).length 0 vF v1 (by omega) (by unfold vF; omega) l4 f1 (fun x hx => by
    rw [a1 x hx]
    rfl) ⟨by rw [z1]; exact S.1, by rw [z1]; exact S.2⟩
  exact ⟨v', e1.trans e2, g1, g2⟩
theorem word_bad {v : vS} (C : CT c n v) {p m : Nat} (hp : p ≤ n) (S : ST v p 0) (h1 : ∀ w, w < 9 → Mw c n w p < (wrd w).length ∧ Mw c n w p ≤ m) (h2 : m = 0 ∨ ∃ w, w < 9 ∧ Mw c n w p = m) : ∃ v', fX8_word v = some (-1, v') ∧ PF v v' ∧ ST v' (p + m) 1 := by
  obtain ⟨v1, e1, f1, a1, z1⟩ := word_start (v := v)
  have hm : m ≤ 8 ∧ p + m ≤ n := by
    rcases h2 with h | ⟨w, hw, h⟩
    · omega
    · have := (off_l w hw).2.2.1
      have := (h1 w hw).1
      by_cases e : m = 0
      · omega
      · have := mw_pos_fit (c := c) (n := n) (w := w) (p := p) (by omega)
        omega
  have key : ∀ d k N z, k + d = m → d + 2 ≤ N → PF v z → WS c n p k z → ST z (p + k) 0 → ∃ v', fX8_word_25 N (nI k) (-1) z = some (-1, v') ∧ PF v v' ∧ ST v' (p + m) 1 := by
    intro d
    induction d with
    | zero =>
      intro k N z g1 g2 fz W S'
      obtain ⟨N, rfl⟩ : ∃ q, N = q + 2 := ⟨N - 2, by omega⟩
      have ha : anyM c n p k 9 = 0 := by
        rcases anyM_b (c := c) (n := n) p k 9 with h0 | h0
        · exact h0
        · obtain ⟨x, hx, h3⟩ := anyM_1 h0
          have := (h1 x hx).2
          omega
      obtain ⟨v', e, g3, g4⟩ := (w_25 C (N := N) (by omega) (by omega) fz W S').1 ha
      exact ⟨v', e, g3, by rw [show p + m = p + k from by omega]; exact g4⟩
    | succ d ih =>
      intro k N z g1 g2 fz W S'
      obtain ⟨N, rfl⟩ : ∃ q, N = q + 1 := ⟨N - 1, by omega⟩
      have ha : anyM c n p k 9 = 1 := by
        rcases anyM_b (c := c) (n := n) p k 9 with h0 | h0
        · exfalso
          rcases h2 with h | ⟨w, hw, h⟩
          · omega
          · exact anyM_0 h0 w hw (by omega)
        · exact h0
      obtain ⟨v', e, g3, g4, g5⟩ := (w_25 C (N := N) (by omega) (by omega) fz W S').2 ha
      have ei : isM c n p (k + 1) 9 = -1 := isM_none (fun y hy h3 => by
        have := (h1 y hy).1
        omega)
      rw [e, ei]
      exact ih (k + 1) N v' (by omega) (by omega) g3 g4 g5
  obtain ⟨v', e2, g1, g2⟩ := key m 0 vF v1 (by omega) (by unfold vF; omega) f1 (fun x hx => by
    rw [a1 x hx]
    rfl) ⟨by rw [z1]; exact S.1, by rw [z1]; exact S.2⟩
  exact ⟨v', e1.trans e2, g1, g2⟩
end
