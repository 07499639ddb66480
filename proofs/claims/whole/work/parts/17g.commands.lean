section
variable {c : Nat → Nat} {n : Nat}
theorem far_eq {p k : Nat} : far c n p k = 0 ∨ ∃ f, f < k ∧ Mf c n f p = far c n p k := by
  induction k with
  | zero => exact Or.inl rfl
  | succ k ih =>
    have e : far c n p (k + 1) = max (far c n p k) (Mf c n k p) := rfl
    rw [e]
    by_cases h : Mf c n k p ≤ far c n p k
    · rw [Nat.max_eq_left h]
      rcases ih with h1 | ⟨f, hf, h1⟩
      · exact Or.inl h1
      · exact Or.inr ⟨f, by omega, h1⟩
    · rw [Nat.max_eq_right (by omega)]
      exact Or.inr ⟨k, by omega, rfl⟩
theorem cmd_eq (v : vS) : fX8_command v = obp (fX8_word v) fun y2 u1 => (if u1 0 22 = 0 then (if y2 = 0 then obp (fX8_hexes u1) fun y6 u5 => fX8_command_26 y2 y6 (0 : Int32) u5 else fX8_command_26 y2 (0 : Int32) (0 : Int32) u1) else some u1) := rfl
theorem cmd_arg {w : Nat} (hw : w < 9) (u : vS) : (if nI w = 0 then obp (fX8_hexes u) fun y6 u5 => fX8_command_26 (nI w) y6 (0 : Int32) u5 else fX8_command_26 (nI w) (0 : Int32) (0 : Int32) u) = argC w u := by
  unfold argC
  by_cases h : w = 0
  · subst h
    rw [if_pos l32_0.symm, if_pos rfl]
  · rw [if_neg (by rw [l32_0, nJ_eq (by omega) (by omega)]; exact h), if_neg h]
theorem cmd_ok {v : vS} (C : CT c n v) {p f : Nat} (hf : f < 10) (h : Mf c n f p = ln f) (S : ST v p 0) : ∃ v', PF v v' ∧ ST v' (p + ln f) 0 ∧ fX8_command v = if v' 0 23 = 0 then some v' else obp (dR (fmF f) (whoF c f p) (valF c f p) v') (fun _ u3 => some u3) := by
  obtain ⟨h1, h2⟩ := mf_word hf h
  have hw := wof_lt f hf
  have hfit := mf_fit (c := c) (n := n) hf h
  have hln := ln_eq hf
  obtain ⟨v1, e1, f1, S1⟩ := word_whole C hw S h1
  obtain ⟨g, y, z, v2, hg, hgw, e2, f2, F2, hmax, hval⟩ := args_all (ct_pf C f1) hw S1 (by omega)
  have hgf : g = f := by
    by_cases e : g = f
    · exact e
    · exfalso
      have hm := hmax f hf rfl
      rw [h2] at hm
      rcases same_word g hg f hf hgw e with ⟨a1, a2⟩ | ⟨a1, a2⟩
      · subst a1; subst a2
        have := mm_le (c := c) (n := n) (arg 7) (p + (wrd (wof 8)).length)
        have l1 : (arg 7).length = 1 := rfl
        have l2 : (arg 8).length = 2 := rfl
        omega
      · subst a1; subst a2
        have l2 : (arg 7).length = 1 := rfl
        obtain ⟨b1, b2⟩ := mm_in (c := c) (n := n) (arg 7) (p + (wrd (wof 7)).length) 0 (by omega)
        obtain ⟨d1, d2⟩ := mm_in (c := c) (n := n) (arg 8) (p + (wrd (wof 7)).length) 0 (by omega)
        rw [show (arg 8).getD 0 0 = 45 from rfl, okc_let (by decide)] at d2
        rw [show (arg 7).getD 0 0 = 86 from rfl, d2] at b2
        exact absurd b2 (by decide)
  subst hgf
  have S2 := fins_go h2 F2
  refine ⟨v2, pf_trans f1 f2, by rw [hln, ← Nat.add_assoc]; exact S2, ?_⟩
  have c1 : v1 0 22 = 0 := S1.2
  have c2 : v2 0 22 = 0 := S2.2
  rw [cmd_eq, e1, obp_some, if_pos c1, cmd_arg hw, e2, fX8_command_140, if_pos c2, hval h2]
theorem cmd_bad {v : vS} (C : CT c n v) {p : Nat} (hp : p ≤ n) (h : ∀ f, f < 10 → Mf c n f p ≠ ln f) (S : ST v p 0) : ∃ v', fX8_command v = some v' ∧ PF v v' ∧ ST v' (p + far c n p 10) 1 := by
  rcases first_or (fun w => Mw c n w p = (wrd w).length) 0 9 with ⟨w, -, hw, h1, -⟩ | h1
  · obtain ⟨l1, l2, l3, l4⟩ := off_l w hw
    have hfit := mw_pos_fit (c := c) (n := n) (w := w) (p := p) (by omega)
    obtain ⟨v1, e1, f1, S1⟩ := word_whole C hw S h1
    obtain ⟨g, y, z, v2, hg, hgw, e2, f2, F2, hmax, hval⟩ := args_all (ct_pf C f1) hw S1 (by omega)
    have hmf : ∀ f, f < 10 → wof f = w → Mf c n f p = (wrd w).length + mm c n (arg f) (p + (wrd w).length) := by
      intro f hf e
      have := mf_eq (c := c) (n := n) hf p
      rw [e, if_pos h1] at this
      exact this
    have hne : ¬ mm c n (arg g) (p + (wrd w).length) = (arg g).length := by
      intro e
      have h3 := hmf g hg hgw
      have h4 := ln_eq hg
      rw [hgw] at h4
      exact h g hg (by omega)
    have hfar : far c n p 10 = (wrd w).length + mm c n (arg g) (p + (wrd w).length) := by
      apply Nat.le_antisymm
      · apply far_lub
        intro f hf
        by_cases e : wof f = w
        · rw [hmf f hf e]
          have := hmax f hf e
          omega
        · have h3 := mw_one (c := c) (n := n) (p := p) hw (wof_lt f hf) (fun h => e h.symm) h1
          have h4 := mf_eq (c := c) (n := n) hf p
          rw [if_neg (by omega)] at h4
          omega
      · rw [← hmf g hg hgw]
        exact far_ge hg
    unfold FINS at F2
    rw [if_neg hne] at F2
    have c1 : v1 0 22 = 0 := S1.2
    have c2 : ¬ v2 0 22 = 0 := by rw [F2.2]; decide
    refine ⟨v2, ?_, pf_trans f1 f2, by rw [hfar, ← Nat.add_assoc]; exact F2⟩
    rw [cmd_eq, e1, obp_some, if_pos c1, cmd_arg hw, e2, fX8_command_140, if_neg c2]
  · have hlt : ∀ w, w < 9 → Mw c n w p < (wrd w).length := fun w hw => by
      have := mm_le (c := c) (n := n) (wrd w) p
      have h2 := h1 w (by omega) hw
      unfold Mw at h2 ⊢
      omega
    have hmf : ∀ f, f < 10 → Mf c n f p = Mw c n (wof f) p := by
      intro f hf
      have := mf_eq (c := c) (n := n) hf p
      rw [if_neg (h1 _ (by omega) (wof_lt f hf))] at this
      exact this
    obtain ⟨v1, e1, f1, S1⟩ := word_bad C (m := far c n p 10) hp S (fun w hw => by
      obtain ⟨f, hf, e⟩ := wof_onto w hw
      refine ⟨hlt w hw, ?_⟩
      rw [← e, ← hmf f hf]
      exact far_ge hf) (by
      rcases far_eq (c := c) (n := n) (p := p) (k := 10) with h2 | ⟨f, hf, h2⟩
      · exact Or.inl h2
      · exact Or.inr ⟨wof f, wof_lt f hf, by rw [← hmf f hf]; exact h2⟩)
    have c1 : ¬ v1 0 22 = 0 := by rw [S1.2]; decide
    exact ⟨v1, by rw [cmd_eq, e1, obp_some, if_neg c1], f1, S1⟩
def runC (N : Nat) (k : Int32) (v : vS) : Option (Int32 × vS) := (fX8_command v).bind fun u3 => fX8_commands_16 N k u3
theorem pass1 {p : Nat} {cs : List (Nat × Nat)} {out : Option Nat} (P : PR c n p cs out) : ∀ k v N, n + 2 ≤ p + N → p ≤ n → CT c n v → ST v p 0 → v 0 0 = 0 → v 0 23 = 0 → ∃ y v', runC N (nI k) v = some (y, v') ∧ PF v v' ∧ (∀ e, out = some e → ST v' e 1) ∧ (out = none → ST v' n 0) := by
  have st16 : ∀ {v : vS} (N k : Nat) {q : Nat}, CT c n v → ST v q 0 → v 0 0 = 0 → q < n → fX8_commands_16 (N + 1) (nI k) v = (fX8_mark (nI 59) v).bind fun u4 => (if u4 0 22 = 0 then (fX8_command u4).bind fun u7 => fX8_commands_16 N (nI (k + 1)) u7 else fX8_commands_16 N (nI (k + 1)) u4) := by
    intro v N k q C S h0 hq
    have hn := C.1
    rw [fX8_commands_16, if_pos (show v 0 22 = 0 from S.2), if_pos h0, if_neg (by rw [C.2.1, S.1, nJ_le (by omega) (by omega)]; omega), l32_1, nJ_add]
    rfl
  induction P using PR.ind with
  | bad p hp h =>
    intro k v N hN _ C S h0 h23
    obtain ⟨N, rfl⟩ : ∃ m, N = m + 1 := ⟨N - 1, by omega⟩
    obtain ⟨v', e1, f1, S1⟩ := cmd_bad C hp h S
    have c1 : ¬ v' 0 22 = 0 := by rw [S1.2]; decide
    refine ⟨nI k, v', ?_, f1, fun e he => ?_, fun h => absurd h (by intro h; cases h)⟩
    · rw [runC, e1, Option.bind_some, fX8_commands_16, if_neg c1]
    · have he2 : p + far c n p 10 = e := by injection he
      rw [← he2]
      exact S1
  | last p f hf h hq =>
    intro k v N hN _ C S h0 h23
    obtain ⟨N, rfl⟩ : ∃ m, N = m + 1 := ⟨N - 1, by omega⟩
    obtain ⟨v', f1, S1, e1⟩ := cmd_ok C hf h S
    have c23 : v' 0 23 = 0 := by rw [f1.2 23 (by omega) (by omega)]; exact h23
    rw [if_pos c23] at e1
    rw [hq] at S1
    have C1 := ct_pf C f1
    refine ⟨nI k, v', ?_, f1, fun e he => (by cases he), fun _ => S1⟩
    rw [runC, e1, Option.bind_some, fX8_commands_16, if_pos (show v' 0 22 = 0 from S1.2), if_pos (by rw [f1.2 0 (by omega) (by omega)]; exact h0), if_pos (by rw [C1.2.1, S1.1]; exact Int32.le_refl _)]
  | semi p f hf h hq hc =>
    intro k v N hN _ C S h0 h23
    have hl := ln_b f hf
    obtain ⟨N, rfl⟩ : ∃ m, N = m + 2 := ⟨N - 2, by omega⟩
    obtain ⟨v', f1, S1, e1⟩ := cmd_ok C hf h S
    have c23 : v' 0 23 = 0 := by rw [f1.2 23 (by omega) (by omega)]; exact h23
    rw [if_pos c23] at e1
    have C1 := ct_pf C f1
    obtain ⟨v2, e2, f2, F2⟩ := mark_ok C1 (y := 59) (by omega) (by decide) S1 (by omega)
    have hm : mm c n [59] (p + ln f) = 0 := by
      rw [mm_one, if_neg]
      intro ⟨_, g⟩
      exact hc ((okc_let (by decide)).mp g)
    unfold FINS at F2
    rw [hm, if_neg (by decide)] at F2
    have c2 : ¬ v2 0 22 = 0 := by rw [F2.2]; decide
    refine ⟨nI (k + 1), v2, ?_, pf_trans f1 f2, fun e he => ?_, fun h => absurd h (by intro h; cases h)⟩
    · rw [runC, e1, Option.bind_some, st16 (N + 1) k C1 S1 (by rw [f1.2 0 (by omega) (by omega)]; exact h0) hq, e2, Option.bind_some, if_neg c2, fX8_commands_16, if_neg c2]
    · have he2 : p + ln f = e := by injection he
      rw [← he2]
      exact F2
  | next p f cs out hf h hq hc hr ih =>
    intro k v N hN _ C S h0 h23
    have hl := ln_b f hf
    obtain ⟨N, rfl⟩ : ∃ m, N = m + 1 := ⟨N - 1, by omega⟩
    obtain ⟨v', f1, S1, e1⟩ := cmd_ok C hf h S
    have c23 : v' 0 23 = 0 := by rw [f1.2 23 (by omega) (by omega)]; exact h23
    have c0 : v' 0 0 = 0 := by rw [f1.2 0 (by omega) (by omega)]; exact h0
    rw [if_pos c23] at e1
    have C1 := ct_pf C f1
    obtain ⟨v2, e2, f2, F2⟩ := mark_ok C1 (y := 59) (by omega) (by decide) S1 (by omega)
    have hm : mm c n [59] (p + ln f) = 1 := by
      rw [mm_one, if_pos ⟨hq, (okc_let (by decide)).mpr hc⟩]
    have S2 := fins_go (S := [59]) hm F2
    have c2 : v2 0 22 = 0 := S2.2
    obtain ⟨y, v3, e3, f3, g1, g2⟩ := ih (k + 1) v2 N (by omega) (by omega) (ct_pf C1 f2) S2 (by rw [f2.2 0 (by omega) (by omega)]; exact c0) (by rw [f2.2 23 (by omega) (by omega)]; exact c23)
    refine ⟨y, v3, ?_, pf_trans f1 (pf_trans f2 f3), g1, g2⟩
    rw [runC, e1, Option.bind_some, st16 N k C1 S1 c0 hq, e2, Option.bind_some, if_pos c2]
    exact e3
end
