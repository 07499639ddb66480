def offN : List Nat := [0, 5, 11, 17, 22, 26, 32, 40, 46, 50]
def off (w : Nat) : Nat := offN.getD w 0
theorem off_v : ∀ w, w < 10 → vtb10.getD w 0 = nI (off w) := by decide +kernel
theorem off_l : ∀ w, w < 9 → off (w + 1) = off w + (wrd w).length ∧ off (w + 1) ≤ 50 ∧ (wrd w).length ≤ 8 ∧ 0 < (wrd w).length := by decide +kernel
theorem let_v : ∀ w, w < 9 → ∀ k, k < (wrd w).length → vtb9.getD (off w + k) 0 = nI ((wrd w).getD k 0) ∧ (wrd w).getD k 0 < 127 := by decide +kernel
section
variable {c : Nat → Nat} {n : Nat}
theorem mw_succ {w p k : Nat} (hw : w < 9) (h : k ≤ Mw c n w p) : k + 1 ≤ Mw c n w p ↔ (k < (wrd w).length ∧ p + k < n ∧ c (p + k) = (wrd w).getD k 0) := by
  constructor
  · intro h1
    obtain ⟨m1, m2⟩ := mm_in (c := c) (n := n) (wrd w) p k h1
    have hl : Mw c n w p ≤ (wrd w).length := mm_le (wrd w) p
    have hk : k < (wrd w).length := by omega
    exact ⟨hk, m1, (okc_let (wd_let w hw k hk)).mp m2⟩
  · intro ⟨h1, h2, h3⟩
    by_cases e : k + 1 ≤ Mw c n w p
    · exact e
    · exfalso
      have ek : mm c n (wrd w) p = k := by unfold Mw at h e; omega
      have := mm_end (c := c) (n := n) (wrd w) p (by omega)
      rw [ek] at this
      exact this ⟨h2, (okc_let (wd_let w hw k h1)).mpr h3⟩
/-- which words are left when k letters are read -/
def lft (c : Nat → Nat) (n p k w : Nat) : Nat := if k ≤ Mw c n w p then 1 else 0
def anyM (c : Nat → Nat) (n p k : Nat) : Nat → Nat
  | 0 => 0
  | w + 1 => if k + 1 ≤ Mw c n w p then 1 else anyM c n p k w
theorem anyM_b (p k w : Nat) : anyM c n p k w = 0 ∨ anyM c n p k w = 1 := by
  induction w with
  | zero => exact Or.inl rfl
  | succ w ih =>
    unfold anyM
    split
    · exact Or.inr rfl
    · exact ih
theorem anyM_1 {p k w : Nat} (h : anyM c n p k w = 1) : ∃ x, x < w ∧ k + 1 ≤ Mw c n x p := by
  induction w with
  | zero => exact absurd (show 0 = 1 from h) (by decide)
  | succ w ih =>
    unfold anyM at h
    split at h
    · rename_i h1
      exact ⟨w, by omega, h1⟩
    · obtain ⟨x, h1, h2⟩ := ih h
      exact ⟨x, by omega, h2⟩
theorem anyM_0 {p k w : Nat} (h : anyM c n p k w = 0) : ∀ x, x < w → ¬ k + 1 ≤ Mw c n x p := by
  induction w with
  | zero => intro x hx; omega
  | succ w ih =>
    intro x hx
    unfold anyM at h
    split at h
    · exact absurd h (by decide)
    · rename_i h1
      by_cases e : x = w
      · rw [e]; exact h1
      · exact ih h x (by omega)
/-- the word that is whole, the last of them, or none -/
def isM (c : Nat → Nat) (n p k : Nat) : Nat → Int32
  | 0 => -1
  | w + 1 => if k ≤ Mw c n w p ∧ (wrd w).length = k then nI w else isM c n p k w
theorem isM_none {p k w : Nat} (h : ∀ x, x < w → ¬ (k ≤ Mw c n x p ∧ (wrd x).length = k)) : isM c n p k w = -1 := by
  induction w with
  | zero => rfl
  | succ w ih =>
    unfold isM
    rw [if_neg (h w (by omega))]
    exact ih (fun x hx => h x (by omega))
theorem isM_some {p k w x : Nat} (hx : x < w) (h1 : k ≤ Mw c n x p ∧ (wrd x).length = k) (h2 : ∀ y, y < w → y ≠ x → ¬ (k ≤ Mw c n y p ∧ (wrd y).length = k)) : isM c n p k w = nI x := by
  induction w with
  | zero => omega
  | succ w ih =>
    unfold isM
    by_cases e : w = x
    · rw [e, if_pos h1]
    · rw [if_neg (h2 w (by omega) e)]
      exact ih (by omega) (fun y hy hn => h2 y (by omega) hn)
/-- the state of the words when k letters are read -/
def WS (c : Nat → Nat) (n p k : Nat) (v : vS) : Prop := ∀ w, w < 9 → v 8 w = nI (lft c n p k w)
theorem word_in {v0 : vS} (C : CT c n v0) {v : vS} (f : PF v0 v) {w : Nat} (hw : w < 10) : v 10 w = nI (off w) := by
  rw [(ct_pf C f).2.2.2.2 w hw, off_v w hw]
theorem w_103 (R25 : Int32 → Int32 → vS → Option (Int32 × vS)) (R41 : Int32 → Int32 → Int32 → Int32 → vS → Option (Int32 × vS)) (x1 x2 : Int32) {v : vS} {w m a b : Nat} (hw : w < 9) (hm : m = 0 ∨ m = 1) (ha : a = 0 ∨ a = 1) (hb : b = 0 ∨ b = 1) : fX8_word_103 R25 R41 x1 x2 (nI m) (nI w) (nI b) (nI a) (nI w) v = R41 x1 x2 (nI (if a = 1 ∧ b = 1 then 1 else m)) (nI (w + 1)) (up2 v 8 w (nI (if a = 1 ∧ b = 1 then 1 else 0))) := by
  have i9 : ¬ (nI w < 0 ∨ 9 ≤ Int32.toNatClampNeg (nI w)) := (nJ_in (n := 9) hw (by omega)).mp
  have i9b : ¬ (nI w < 0 ∨ 9 ≤ w) := by have := i9; rw [nJ_clamp (by omega)] at this; exact this
  rw [fX8_word_103, nJ_clamp (by omega), if_neg i9b, nI_and]
  dsimp only [bd]
  have hx : a &&& b = if a = 1 ∧ b = 1 then 1 else 0 := by
    rcases ha with rfl | rfl <;> rcases hb with rfl | rfl <;> rfl
  rw [if_neg i9b, hx, up2_r, upd_eq rfl]
  by_cases e : a = 1 ∧ b = 1
  · rw [if_pos e, if_pos e, if_pos l32_1.symm, l32_1, nI_or, nJ_add]
    have : m ||| 1 = 1 := by rcases hm with rfl | rfl <;> rfl
    rw [this]
  · rw [if_neg e, if_neg e, if_neg (by decide), l32_0, nI_or, Nat.or_zero, l32_1, nJ_add]
theorem loop_st {S R : Type} {F : Nat → Nat → S → R} (P : Nat → S → Prop) (N : Nat) (G : S → R) (hs : ∀ n k s, k < N → P k s → ∃ s', F (n + 1) k s = F n (k + 1) s' ∧ P (k + 1) s') (he : ∀ n s, P N s → F (n + 1) N s = G s) : ∀ n i s, i ≤ N → N - i + 1 ≤ n → P i s → ∃ s', F n i s = G s' ∧ P N s' := by
  have h : ∀ d i s n, i + d = N → d + 1 ≤ n → P i s → ∃ s', F n i s = G s' ∧ P N s' := by
    intro d
    induction d with
    | zero =>
      intro i s n h1 h2 h3
      obtain ⟨n, rfl⟩ : ∃ m, n = m + 1 := ⟨n - 1, by omega⟩
      have : i = N := by omega
      subst this
      exact ⟨s, he n s h3, h3⟩
    | succ d ih =>
      intro i s n h1 h2 h3
      obtain ⟨n, rfl⟩ : ∃ m, n = m + 1 := ⟨n - 1, by omega⟩
      obtain ⟨s', e, h4⟩ := hs n i s (by omega) h3
      rw [e]
      exact ih (i + 1) s' n (by omega) (by omega) h4
  intro n i s h1 h2 h3
  exact h (N - i) i s n (by omega) h2 h3
theorem lft_b (p k w : Nat) : lft c n p k w = 0 ∨ lft c n p k w = 1 := by
  unfold lft
  split
  · exact Or.inr rfl
  · exact Or.inl rfl
theorem lft_step {p k w b : Nat} (hw : w < 9) (hb : b = 1 ↔ (k < (wrd w).length ∧ p + k < n ∧ c (p + k) = (wrd w).getD k 0)) : (lft c n p k w = 1 ∧ b = 1) ↔ k + 1 ≤ Mw c n w p := by
  by_cases h : k ≤ Mw c n w p
  · have e : lft c n p k w = 1 := if_pos h
    rw [mw_succ hw h, ← hb]
    exact ⟨fun g => g.2, fun g => ⟨e, g⟩⟩
  · have e : lft c n p k w = 0 := if_neg h
    rw [e]
    exact ⟨fun g => absurd g.1 (by decide), fun g => by omega⟩
theorem w_41 {v0 : vS} (C : CT c n v0) (R25 : Int32 → Int32 → vS → Option (Int32 × vS)) (x2 : Int32) {p k : Nat} (hk : k ≤ 8) (hp : p + k ≤ n) {v : vS} (f : PF v0 v) (W : WS c n p k v) (hh : v 0 19 = nI (p + k)) : ∃ v', fX8_word_41 vF R25 (nI k) x2 (nI 0) (nI 0) v = (if nI (anyM c n p k 9) = 0 then fX8_word_140 R25 (nI k) x2 (nI (anyM c n p k 9)) 1 v' else fX8_word_140 R25 (nI k) x2 (nI (anyM c n p k 9)) 0 v') ∧ PF v0 v' ∧ WS c n p (k + 1) v' ∧ v' 0 = v 0 := by
  have hn := C.1
  obtain ⟨v', e, g1, g2, g3, g4⟩ := loop_st (F := fun N w (z : vS) => fX8_word_41 N R25 (nI k) x2 (nI (anyM c n p k w)) (nI w) z) (fun w z => PF v0 z ∧ z 0 = v 0 ∧ (∀ x, x < w → z 8 x = nI (lft c n p (k + 1) x)) ∧ (∀ x, w ≤ x → x < 9 → z 8 x = nI (lft c n p k x))) 9 (fun v' => (if nI (anyM c n p k 9) = 0 then fX8_word_140 R25 (nI k) x2 (nI (anyM c n p k 9)) 1 v' else fX8_word_140 R25 (nI k) x2 (nI (anyM c n p k 9)) 0 v')) (fun N w z hw hP => by
    obtain ⟨p1, p2, p3, p4⟩ := hP
    obtain ⟨l1, l2, l3, l4⟩ := off_l w hw
    have i9 : ¬ (nI w < 0 ∨ 9 ≤ Int32.toNatClampNeg (nI w)) := (nJ_in (n := 9) hw (by omega)).mp
    have i10 : ¬ (nI w < 0 ∨ 10 ≤ Int32.toNatClampNeg (nI w)) := (nJ_in (n := 10) (by omega) (by omega)).mp
    have i11 : ¬ (nI (w + 1) < 0 ∨ 10 ≤ Int32.toNatClampNeg (nI (w + 1))) := (nJ_in (n := 10) (by omega) (by omega)).mp
    have o1 := word_in C p1 (w := w) (by omega)
    have o2 := word_in C p1 (w := w + 1) (by omega)
    have z8 := p4 w (Nat.le_refl w) hw
    have hz : z 0 19 = nI (p + k) := by rw [p2]; exact hh
    have c9 : ¬ (9 : Int32) ≤ nI w := by rw [show (9 : Int32) = nI 9 from rfl, nJ_le (by omega) (by omega)]; omega
    have cw : Int32.toNatClampNeg (nI w) = w := nJ_clamp (by omega)
    have cw1 : Int32.toNatClampNeg (nI (w + 1)) = w + 1 := nJ_clamp (by omega)
    -- the rest, when the letter is known
    have rest : ∀ b, (b = 0 ∨ b = 1) → (b = 1 ↔ (k < (wrd w).length ∧ p + k < n ∧ c (p + k) = (wrd w).getD k 0)) → ∃ s', fX8_word_103 R25 (fun a0 a1 a2 a3 a4 => fX8_word_41 N R25 a0 a1 a2 a3 a4) (nI k) x2 (nI (anyM c n p k w)) (nI w) (nI b) (nI (lft c n p k w)) (nI w) z = fX8_word_41 N R25 (nI k) x2 (nI (anyM c n p k (w + 1))) (nI (w + 1)) s' ∧ PF v0 s' ∧ s' 0 = v 0 ∧ (∀ x, x < w + 1 → s' 8 x = nI (lft c n p (k + 1) x)) ∧ (∀ x, w + 1 ≤ x → x < 9 → s' 8 x = nI (lft c n p k x)) := by
      intro b hb hb2
      have hs := lft_step (c := c) (n := n) (p := p) (k := k) hw hb2
      refine ⟨up2 z 8 w (nI (if lft c n p k w = 1 ∧ b = 1 then 1 else 0)), ?_, pf_trans p1 ⟨fun x h0 h8 => up2_o h8, fun x _ _ => rfl⟩, p2, fun x hx => ?_, fun x hx hx2 => ?_⟩
      · rw [w_103 _ _ _ _ hw (anyM_b p k w) (lft_b p k w) hb]
        have ea : anyM c n p k (w + 1) = if lft c n p k w = 1 ∧ b = 1 then 1 else anyM c n p k w := by
          show (if k + 1 ≤ Mw c n w p then 1 else anyM c n p k w) = _
          by_cases h : k + 1 ≤ Mw c n w p
          · rw [if_pos h, if_pos (hs.mpr h)]
          · rw [if_neg h, if_neg (fun g => h (hs.mp g))]
        rw [ea]
      · rw [up2_r]
        by_cases e : x = w
        · have e1 : lft c n p (k + 1) w = if k + 1 ≤ Mw c n w p then 1 else 0 := rfl
          rw [upd_eq e, e, e1]
          by_cases h : k + 1 ≤ Mw c n w p
          · rw [if_pos h, if_pos (hs.mpr h)]
          · rw [if_neg h, if_neg (fun g => h (hs.mp g))]
        · rw [upd_ne e]
          exact p3 x (by omega)
      · rw [up2_r, upd_ne (by omega)]
        exact p4 x (by omega) hx2
    show ∃ s', fX8_word_41 (N + 1) R25 (nI k) x2 (nI (anyM c n p k w)) (nI w) z = _ ∧ _
    rw [fX8_word_41, if_neg c9, if_neg i9, if_neg i10, l32_1, nJ_add, if_neg i11, cw, cw1, o1, o2, nJ_add, z8]
    by_cases hl : (wrd w).length ≤ k
    · rw [if_pos ((nJ_le (by omega) (by omega)).mpr (by omega))]
      exact rest 0 (Or.inl rfl) ⟨fun h => absurd h (by decide), fun h => by omega⟩
    · have i10b : ¬ (nI w < 0 ∨ 10 ≤ w) := by have := i10; rw [cw] at this; exact this
      have i50 : ¬ (nI (off w + k) < 0 ∨ 50 ≤ Int32.toNatClampNeg (nI (off w + k))) := (nJ_in (n := 50) (by omega) (by omega)).mp
      obtain ⟨u1, u2⟩ := let_v w hw k (by omega)
      have v9 : z 9 (off w + k) = nI ((wrd w).getD k 0) := by
        rw [(ct_pf C p1).2.2.2.1 (off w + k) (by omega), u1]
      rw [if_neg (by rw [nJ_le (by omega) (by omega)]; omega), if_neg i10b, if_neg i50, nJ_clamp (by omega), v9]
      by_cases h1 : p + k < n
      · rw [sign_in (ct_pf C p1) hz h1, obp_some]
        have hc := (C.2.2.1 _ h1).2
        by_cases h2 : c (p + k) = (wrd w).getD k 0
        · rw [if_pos (by rw [h2])]
          exact rest 1 (Or.inr rfl) ⟨fun _ => ⟨by omega, h1, h2⟩, fun _ => rfl⟩
        · rw [if_neg (fun h => h2 ((nJ_eq (by omega) (by omega)).mp h).symm)]
          exact rest 0 (Or.inl rfl) ⟨fun h => absurd h (by decide), fun h => absurd h.2.2 h2⟩
      · rw [sign_out (ct_pf C p1) hz h1 (by omega), obp_some, if_neg (fun h => neg1_ne _ u2 h.symm)]
        exact rest 0 (Or.inl rfl) ⟨fun h => absurd h (by decide), fun h => absurd h.2.1 h1⟩) (fun N z hP => by
    show fX8_word_41 (N + 1) R25 (nI k) x2 (nI (anyM c n p k 9)) (nI 9) z = _
    rw [fX8_word_41, if_pos (by decide)]) vF 0 v (by omega) (by unfold vF; omega) ⟨f, rfl, fun x hx => absurd hx (Nat.not_lt_zero x), fun x _ hx => W x hx⟩
  exact ⟨v', e, g1, fun w hw => g3 w hw, g2⟩
/-- which word is whole -/
theorem w_167 {v0 : vS} (C : CT c n v0) (R25 : Int32 → Int32 → vS → Option (Int32 × vS)) {p k : Nat} (hk : k ≤ 9) {v : vS} (f : PF v0 v) (W : WS c n p k v) : fX8_word_167 vF R25 (nI k) (-1) (nI 0) v = R25 (nI k) (isM c n p k 9) v := by
  have h := loop_to (F := fun N w => fX8_word_167 N R25 (nI k) (isM c n p k w) (nI w) v) 9 (r := R25 (nI k) (isM c n p k 9) v) (by omega) (fun N w hw => ?_) (fun N => ?_)
  · exact h
  · obtain ⟨l1, l2, l3, l4⟩ := off_l w hw
    have i9 : ¬ (nI w < 0 ∨ 9 ≤ Int32.toNatClampNeg (nI w)) := (nJ_in (n := 9) hw (by omega)).mp
    have i10 : ¬ (nI w < 0 ∨ 10 ≤ Int32.toNatClampNeg (nI w)) := (nJ_in (n := 10) (by omega) (by omega)).mp
    have i11 : ¬ (nI (w + 1) < 0 ∨ 10 ≤ Int32.toNatClampNeg (nI (w + 1))) := (nJ_in (n := 10) (by omega) (by omega)).mp
    have c9 : ¬ (9 : Int32) ≤ nI w := by rw [show (9 : Int32) = nI 9 from rfl, nJ_le (by omega) (by omega)]; omega
    have cw : Int32.toNatClampNeg (nI w) = w := nJ_clamp (by omega)
    have cw1 : Int32.toNatClampNeg (nI (w + 1)) = w + 1 := nJ_clamp (by omega)
    have ei : isM c n p k (w + 1) = if k ≤ Mw c n w p ∧ (wrd w).length = k then nI w else isM c n p k w := rfl
    show fX8_word_167 (N + 1) R25 (nI k) (isM c n p k w) (nI w) v = _
    rw [fX8_word_167, if_neg c9, if_neg i9, cw, W w hw, ei]
    have i10b : ¬ (nI w < 0 ∨ 10 ≤ w) := by have := i10; rw [cw] at this; exact this
    by_cases hl : k ≤ Mw c n w p
    · have e1 : lft c n p k w = 1 := if_pos hl
      rw [e1, if_pos l32_1.symm, if_neg i10b, l32_1, nJ_add, if_neg i11, cw1, word_in C f (by omega), word_in C f (by omega), nJ_add]
      by_cases h2 : (wrd w).length = k
      · rw [if_pos (by rw [l1, h2]), if_pos ⟨hl, h2⟩]
        rfl
      · rw [if_neg (by rw [nJ_eq (by omega) (by omega)]; omega), if_neg (fun h => h2 h.2)]
        rfl
    · have e1 : lft c n p k w = 0 := if_neg hl
      rw [e1, if_neg (by decide), if_neg (fun h => hl h.1), l32_1, nJ_add]
      rfl
  · show fX8_word_167 (N + 1) R25 (nI k) (isM c n p k 9) (nI 9) v = _
    rw [fX8_word_167, if_pos (by decide)]
/-- one more letter -/
theorem w_25 {v0 : vS} (C : CT c n v0) {p k N : Nat} (hk : k ≤ 8) (hp : p + k ≤ n) {v : vS} (f : PF v0 v) (W : WS c n p k v) (S : ST v (p + k) 0) : (anyM c n p k 9 = 0 → ∃ v', fX8_word_25 (N + 2) (nI k) (-1) v = some (-1, v') ∧ PF v0 v' ∧ ST v' (p + k) 1) ∧ (anyM c n p k 9 = 1 → ∃ v', fX8_word_25 (N + 1) (nI k) (-1) v = fX8_word_25 N (nI (k + 1)) (isM c n p (k + 1) 9) v' ∧ PF v0 v' ∧ WS c n p (k + 1) v' ∧ ST v' (p + k + 1) 0) := by
  have hn := C.1
  have m1 : ¬ (0 : Int32) ≤ -1 := m1_nn
  have c0 : v 0 22 = 0 := S.2
  constructor
  · intro ha
    obtain ⟨v', e, g1, g2, g3⟩ := w_41 C (fun a0 a1 a2 => fX8_word_25 (N + 1) a0 a1 a2) (-1) hk hp f W S.1
    have f2 : PF v0 (rdS v' 1 (p + k)) := pf_trans g1 (rd_pf _ _ _)
    have W2 : WS c n p (k + 1) (rdS v' 1 (p + k)) := g2
    refine ⟨rdS v' 1 (p + k), ?_, f2, rd_st _ _ _⟩
    have e19 : up2 v' 0 22 1 0 19 = nI (p + k) := by
      show v' 0 19 = _
      rw [g3]; exact S.1
    rw [fX8_word_25, if_neg m1, if_pos c0]
    rw [← l32_0] at e
    rw [e, ha, if_pos l32_0.symm, fX8_word_140, if_pos (Or.inr rfl)]
    dsimp only [bd]
    rw [if_pos l32_0.symm, e19, l32_0, nJ_add, l32_1, nJ_add]
    have e167 := w_167 C (fun a0 a1 a2 => fX8_word_25 (N + 1) a0 a1 a2) (by omega : k + 1 ≤ 9) f2 W2
    show fX8_word_167 vF (fun a0 a1 a2 => fX8_word_25 (N + 1) a0 a1 a2) (nI (k + 1)) (-1) (nI 0) (rdS v' 1 (p + k)) = _
    rw [e167]
    have ei : isM c n p (k + 1) 9 = -1 := isM_none (fun x hx h => anyM_0 ha x hx h.1)
    rw [ei]
    show fX8_word_25 (N + 1) (nI (k + 1)) (-1) (rdS v' 1 (p + k)) = _
    have c1 : ¬ rdS v' 1 (p + k) 0 22 = 0 := by
      show ¬ nI 1 = 0
      decide
    rw [fX8_word_25, if_neg m1, if_neg c1]
    rfl
  · intro ha
    obtain ⟨v', e, g1, g2, g3⟩ := w_41 C (fun a0 a1 a2 => fX8_word_25 N a0 a1 a2) (-1) hk hp f W S.1
    have f2 : PF v0 (rdS v' 0 (p + k + 1)) := pf_trans g1 (rd_pf _ _ _)
    have W2 : WS c n p (k + 1) (rdS v' 0 (p + k + 1)) := g2
    refine ⟨rdS v' 0 (p + k + 1), ?_, f2, W2, rd_st _ _ _⟩
    have e19 : up2 v' 0 22 0 0 19 = nI (p + k) := by
      show v' 0 19 = _
      rw [g3]; exact S.1
    rw [fX8_word_25, if_neg m1, if_pos c0]
    rw [← l32_0] at e
    rw [e, ha, if_neg (by decide), fX8_word_140, if_pos (Or.inl rfl)]
    dsimp only [bd]
    rw [if_neg (by decide), e19, l32_1, nJ_add, nJ_add]
    have e167 := w_167 C (fun a0 a1 a2 => fX8_word_25 N a0 a1 a2) (by omega : k + 1 ≤ 9) f2 W2
    show fX8_word_167 vF (fun a0 a1 a2 => fX8_word_25 N a0 a1 a2) (nI (k + 1)) (-1) (nI 0) (rdS v' 0 (p + k + 1)) = _
    rw [e167]
end
