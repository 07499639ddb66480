def shN : List (List Nat) := [[115, 97, 105, 108, 32, 88, 88, 88, 88], [115, 104, 111, 114, 101, 32, 87], [115, 105, 103, 104, 116, 32, 87], [109, 111, 111, 100, 32, 87, 32, 88, 88, 88, 88], [114, 117, 109, 32, 87, 32, 86], [119, 97, 116, 99, 104, 32, 87, 32, 86], [104, 111, 114, 105, 122, 111, 110, 32, 87, 32, 86], [101, 114, 114, 111, 114, 32, 86], [101, 114, 114, 111, 114, 32, 45, 86], [104, 111, 117, 114]]
def wdN : List (List Nat) := [[115, 97, 105, 108, 32], [115, 104, 111, 114, 101, 32], [115, 105, 103, 104, 116, 32], [109, 111, 111, 100, 32], [114, 117, 109, 32], [119, 97, 116, 99, 104, 32], [104, 111, 114, 105, 122, 111, 110, 32], [101, 114, 114, 111, 114, 32], [104, 111, 117, 114]]
def ar_N : List (List Nat) := [[88, 88, 88, 88], [87], [87], [87, 32, 88, 88, 88, 88], [87, 32, 86], [87, 32, 86], [87, 32, 86], [86], [45, 86], []]
/-- the word of a form -/
def wf_N : List Nat := [0, 1, 2, 3, 4, 5, 6, 7, 7, 8]
def shp (f : Nat) : List Nat := shN.getD f []
def wrd (w : Nat) : List Nat := wdN.getD w []
abbrev okc (y c : Nat) : Prop := if y = 86 ∨ y = 87 then 48 ≤ c ∧ c ≤ 57 else if y = 88 then (48 ≤ c ∧ c ≤ 57) ∨ (97 ≤ c ∧ c ≤ 102) else c = y
/-- how many signs stand there as asked for -/
def mm (c : Nat → Nat) (n : Nat) : List Nat → Nat → Nat
  | [], _ => 0
  | y :: S, h => if h < n ∧ okc y (c h) then 1 + mm c n S (h + 1) else 0
section
variable {c : Nat → Nat} {n : Nat}
theorem mm_le : ∀ (S : List Nat) (h : Nat), mm c n S h ≤ S.length := by
  intro S
  induction S with
  | nil => intro h; exact Nat.le_refl _
  | cons y S ih =>
    intro h
    unfold mm
    have := ih (h + 1)
    rw [List.length_cons]
    split <;> omega
theorem mm_in : ∀ (S : List Nat) (h j : Nat), j < mm c n S h → h + j < n ∧ okc (S.getD j 0) (c (h + j)) := by
  intro S
  induction S with
  | nil => intro h j hj; exact absurd hj (Nat.not_lt_zero j)
  | cons y S ih =>
    intro h j hj
    unfold mm at hj
    split at hj
    · rename_i hy
      cases j with
      | zero => exact hy
      | succ j =>
        have := ih (h + 1) j (by omega)
        rw [show h + (j + 1) = h + 1 + j from by omega]
        exact this
    · exact absurd hj (Nat.not_lt_zero j)
theorem mm_end : ∀ (S : List Nat) (h : Nat), mm c n S h < S.length → ¬ (h + mm c n S h < n ∧ okc (S.getD (mm c n S h) 0) (c (h + mm c n S h))) := by
  intro S
  induction S with
  | nil => intro h hj; exact absurd hj (Nat.not_lt_zero _)
  | cons y S ih =>
    intro h hj
    unfold mm at hj ⊢
    split
    · rename_i hy
      rw [if_pos hy, List.length_cons] at hj
      have := ih (h + 1) (by omega)
      rw [show h + (1 + mm c n S (h + 1)) = h + 1 + mm c n S (h + 1) from by omega, show 1 + mm c n S (h + 1) = mm c n S (h + 1) + 1 from by omega]
      exact this
    · rename_i hy
      exact hy
theorem mm_app : ∀ (S T : List Nat) (h : Nat), mm c n (S ++ T) h = if mm c n S h = S.length then S.length + mm c n T (h + S.length) else mm c n S h := by
  intro S
  induction S with
  | nil =>
    intro T h
    have e : mm c n ([] : List Nat) h = ([] : List Nat).length := rfl
    rw [if_pos e]
    show mm c n T h = 0 + mm c n T (h + 0)
    rw [Nat.zero_add, Nat.add_zero]
  | cons y S ih =>
    intro T h
    show (if h < n ∧ okc y (c h) then 1 + mm c n (S ++ T) (h + 1) else 0) = if (if h < n ∧ okc y (c h) then 1 + mm c n S (h + 1) else 0) = S.length + 1 then S.length + 1 + mm c n T (h + (S.length + 1)) else (if h < n ∧ okc y (c h) then 1 + mm c n S (h + 1) else 0)
    by_cases e : h < n ∧ okc y (c h)
    · rw [if_pos e, if_pos e, ih]
      by_cases e2 : mm c n S (h + 1) = S.length
      · rw [if_pos e2, if_pos (by omega), show h + (S.length + 1) = h + 1 + S.length from by omega]
        omega
      · rw [if_neg e2, if_neg (by omega)]
    · rw [if_neg e, if_neg e, if_neg (by omega)]
end
/-- a form's signs that stand at p -/
def Mf (c : Nat → Nat) (n f p : Nat) : Nat := mm c n (shp f) p
def ln (f : Nat) : Nat := (shp f).length
theorem ln_b : ∀ f, f < 10 → 4 ≤ ln f ∧ ln f ≤ 11 := by decide
theorem jlen : ∀ f, f < 10 → fJ0_length_8abf5 f = some (nI (ln f)) := by decide +kernel
theorem jchar : ∀ f, f < 10 → ∀ j, j < ln f → fJ0_charAt_5068e f (nI j) = some (nI ((shp f).getD j 0)) := by decide +kernel
theorem sh_b : ∀ f, f < 10 → ∀ j, j < ln f → (shp f).getD j 0 < 127 := by decide +kernel
theorem xt_digit : ∀ d, d < 127 → fX6_isDigit (nI d) = some (if 48 ≤ d ∧ d ≤ 57 then nI 1 else nI 0) := by decide +kernel
theorem fit_86 : ∀ d, d < 127 → fX6_isFit (nI 86) (nI d) = some (if okc 86 d then nI 1 else nI 0) := by decide +kernel
theorem fit_87 : ∀ d, d < 127 → fX6_isFit (nI 87) (nI d) = some (if okc 87 d then nI 1 else nI 0) := by decide +kernel
theorem fit_88 : ∀ d, d < 127 → fX6_isFit (nI 88) (nI d) = some (if okc 88 d then nI 1 else nI 0) := by decide +kernel
theorem fit_ne {y k : Nat} (hy : y < 127) (hk : k < 127) (h : y ≠ k) : ¬ nI y = nI k := by
  rw [nJ_eq (by omega) (by omega)]
  exact h
theorem xt_fit {y d : Nat} (hy : y < 127) (hd : d < 127) : fX6_isFit (nI y) (nI d) = some (if okc y d then nI 1 else nI 0) := by
  by_cases h1 : y = 86
  · rw [h1]; exact fit_86 d hd
  by_cases h2 : y = 87
  · rw [h2]; exact fit_87 d hd
  by_cases h3 : y = 88
  · rw [h3]; exact fit_88 d hd
  have o : okc y d ↔ d = y := by
    unfold okc
    rw [if_neg (by omega), if_neg h3]
  have g1 : ¬ nI y = 86 := fit_ne (k := 86) hy (by omega) h1
  have g2 : ¬ nI y = 87 := fit_ne (k := 87) hy (by omega) h2
  have g3 : ¬ nI y = 88 := fit_ne (k := 88) hy (by omega) h3
  rw [fX6_isFit, if_neg g1, if_neg g2, if_neg g3]
  by_cases h : d = y
  · rw [if_pos (by rw [h]), if_pos (o.mpr h)]; rfl
  · rw [if_neg (fit_ne hd hy h), if_neg (fun h2 => h (o.mp h2))]; rfl
/-- the text as the class holds it -/
def XT (c : Nat → Nat) (n : Nat) (t : vX) : Prop := n ≤ 60 ∧ t.1 0 1 = nI n ∧ ∀ i, i < n → t.1 1 i = nI (c i) ∧ c i < 127
section
variable {c : Nat → Nat} {n : Nat} {t : vX}
theorem xt_matched (X : XT c n t) {f p : Nat} (hf : f < 10) (hp : p ≤ 60) : fX6_matchedAt f (nI p) t = some (nI (Mf c n f p), t) := by
  obtain ⟨hn, h1, h2⟩ := X
  have hl := ln_b f hf
  have hm : Mf c n f p ≤ ln f := mm_le (shp f) p
  rw [fX6_matchedAt]
  refine loop_ft (F := fun k i => fX6_matchedAt_2 k f (nI p) (nI i) t) 0 (Mf c n f p) (by omega) (by omega) (fun k j g1 g2 => ?_) (fun k => ?_)
  · obtain ⟨m1, m2⟩ := mm_in (shp f) p j g2
    obtain ⟨t1, t2⟩ := h2 (p + j) m1
    have sb := sh_b f hf j (by omega)
    have ef := xt_fit sb t2
    rw [if_pos m2] at ef
    show fX6_matchedAt_2 (k + 1) f (nI p) (nI j) t = _
    rw [fX6_matchedAt_2, if_pos hf, jlen f hf, Option.bind_some, if_neg (by rw [nJ_le (by omega) (by omega)]; omega), h1, nJ_add, if_neg (by rw [nJ_le (by omega) (by omega)]; omega), if_pos hf, jchar f hf j (by omega), Option.bind_some, if_neg ((nJ_in (n := 60) (by omega) (by omega)).mp), nJ_clamp (by omega), t1, ef, Option.bind_some, if_neg (by decide)]
    dsimp only [bd]
    rw [l32_1, nJ_add]
  · show fX6_matchedAt_2 (k + 1) f (nI p) (nI (Mf c n f p)) t = _
    rw [fX6_matchedAt_2, if_pos hf, jlen f hf, Option.bind_some]
    by_cases e : Mf c n f p < ln f
    · have me : ¬ (p + Mf c n f p < n ∧ okc ((shp f).getD (Mf c n f p) 0) (c (p + Mf c n f p))) := mm_end (c := c) (n := n) (shp f) p e
      rw [if_neg (by rw [nJ_le (by omega) (by omega)]; omega), h1, nJ_add]
      by_cases e2 : p + Mf c n f p < n
      · obtain ⟨t1, t2⟩ := h2 _ e2
        have sb := sh_b f hf _ e
        have ef := xt_fit sb t2
        rw [if_neg (fun h => me ⟨e2, h⟩)] at ef
        rw [if_neg (by rw [nJ_le (by omega) (by omega)]; omega), if_pos hf, jchar f hf _ e, Option.bind_some, if_neg ((nJ_in (n := 60) (by omega) (by omega)).mp), nJ_clamp (by omega), t1, ef, Option.bind_some, if_pos l32_0.symm]
      · rw [if_pos (by rw [nJ_le (by omega) (by omega)]; omega)]
    · rw [if_pos (by rw [nJ_le (by omega) (by omega)]; omega)]
theorem xt_form_some (X : XT c n t) {f p : Nat} (hf : f < 10) (hp : p ≤ 60) (hc : Mf c n f p = ln f) (hb : ∀ g, g < f → Mf c n g p ≠ ln g) : fX6_formAt (nI p) t = some (some f, t) := by
  rw [fX6_formAt]
  refine loop_ft (F := fun k i => fX6_formAt_2 k (nI p) (nI i) t) 0 f (by omega) (by omega) (fun k j g1 g2 => ?_) (fun k => ?_)
  · have i1 : ¬ (nI j < 0 ∨ 10 ≤ Int32.toNatClampNeg (nI j)) := (nJ_in (n := 10) (by omega) (by omega)).mp
    have hl := ln_b j (by omega)
    have hm : Mf c n j p ≤ ln j := mm_le (shp j) p
    have hj10 : j < 10 := by omega
    have ne : ¬ nI (Mf c n j p) = nI (ln j) := by rw [nJ_eq (by omega) (by omega)]; exact hb j g2
    have l10 : ¬ (10 : Int32) ≤ nI j := by rw [show (10 : Int32) = nI 10 from rfl, nJ_le (by omega) (by omega)]; omega
    show fX6_formAt_2 (k + 1) (nI p) (nI j) t = _
    rw [fX6_formAt_2, if_neg l10, if_neg i1, nJ_clamp (by omega), if_pos hj10, xt_matched X hj10 hp, obp_some]
    rw [nJ_clamp (by omega)] at i1
    rw [if_neg i1, if_pos hj10, if_pos hj10, jlen j hj10, Option.bind_some, if_neg ne]
    dsimp only [bd]
    rw [l32_1, nJ_add]
  · have i1 : ¬ (nI f < 0 ∨ 10 ≤ Int32.toNatClampNeg (nI f)) := (nJ_in (n := 10) (by omega) (by omega)).mp
    have l10 : ¬ (10 : Int32) ≤ nI f := by rw [show (10 : Int32) = nI 10 from rfl, nJ_le (by omega) (by omega)]; omega
    show fX6_formAt_2 (k + 1) (nI p) (nI f) t = _
    rw [fX6_formAt_2, if_neg l10, if_neg i1, nJ_clamp (by omega), if_pos hf, xt_matched X hf hp, obp_some]
    rw [nJ_clamp (by omega)] at i1
    rw [if_neg i1, if_pos hf, if_pos hf, jlen f hf, Option.bind_some, if_pos (by rw [hc]), if_neg i1]
theorem xt_form_none (X : XT c n t) {p : Nat} (hp : p ≤ 60) (hb : ∀ g, g < 10 → Mf c n g p ≠ ln g) : fX6_formAt (nI p) t = some (none, t) := by
  rw [fX6_formAt]
  refine loop_ft (F := fun k i => fX6_formAt_2 k (nI p) (nI i) t) 0 10 (by omega) (by omega) (fun k j g1 g2 => ?_) (fun k => ?_)
  · have i1 : ¬ (nI j < 0 ∨ 10 ≤ Int32.toNatClampNeg (nI j)) := (nJ_in (n := 10) (by omega) (by omega)).mp
    have hl := ln_b j (by omega)
    have hm : Mf c n j p ≤ ln j := mm_le (shp j) p
    have hj10 : j < 10 := by omega
    have ne : ¬ nI (Mf c n j p) = nI (ln j) := by rw [nJ_eq (by omega) (by omega)]; exact hb j g2
    have l10 : ¬ (10 : Int32) ≤ nI j := by rw [show (10 : Int32) = nI 10 from rfl, nJ_le (by omega) (by omega)]; omega
    show fX6_formAt_2 (k + 1) (nI p) (nI j) t = _
    rw [fX6_formAt_2, if_neg l10, if_neg i1, nJ_clamp (by omega), if_pos hj10, xt_matched X hj10 hp, obp_some]
    rw [nJ_clamp (by omega)] at i1
    rw [if_neg i1, if_pos hj10, if_pos hj10, jlen j hj10, Option.bind_some, if_neg ne]
    dsimp only [bd]
    rw [l32_1, nJ_add]
  · show fX6_formAt_2 (k + 1) (nI p) (nI 10) t = _
    rw [fX6_formAt_2, if_pos (by decide)]
/-- how far any form goes -/
def far (c : Nat → Nat) (n p : Nat) : Nat → Nat
  | 0 => 0
  | k + 1 => max (far c n p k) (Mf c n k p)
theorem far_le (k p : Nat) (hk : k ≤ 10) : far c n p k ≤ 11 := by
  induction k with
  | zero => exact Nat.zero_le _
  | succ k ih =>
    have h1 := ih (by omega)
    have h2 : Mf c n k p ≤ ln k := mm_le (shp k) p
    have h3 := ln_b k (by omega)
    show max _ _ ≤ 11
    omega
theorem xt_far (X : XT c n t) {p : Nat} (hp : p ≤ 60) : fX6_farthestAt (nI p) t = some (nI (far c n p 10), t) := by
  rw [fX6_farthestAt]
  refine loop_to (F := fun k i => fX6_farthestAt_4 k (nI p) (nI (far c n p i)) (nI i) t) 10 (by omega) (fun k j g2 => ?_) (fun k => ?_)
  · have i1 : ¬ (nI j < 0 ∨ 10 ≤ Int32.toNatClampNeg (nI j)) := (nJ_in (n := 10) (by omega) (by omega)).mp
    have hl := ln_b j (by omega)
    have hm : Mf c n j p ≤ ln j := mm_le (shp j) p
    have hfl := far_le (c := c) (n := n) j p (by omega)
    have hj10 : j < 10 := by omega
    have l10 : ¬ (10 : Int32) ≤ nI j := by rw [show (10 : Int32) = nI 10 from rfl, nJ_le (by omega) (by omega)]; omega
    have em : fJ9_max_7cf53 (nI (far c n p j)) (nI (Mf c n j p)) = some (nI (far c n p (j + 1))) := by
      have e0 : far c n p (j + 1) = max (far c n p j) (Mf c n j p) := rfl
      rw [fJ9_max_7cf53, e0]
      by_cases h : far c n p j < Mf c n j p
      · rw [if_pos ((nJ_lt (by omega) (by omega)).mpr h), Nat.max_eq_right (by omega)]
      · rw [if_neg (fun h2 => h ((nJ_lt (by omega) (by omega)).mp h2)), Nat.max_eq_left (by omega)]
    show fX6_farthestAt_4 (k + 1) (nI p) (nI (far c n p j)) (nI j) t = _
    rw [fX6_farthestAt_4, if_neg l10, if_neg i1, nJ_clamp (by omega), if_pos hj10, xt_matched X hj10 hp, obp_some, em, Option.bind_some]
    dsimp only [bd]
    rw [l32_1, nJ_add]
  · show fX6_farthestAt_4 (k + 1) (nI p) (nI (far c n p 10)) (nI 10) t = _
    rw [fX6_farthestAt_4, if_pos (by decide)]
end
