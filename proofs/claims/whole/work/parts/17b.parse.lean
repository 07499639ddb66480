def wof (f : Nat) : Nat := wf_N.getD f 0
def arg (f : Nat) : List Nat := ar_N.getD f []
theorem sh_app : ∀ f, f < 10 → shp f = wrd (wof f) ++ arg f := by decide
theorem wof_lt : ∀ f, f < 10 → wof f < 9 := by decide
/-- where two words differ first -/
def dif : List Nat → List Nat → Nat
  | a :: A, b :: B => if a = b then 1 + dif A B else 0
  | _, _ => 0
theorem wd_dif : ∀ w, w < 9 → ∀ x, x < 9 → w ≠ x → dif (wrd w) (wrd x) < (wrd w).length ∧ dif (wrd w) (wrd x) < (wrd x).length ∧ (wrd w).getD (dif (wrd w) (wrd x)) 0 ≠ (wrd x).getD (dif (wrd w) (wrd x)) 0 := by decide +kernel
theorem wd_let : ∀ w, w < 9 → ∀ j, j < (wrd w).length → (wrd w).getD j 0 ≠ 86 ∧ (wrd w).getD j 0 ≠ 87 ∧ (wrd w).getD j 0 ≠ 88 := by decide +kernel
theorem okc_let {y d : Nat} (h : y ≠ 86 ∧ y ≠ 87 ∧ y ≠ 88) : okc y d ↔ d = y := by
  unfold okc
  rw [if_neg (by omega), if_neg h.2.2]
section
variable {c : Nat → Nat} {n : Nat}
/-- a word's letters that stand at p -/
def Mw (c : Nat → Nat) (n w p : Nat) : Nat := mm c n (wrd w) p
theorem mw_excl {w x p : Nat} (hw : w < 9) (hx : x < 9) (h : w ≠ x) (h1 : dif (wrd w) (wrd x) < Mw c n w p) : Mw c n x p ≤ dif (wrd w) (wrd x) := by
  by_cases e : Mw c n x p ≤ dif (wrd w) (wrd x)
  · exact e
  · exfalso
    obtain ⟨d1, d2, d3⟩ := wd_dif w hw x hx h
    obtain ⟨a1, a2⟩ := mm_in (c := c) (n := n) (wrd w) p _ h1
    obtain ⟨b1, b2⟩ := mm_in (c := c) (n := n) (wrd x) p (dif (wrd w) (wrd x)) (by unfold Mw at e; omega)
    rw [okc_let (wd_let w hw _ d1)] at a2
    rw [okc_let (wd_let x hx _ d2)] at b2
    exact d3 (a2.symm.trans b2)
theorem mw_one {w x p : Nat} (hw : w < 9) (hx : x < 9) (h : w ≠ x) (h1 : Mw c n w p = (wrd w).length) : Mw c n x p < (wrd x).length ∧ Mw c n x p < (wrd w).length := by
  obtain ⟨d1, d2, d3⟩ := wd_dif w hw x hx h
  have := mw_excl (c := c) (n := n) (p := p) hw hx h (by omega)
  omega
theorem mf_eq {f : Nat} (hf : f < 10) (p : Nat) : Mf c n f p = if Mw c n (wof f) p = (wrd (wof f)).length then (wrd (wof f)).length + mm c n (arg f) (p + (wrd (wof f)).length) else Mw c n (wof f) p := by
  unfold Mf
  rw [sh_app f hf, mm_app]
  rfl
theorem ln_eq {f : Nat} (hf : f < 10) : ln f = (wrd (wof f)).length + (arg f).length := by
  unfold ln
  rw [sh_app f hf, List.length_append]
theorem mf_word {f p : Nat} (hf : f < 10) (h : Mf c n f p = ln f) : Mw c n (wof f) p = (wrd (wof f)).length ∧ mm c n (arg f) (p + (wrd (wof f)).length) = (arg f).length := by
  have e := mf_eq (c := c) (n := n) hf p
  have e2 := ln_eq hf
  have h3 : Mw c n (wof f) p ≤ (wrd (wof f)).length := mm_le _ _
  by_cases e3 : Mw c n (wof f) p = (wrd (wof f)).length
  · rw [if_pos e3] at e
    exact ⟨e3, by omega⟩
  · rw [if_neg e3] at e
    have h4 : Mw c n (wof f) p < (wrd (wof f)).length := by omega
    omega
theorem same_word0 : ∀ f, f < 10 → ∀ g, g < 10 → ¬ wof f = wof g ∨ f = g ∨ (f = 7 ∧ g = 8) ∨ (f = 8 ∧ g = 7) := by decide +kernel
theorem same_word (f : Nat) (hf : f < 10) (g : Nat) (hg : g < 10) (h : wof f = wof g) (hn : f ≠ g) : (f = 7 ∧ g = 8) ∨ (f = 8 ∧ g = 7) := by
  rcases same_word0 f hf g hg with h1 | h1 | h1
  · exact absurd h h1
  · exact absurd h1 hn
  · exact h1
theorem dig_78 {p : Nat} (h1 : mm c n (arg 7) p = 1) (h2 : mm c n (arg 8) p = 2) : False := by
  obtain ⟨a1, a2⟩ := mm_in (c := c) (n := n) (arg 7) p 0 (by omega)
  obtain ⟨b1, b2⟩ := mm_in (c := c) (n := n) (arg 8) p 0 (by omega)
  rw [show (arg 8).getD 0 0 = 45 from rfl, okc_let (by decide)] at b2
  rw [show (arg 7).getD 0 0 = 86 from rfl, b2] at a2
  exact absurd a2 (by decide)
theorem mf_one {f g p : Nat} (hf : f < 10) (hg : g < 10) (h : f ≠ g) (h1 : Mf c n f p = ln f) : Mf c n g p ≠ ln g := by
  intro h2
  obtain ⟨a1, a2⟩ := mf_word hf h1
  obtain ⟨b1, b2⟩ := mf_word hg h2
  by_cases e : wof f = wof g
  · rcases same_word f hf g hg e h with ⟨e1, e2⟩ | ⟨e1, e2⟩
    · subst e1; subst e2
      exact dig_78 a2 b2
    · subst e1; subst e2
      exact dig_78 b2 a2
  · have := mw_one (c := c) (n := n) (p := p) (wof_lt f hf) (wof_lt g hg) e a1
    omega
/-- who and value, as the class reads them -/
def hexv (d : Nat) : Nat := if 48 ≤ d ∧ d ≤ 57 then d - 48 else d - 97 + 10
theorem xt_hex {y d : Nat} (hd : d < 127) (h : okc y d) (hy : y = 86 ∨ y = 87 ∨ y = 88) : fX6_hexOf (nI d) = some (nI (hexv d)) := by
  have e := xt_digit d hd
  have hr : (48 ≤ d ∧ d ≤ 57) ∨ (97 ≤ d ∧ d ≤ 102) := by
    unfold okc at h
    by_cases h1 : y = 86 ∨ y = 87
    · rw [if_pos h1] at h
      exact Or.inl h
    · rw [if_neg h1, if_pos (by omega)] at h
      exact h
  unfold hexv
  by_cases h2 : 48 ≤ d ∧ d ≤ 57
  · rw [if_pos h2] at e ⊢
    rw [fX6_hexOf, e, Option.bind_some, if_neg (by decide), show (48 : Int32) = nI 48 from rfl, nI_sub h2.1]
  · rw [if_neg h2] at e ⊢
    rw [fX6_hexOf, e, Option.bind_some, if_pos l32_0.symm, show (97 : Int32) = nI 97 from rfl, nI_sub (by omega), show (10 : Int32) = nI 10 from rfl, nJ_add]
def kw (c : Nat → Nat) (f p : Nat) : Nat → Nat
  | 0 => 0
  | j + 1 => if (shp f).getD j 0 = 87 then hexv (c (p + j)) else kw c f p j
def kx (c : Nat → Nat) (f p : Nat) : Nat → Nat
  | 0 => 0
  | j + 1 => if (shp f).getD j 0 = 86 ∨ (shp f).getD j 0 = 88 then kx c f p j * 16 + hexv (c (p + j)) else kx c f p j
def fmF (f : Nat) : Nat := if f = 8 then 7 else f
def whoF (c : Nat → Nat) (f p : Nat) : Int32 := nI (kw c f p (ln f))
def valF (c : Nat → Nat) (f p : Nat) : Int32 := if f = 8 then -(nI (kx c f p (ln f))) else nI (kx c f p (ln f))
variable {t : vX}
theorem xt_keep (X : XT c n t) {f p k : Nat} (hf : f < 10) (hc : Mf c n f p = ln f) (h5 : t.1 0 5 = nI k) (hk : k < 15) : ∃ t', fX6_keep f (nI p) t = some t' ∧ XT c n t' ∧ t'.1 0 5 = nI (k + 1) ∧ (t'.2 k = some (fmF f) ∧ t'.1 3 k = whoF c f p ∧ t'.1 4 k = valF c f p) ∧ ∀ i, i ≠ k → t'.2 i = t.2 i ∧ t'.1 3 i = t.1 3 i ∧ t'.1 4 i = t.1 4 i := by
  obtain ⟨hn, h1, h2⟩ := X
  have hl := ln_b f hf
  have hpn : p + ln f ≤ n := by
    obtain ⟨m1, m2⟩ := mm_in (c := c) (n := n) (shp f) p (ln f - 1) (by have := hc; unfold Mf at this; omega)
    omega
  have i15 : ¬ (nI k < 0 ∨ 15 ≤ Int32.toNatClampNeg (nI k)) := (nJ_in (n := 15) hk (by omega)).mp
  have i15b : ¬ (nI k < 0 ∨ 15 ≤ k) := by have := i15; rw [nJ_clamp (by omega)] at this; exact this
  -- what is laid at the end
  have fin : ∃ t', (if f = 8 then fX6_keep_127 f (whoF c f p) (nI (kx c f p (ln f))) (1 : Int32) t else fX6_keep_127 f (whoF c f p) (nI (kx c f p (ln f))) (0 : Int32) t) = some t' ∧ XT c n t' ∧ t'.1 0 5 = nI (k + 1) ∧ (t'.2 k = some (fmF f) ∧ t'.1 3 k = whoF c f p ∧ t'.1 4 k = valF c f p) ∧ ∀ i, i ≠ k → t'.2 i = t.2 i ∧ t'.1 3 i = t.1 3 i ∧ t'.1 4 i = t.1 4 i := by
    have go : ∀ (y : Int32) (z : Int32) (g : Nat), g < 10 → ∃ t', (bd ((up2 (up2 t.1 3 k (whoF c f p)) 4 k y, va_up t.2 k (some g))) fun u8 => bd ((up2 u8.1 0 5 ((u8.1 0 5) + (1 : Int32)), u8.2)) fun u9 => some u9) = some t' ∧ XT c n t' ∧ t'.1 0 5 = nI (k + 1) ∧ (t'.2 k = some g ∧ t'.1 3 k = whoF c f p ∧ t'.1 4 k = y) ∧ ∀ i, i ≠ k → t'.2 i = t.2 i ∧ t'.1 3 i = t.1 3 i ∧ t'.1 4 i = t.1 4 i := by
      intro y z g hg
      have e5 : up2 (up2 t.1 3 k (whoF c f p)) 4 k y 0 5 = nI k := h5
      refine ⟨_, rfl, ⟨hn, h1, h2⟩, ?_, ⟨?_, ?_, ?_⟩, fun i hi => ⟨?_, ?_, ?_⟩⟩
      · show (up2 (up2 t.1 3 k (whoF c f p)) 4 k y 0 5) + 1 = _
        rw [e5, l32_1, nJ_add]
      · exact if_pos rfl
      · exact if_pos rfl
      · exact if_pos rfl
      · exact if_neg hi
      · exact upd_ne hi
      · exact upd_ne hi
    by_cases e8 : f = 8
    · have ev : valF c f p = -(nI (kx c f p (ln f))) := if_pos e8
      have ef : fmF f = 7 := if_pos e8
      rw [if_pos e8, ev, ef, fX6_keep_127, if_neg (by decide), h5, fX6_keep_149, if_pos (by omega), if_neg i15]
      dsimp only [bd]
      have d5 : up2 t.1 3 k (whoF c f p) 0 5 = nI k := h5
      have i15' : ¬ (up2 t.1 3 k (whoF c f p) 0 5 < 0 ∨ 15 ≤ Int32.toNatClampNeg (up2 t.1 3 k (whoF c f p) 0 5)) := by rw [d5]; exact i15
      have e15' : Int32.toNatClampNeg (up2 t.1 3 k (whoF c f p) 0 5) = k := by rw [d5]; exact nJ_clamp (by omega)
      rw [nJ_clamp (by omega), h5, nJ_clamp (by omega), if_neg i15b, if_neg (by decide), if_neg i15', e15']
      exact go (-(nI (kx c f p (ln f)))) 0 7 (by omega)
    · have ev : valF c f p = nI (kx c f p (ln f)) := if_neg e8
      have ef : fmF f = f := if_neg e8
      rw [if_neg e8, ev, ef, fX6_keep_127, if_pos rfl, h5, fX6_keep_149, if_pos hf, if_neg i15]
      dsimp only [bd]
      have d5 : up2 t.1 3 k (whoF c f p) 0 5 = nI k := h5
      have i15' : ¬ (up2 t.1 3 k (whoF c f p) 0 5 < 0 ∨ 15 ≤ Int32.toNatClampNeg (up2 t.1 3 k (whoF c f p) 0 5)) := by rw [d5]; exact i15
      have e15' : Int32.toNatClampNeg (up2 t.1 3 k (whoF c f p) 0 5) = k := by rw [d5]; exact nJ_clamp (by omega)
      rw [nJ_clamp (by omega), h5, nJ_clamp (by omega), if_neg i15b, if_pos rfl, if_neg i15', e15']
      exact go (nI (kx c f p (ln f))) 0 f hf
  have hk15 : nI k < (15 : Int32) := (nJ_lt (b := 15) (by omega) (by omega)).mpr hk
  rw [fX6_keep, h5, if_pos hk15]
  have h := loop_ft (F := fun m j => fX6_keep_18 m f (nI p) (nI (kw c f p j)) (nI (kx c f p j)) (nI j) t) 0 (ln f) (r := (if f = 8 then fX6_keep_127 f (whoF c f p) (nI (kx c f p (ln f))) (1 : Int32) t else fX6_keep_127 f (whoF c f p) (nI (kx c f p (ln f))) (0 : Int32) t)) (by omega) (by omega) (fun m j g1 g2 => ?_) (fun m => ?_)
  · have e0 : fX6_keep_18 vF f (nI p) (0 : Int32) (0 : Int32) (0 : Int32) t = _ := h
    rw [e0]
    exact fin
  · obtain ⟨m1, m2⟩ := mm_in (c := c) (n := n) (shp f) p j (by have := hc; unfold Mf at this; omega)
    obtain ⟨t1, t2⟩ := h2 (p + j) m1
    have sb := sh_b f hf j g2
    have i60 : ¬ (nI (p + j) < 0 ∨ 60 ≤ Int32.toNatClampNeg (nI (p + j))) := (nJ_in (n := 60) (by omega) (by omega)).mp
    have eW : kw c f p (j + 1) = if (shp f).getD j 0 = 87 then hexv (c (p + j)) else kw c f p j := rfl
    have eX : kx c f p (j + 1) = if (shp f).getD j 0 = 86 ∨ (shp f).getD j 0 = 88 then kx c f p j * 16 + hexv (c (p + j)) else kx c f p j := rfl
    have e89 : ∀ K, okc ((shp f).getD j 0) (c (p + j)) → ((shp f).getD j 0 = 86 ∨ (shp f).getD j 0 = 87 ∨ (shp f).getD j 0 = 88) → fX6_keep_89 K f (nI p) (nI (kw c f p j)) (nI (kx c f p j)) (nI j) t = K f (nI p) (nI (kw c f p j)) (nI (kx c f p j * 16 + hexv (c (p + j)))) (nI (j + 1)) t := by
      intro K ho hy
      rw [fX6_keep_89, nJ_add, if_neg i60, nJ_clamp (by omega), t1, xt_hex t2 ho hy, Option.bind_some]
      dsimp only [bd]
      rw [show (16 : Int32) = nI 16 from rfl, nI_mul, nJ_add, l32_1, nJ_add]
    show fX6_keep_18 (m + 1) f (nI p) (nI (kw c f p j)) (nI (kx c f p j)) (nI j) t = fX6_keep_18 m f (nI p) (nI (kw c f p (j + 1))) (nI (kx c f p (j + 1))) (nI (j + 1)) t
    rw [fX6_keep_18, if_pos hf, if_pos hf, jlen f hf, Option.bind_some, if_neg (by rw [nJ_le (by omega) (by omega)]; omega), h1, nJ_add, if_neg (by rw [nJ_le (by omega) (by omega)]; omega), if_pos hf, if_pos hf, jchar f hf j g2, Option.bind_some]
    by_cases y1 : (shp f).getD j 0 = 87
    · have c1 : nI ((shp f).getD j 0) = (87 : Int32) := by rw [y1]; rfl
      rw [if_pos c1, if_neg i60, nJ_clamp (by omega), t1, xt_hex t2 m2 (by omega), Option.bind_some, eW, if_pos y1, eX, if_neg (by omega)]
      dsimp only [bd]
      rw [l32_1, nJ_add]
    · have c1 : ¬ nI ((shp f).getD j 0) = (87 : Int32) := fit_ne (k := 87) sb (by omega) y1
      rw [if_neg c1, eW, if_neg y1]
      by_cases y2 : (shp f).getD j 0 = 86
      · have c2 : nI ((shp f).getD j 0) = (86 : Int32) := by rw [y2]; rfl
        rw [if_pos c2, e89 _ m2 (by omega), eX, if_pos (by omega)]
      · have c2 : ¬ nI ((shp f).getD j 0) = (86 : Int32) := fit_ne (k := 86) sb (by omega) y2
        rw [if_neg c2]
        by_cases y3 : (shp f).getD j 0 = 88
        · have c3 : nI ((shp f).getD j 0) = (88 : Int32) := by rw [y3]; rfl
          rw [if_pos c3, e89 _ m2 (by omega), eX, if_pos (by omega)]
        · have c3 : ¬ nI ((shp f).getD j 0) = (88 : Int32) := fit_ne (k := 88) sb (by omega) y3
          rw [if_neg c3, eX, if_neg (by omega)]
          dsimp only [bd]
          rw [l32_1, nJ_add]
  · show fX6_keep_18 (m + 1) f (nI p) (nI (kw c f p (ln f))) (nI (kx c f p (ln f))) (nI (ln f)) t = _
    rw [fX6_keep_18, if_pos hf, if_pos hf, jlen f hf, Option.bind_some, if_pos (Int32.le_refl _), if_pos hf]
    rfl
/-- how a text is taken apart -/
def PR (c : Nat → Nat) (n : Nat) (p : Nat) (cs : List (Nat × Nat)) (out : Option Nat) : Prop :=
  ∀ M : Nat → List (Nat × Nat) → Option Nat → Prop,
    (∀ p, p ≤ n → (∀ f, f < 10 → Mf c n f p ≠ ln f) → M p [] (some (p + far c n p 10))) →
    (∀ p f, f < 10 → Mf c n f p = ln f → p + ln f = n → M p [(f, p)] none) →
    (∀ p f, f < 10 → Mf c n f p = ln f → p + ln f < n → c (p + ln f) ≠ 59 → M p [] (some (p + ln f))) →
    (∀ p f cs out, f < 10 → Mf c n f p = ln f → p + ln f < n → c (p + ln f) = 59 → M (p + ln f + 1) cs out → M p ((f, p) :: cs) out) →
    M p cs out
theorem PR.bad (p : Nat) (hp : p ≤ n) (h : ∀ f, f < 10 → Mf c n f p ≠ ln f) : PR c n p [] (some (p + far c n p 10)) := fun _ h1 _ _ _ => h1 p hp h
theorem PR.last (p f : Nat) (hf : f < 10) (h : Mf c n f p = ln f) (hq : p + ln f = n) : PR c n p [(f, p)] none := fun _ _ h2 _ _ => h2 p f hf h hq
theorem PR.semi (p f : Nat) (hf : f < 10) (h : Mf c n f p = ln f) (hq : p + ln f < n) (hc : c (p + ln f) ≠ 59) : PR c n p [] (some (p + ln f)) := fun _ _ _ h3 _ => h3 p f hf h hq hc
theorem PR.next (p f : Nat) (cs : List (Nat × Nat)) (out : Option Nat) (hf : f < 10) (h : Mf c n f p = ln f) (hq : p + ln f < n) (hc : c (p + ln f) = 59) (hr : PR c n (p + ln f + 1) cs out) : PR c n p ((f, p) :: cs) out := fun M h1 h2 h3 h4 => h4 p f cs out hf h hq hc (hr M h1 h2 h3 h4)
theorem PR.ind {motive : ∀ (p : Nat) (cs : List (Nat × Nat)) (out : Option Nat), PR c n p cs out → Prop}
    (bad : ∀ (p : Nat) (hp : p ≤ n) (h : ∀ f, f < 10 → Mf c n f p ≠ ln f), motive p [] (some (p + far c n p 10)) (PR.bad p hp h))
    (last : ∀ (p f : Nat) (hf : f < 10) (h : Mf c n f p = ln f) (hq : p + ln f = n), motive p [(f, p)] none (PR.last p f hf h hq))
    (semi : ∀ (p f : Nat) (hf : f < 10) (h : Mf c n f p = ln f) (hq : p + ln f < n) (hc : c (p + ln f) ≠ 59), motive p [] (some (p + ln f)) (PR.semi p f hf h hq hc))
    (next : ∀ (p f : Nat) (cs : List (Nat × Nat)) (out : Option Nat) (hf : f < 10) (h : Mf c n f p = ln f) (hq : p + ln f < n) (hc : c (p + ln f) = 59) (hr : PR c n (p + ln f + 1) cs out), motive (p + ln f + 1) cs out hr → motive p ((f, p) :: cs) out (PR.next p f cs out hf h hq hc hr))
    {p : Nat} {cs : List (Nat × Nat)} {out : Option Nat} (P : PR c n p cs out) : motive p cs out P := by
  have h : ∃ P : PR c n p cs out, motive p cs out P := P (fun p cs out => ∃ P : PR c n p cs out, motive p cs out P)
    (fun p hp h => ⟨PR.bad p hp h, bad p hp h⟩) (fun p f hf h hq => ⟨PR.last p f hf h hq, last p f hf h hq⟩)
    (fun p f hf h hq hc => ⟨PR.semi p f hf h hq hc, semi p f hf h hq hc⟩)
    (fun p f cs out hf h hq hc ⟨hr, ih⟩ => ⟨PR.next p f cs out hf h hq hc hr, next p f cs out hf h hq hc hr ih⟩)
  obtain ⟨_, h⟩ := h
  exact h
theorem mf_fit {f p : Nat} (hf : f < 10) (h : Mf c n f p = ln f) : p + ln f ≤ n := by
  have hl := ln_b f hf
  obtain ⟨m1, m2⟩ := mm_in (c := c) (n := n) (shp f) p (ln f - 1) (by have := h; unfold Mf at this; omega)
  omega
theorem PR_all (c : Nat → Nat) (n : Nat) : ∀ d p, p + d = n → ∃ cs out, PR c n p cs out := by
  intro d
  induction d using Nat.strongRecOn with
  | _ d ih =>
    intro p hp
    rcases first_or (fun f => Mf c n f p = ln f) 0 10 with ⟨f, -, hf, h, -⟩ | h
    · have hl := ln_b f hf
      have hfit := mf_fit (c := c) (n := n) hf h
      by_cases e : p + ln f = n
      · exact ⟨_, _, PR.last p f hf h e⟩
      · by_cases e2 : c (p + ln f) = 59
        · obtain ⟨cs, out, hr⟩ := ih (d - ln f - 1) (by omega) (p + ln f + 1) (by omega)
          exact ⟨_, _, PR.next p f cs out hf h (by omega) e2 hr⟩
        · exact ⟨_, _, PR.semi p f hf h (by omega) e2⟩
    · exact ⟨_, _, PR.bad p (by omega) (fun f hf => h f (by omega) hf)⟩
/-- a command that the class keeps -/
def kept (c : Nat → Nat) (t : vX) (i : Nat) (z : Nat × Nat) : Prop := t.2 i = some (fmF z.1) ∧ t.1 3 i = whoF c z.1 z.2 ∧ t.1 4 i = valF c z.1 z.2
theorem xt_parse {p : Nat} {cs : List (Nat × Nat)} {out : Option Nat} (P : PR c n p cs out) : ∀ k t N, n + 2 ≤ p + N → 5 * k ≤ p → p ≤ n → XT c n t → t.1 0 5 = nI k → (∀ e, out = some e → ∃ t', fX6_parse_7 N (nI p) t = some (nI e, t')) ∧ (out = none → ∃ t', fX6_parse_7 N (nI p) t = some (-1, t') ∧ t'.1 0 5 = nI (k + cs.length) ∧ k + cs.length ≤ 15 ∧ (∀ i, i < k → t'.2 i = t.2 i ∧ t'.1 3 i = t.1 3 i ∧ t'.1 4 i = t.1 4 i) ∧ ∀ i (hi : i < cs.length), kept c t' (k + i) cs[i]) := by
  have step : ∀ {p f k : Nat} {t : vX} (N : Nat), f < 10 → Mf c n f p = ln f → 5 * k ≤ p → p ≤ n → XT c n t → t.1 0 5 = nI k → ∃ t', XT c n t' ∧ t'.1 0 5 = nI (k + 1) ∧ kept c t' k (f, p) ∧ (∀ i, i ≠ k → t'.2 i = t.2 i ∧ t'.1 3 i = t.1 3 i ∧ t'.1 4 i = t.1 4 i) ∧ fX6_parse_7 (N + 1) (nI p) t = if p + ln f < n then (if c (p + ln f) = 59 then fX6_parse_7 N (nI (p + ln f + 1)) t' else some (nI (p + ln f), t')) else some (-1, t') := by
    intro p f k t N hf h h5 hp X hk
    have hn := X.1
    have hl := ln_b f hf
    have hfit := mf_fit (c := c) (n := n) hf h
    obtain ⟨t', e, X', g1, g2, g3⟩ := xt_keep X hf h hk (by omega)
    refine ⟨t', X', g1, g2, g3, ?_⟩
    have hform := xt_form_some X hf (by omega : p ≤ 60) h (fun g hg => mf_one hf (by omega) (by omega) h)
    rw [fX6_parse_7, X.2.1, if_neg (by rw [nJ_lt (by omega) (by omega)]; omega), hform, obp_some]
    show (fX6_keep f (nI p) t).bind _ = _
    rw [e, Option.bind_some, if_pos hf, if_pos hf, jlen f hf, Option.bind_some]
    dsimp only [bd]
    rw [nJ_add, X'.2.1]
    by_cases hq : p + ln f < n
    · rw [if_pos ((nJ_lt (by omega) (by omega)).mpr hq), if_pos hq, if_neg ((nJ_in (n := 60) (by omega) (by omega)).mp), nJ_clamp (by omega)]
      obtain ⟨t1, t2⟩ := X'.2.2 _ hq
      rw [t1]
      by_cases hc : c (p + ln f) = 59
      · rw [if_pos (by rw [hc]; rfl), if_pos hc, l32_1, nJ_add]
      · have hc2 : ¬ nI (c (p + ln f)) = (59 : Int32) := fit_ne (k := 59) t2 (by omega) hc
        rw [if_neg hc2, if_neg hc]
    · rw [if_neg (fun h => hq ((nJ_lt (by omega) (by omega)).mp h)), if_neg hq]
  induction P using PR.ind with
  | bad p hp h =>
    intro k t N hN h5 _ X hk
    obtain ⟨N, rfl⟩ : ∃ m, N = m + 1 := ⟨N - 1, by omega⟩
    have hn := X.1
    refine ⟨fun e he => ⟨t, ?_⟩, fun h => absurd h (by intro h; cases h)⟩
    have he2 : p + far c n p 10 = e := by injection he
    rw [fX6_parse_7, X.2.1, if_neg (by rw [nJ_lt (by omega) (by omega)]; omega), xt_form_none X (by omega) h, obp_some]
    rw [show ∀ (A : Option (Int32 × vX)) F, oc none A F = A from fun _ _ => rfl, xt_far X (by omega), obp_some, nJ_add, he2]
  | last p f hf h hq =>
    intro k t N hN h5 hp X hk
    obtain ⟨N, rfl⟩ : ∃ m, N = m + 1 := ⟨N - 1, by omega⟩
    have hl := ln_b f hf
    have hn := X.1
    obtain ⟨t', X', g1, g2, g3, e⟩ := step N hf h h5 hp X hk
    rw [if_neg (by omega)] at e
    refine ⟨fun e he => (by cases he), fun _ => ⟨t', e, g1, ?_, fun i hi => g3 i (by omega), fun i hi => ?_⟩⟩
    · show k + 1 ≤ 15
      omega
    · have hi0 : i = 0 := by
        have : i < 1 := hi
        omega
      subst hi0
      exact g2
  | semi p f hf h hq hc =>
    intro k t N hN h5 hp X hk
    obtain ⟨N, rfl⟩ : ∃ m, N = m + 1 := ⟨N - 1, by omega⟩
    obtain ⟨t', X', g1, g2, g3, e⟩ := step N hf h h5 hp X hk
    rw [if_pos hq, if_neg hc] at e
    refine ⟨fun e2 he => ⟨t', ?_⟩, fun h => absurd h (by intro h; cases h)⟩
    have he2 : p + ln f = e2 := by injection he
    rw [e, he2]
  | next p f cs out hf h hq hc hr ih =>
    intro k t N hN h5 hp X hk
    obtain ⟨N, rfl⟩ : ∃ m, N = m + 1 := ⟨N - 1, by omega⟩
    have hl := ln_b f hf
    obtain ⟨t', X', g1, g2, g3, e⟩ := step N hf h h5 hp X hk
    rw [if_pos hq, if_pos hc] at e
    obtain ⟨i1, i2⟩ := ih (k + 1) t' N (by omega) (by omega) (by omega) X' g1
    rw [e]
    refine ⟨i1, fun ho => ?_⟩
    obtain ⟨t2, e2, j1, j2, j3, j4⟩ := i2 ho
    refine ⟨t2, e2, ?_, ?_, fun i hi => ?_, fun i hi => ?_⟩
    · rw [j1, List.length_cons]
      congr 1
      omega
    · rw [List.length_cons]
      omega
    · have a1 := j3 i (by omega)
      have a2 := g3 i (by omega)
      exact ⟨a1.1.trans a2.1, a1.2.1.trans a2.2.1, a1.2.2.trans a2.2.2⟩
    · cases i with
      | zero =>
        have a1 := j3 k (by omega)
        exact ⟨a1.1.trans g2.1, a1.2.1.trans g2.2.1, a1.2.2.trans g2.2.2⟩
      | succ i =>
        have := j4 i (by rw [List.length_cons] at hi; omega)
        rw [show k + (i + 1) = k + 1 + i from by omega]
        exact this
end
