/-- what the sailors' part holds -/
def RXs (a : mA) (u : vH) : Prop := u.1 0 5 = iI ((a 0 2 : Int) - 3) ∧ u.1 0 6 = nI (a 0 1) ∧ (∀ i, i < a 0 0 → u.1 1 i = nI (a 1 i)) ∧ (∀ i, i < a 0 0 → u.1 2 i = nI (a 2 i)) ∧ (∀ i, i < a 0 0 → u.1 3 i = nI (a 3 i)) ∧ (∀ w, w < 4 → u.1 4 w = nI (a 4 w))
theorem xs_e {a : mA} {u : vH} (r : RXs a u) : u.1 0 5 = iI ((a 0 2 : Int) - 3) := r.1
theorem xs_h {a : mA} {u : vH} (r : RXs a u) : u.1 0 6 = nI (a 0 1) := r.2.1
theorem xs_m {a : mA} {u : vH} (r : RXs a u) : ∀ i, i < a 0 0 → u.1 1 i = nI (a 1 i) := r.2.2.1
theorem xs_c {a : mA} {u : vH} (r : RXs a u) : ∀ i, i < a 0 0 → u.1 2 i = nI (a 2 i) := r.2.2.2.1
theorem xs_w {a : mA} {u : vH} (r : RXs a u) : ∀ i, i < a 0 0 → u.1 3 i = nI (a 3 i) := r.2.2.2.2.1
theorem xs_z {a : mA} {u : vH} (r : RXs a u) : ∀ w, w < 4 → u.1 4 w = nI (a 4 w) := r.2.2.2.2.2
section
variable {B : Nat} {a : mA} {u : vH} {v : vS}
theorem xz_t1 (w : WF B a) (r : RXs a u) {s h : Nat} (hs : s < a 0 0) (hh : h ≤ 60) : fJ9_floorDiv_7cf53 ((u.1 0 6) + nI h) (4 : Int32) = some (nI ((a 0 1 + h) / 4)) := by
  have hh1 := wf_h w
  simp (disch := omega) only [xs_h r, lits, nJ_add, fd]
theorem xz_t2 (w : WF B a) (r : RXs a u) {s h : Nat} (hs : s < a 0 0) (hh : h ≤ 60) : fJ9_floorMod_7cf53 (u.1 3 s + (nI ((a 0 1 + h) / 4) - nI (a 0 1 / 4))) (4 : Int32) = some (nI ((a 3 s + ((a 0 1 + h) / 4 - a 0 1 / 4)) % 4)) := by
  have hh1 := wf_h w
  have h1 := wf_s w s hs
  simp (disch := omega) only [xs_w r, lits, nJ_add, nI_sub, fm]
theorem xz_t3 (w : WF B a) (r : RXs a u) {s h : Nat} (hs : s < a 0 0) (hh : h ≤ 60) : fJ9_max_7cf53 (0 : Int32) ((u.1 2 (Int32.toNatClampNeg (nI s))) - nI h) = some (nI (a 2 s - h)) := by
  have hh1 := wf_h w
  have hn := wf_n w
  have h1 := wf_s w s hs
  simp (disch := omega) only [xs_c r, lits, nJ_clamp, fmax]
theorem xz_t4 (w : WF B a) (r : RXs a u) {s h : Nat} (hs : s < a 0 0) (hh : h ≤ 60) : fX5_turned (u.1 1 (Int32.toNatClampNeg (nI s))) (nI h) = some (nI (rotN h (a 1 s))) := by
  have hh1 := wf_h w
  have hn := wf_n w
  have h1 := wf_s w s hs
  simp (disch := omega) only [xs_m r, lits, nJ_clamp, xq_turned]
theorem xz_t5 (w : WF B a) (r : RXs a u) {s h : Nat} (hs : s < a 0 0) (hh : h ≤ 60) : fX5_angleAfter (nI s) (nI h) u = some (((nI (chr (rotN h (a 1 s))) + nI (a 2 s - h)) - nI (drd (rotN h (a 1 s)))) - nI (a 4 ((a 3 s + ((a 0 1 + h) / 4 - a 0 1 / 4)) % 4)), u) := by
  have hn := wf_n w
  have hh1 := wf_h w
  have h1 := wf_s w s hs
  have hr := rotN_lt h1.1 h
  have hw : (a 3 s + ((a 0 1 + h) / 4 - a 0 1 / 4)) % 4 < 4 := Nat.mod_lt _ (by omega)
  have i1 : ¬ (nI s < 0 ∨ 8 ≤ Int32.toNatClampNeg (nI s)) := (nJ_in (n := 8) (by omega) (by omega)).mp
  have e0 : fJ9_floorDiv_7cf53 (u.1 0 6) (4 : Int32) = some (nI (a 0 1 / 4)) := by
    rw [xs_h r]
    have := fd (a := a 0 1) (b := 4) (by omega) (by omega) (by omega)
    exact this
  have e1 := xz_t1 w r hs hh
  have e2 := xz_t2 w r hs hh
  have e3 := xz_t3 w r hs hh
  have e4 := xz_t4 w r hs hh
  have i2 : ¬ (nI ((a 3 s + ((a 0 1 + h) / 4 - a 0 1 / 4)) % 4) < 0 ∨ 4 ≤ Int32.toNatClampNeg (nI ((a 3 s + ((a 0 1 + h) / 4 - a 0 1 / 4)) % 4))) := (nJ_in (n := 4) (by omega) (by omega)).mp
  rw [fX5_angleAfter, if_neg i1, e4, Option.bind_some, if_neg i1, e3, Option.bind_some, e1, Option.bind_some, e0, Option.bind_some]
  dsimp only [bd]
  have c : Int32.toNatClampNeg (nI s) = s := nJ_clamp (by omega)
  have c2 : Int32.toNatClampNeg (nI ((a 3 s + ((a 0 1 + h) / 4 - a 0 1 / 4)) % 4)) = (a 3 s + ((a 0 1 + h) / 4 - a 0 1 / 4)) % 4 := nJ_clamp (by omega)
  rw [if_neg i1, c, e2, Option.bind_some, xq_cheer hr, Option.bind_some, xq_dread hr, Option.bind_some, if_neg i2, c2, xs_z r _ hw]
theorem xz_angle (w : WF B a) (r : RXs a u) {s h : Nat} (hs : s < a 0 0) (hh : h ≤ 60) : fX5_angleAfter (nI s) (nI h) u = some (iI (angA a s h), u) := by
  rw [xz_t5 w r hs hh]
  simp only [nI_iI, iI_add, iI_sub, angA, Int.natCast_add]
theorem xz_angle0 (w : WF B a) (r : RXs a u) {s : Nat} (hs : s < a 0 0) : fX5_angleAfter (nI s) (nI 0) u = some (iI (ang a s), u) := by
  rw [xz_angle w r hs (by omega), angA_0 w hs]
theorem xz_reading (w : WF B a) (r : RXs a u) {s : Nat} (hs : s < a 0 0) : fX5_readingOf (nI s) u = some (fe (rdR a s), u) := by
  have hn := wf_n w
  have h1 := wf_s w s hs
  have hb := ang_b w hs
  have he := wf_e w
  have hz := rdg_all (ang a s + (a 0 2 : Int) + 16).toNat (by omega) (a 2 s) (by omega)
  have e1 : (((ang a s + (a 0 2 : Int) + 16).toNat : Nat) : Int) - 19 = ang a s + ((a 0 2 : Int) - 3) := by omega
  rw [e1] at hz
  obtain ⟨g1, g2, g3⟩ := hz
  have g4 := (fe_ok (rdR a s) (rdR_lt w hs)).1
  have g5 : fe (2 * (ang a s + (a 0 2 : Int) + 16).toNat + 9 - a 2 s) = fe (rdR a s) := rfl
  rw [g5] at g3
  unfold okF at g1 g2 g4
  simp (disch := omega) only [fX5_readingOf, l32_0, xz_angle0 w r hs, xs_h r, xs_e r, xs_m r, xs_c r, xs_w r, xs_z r, iI_add, bd, obp_some, nJ_clamp, nJ_lt, leF, ltF, or_self, Nat.not_lt_zero, if_false, g1, g2, if_true, g3, g4]
end
/-- a loop whose state is known by what holds of it -/
theorem loop_rel {S R : Type} {F : Nat → Nat → S → Option R} (P : Nat → S → Prop) (Q : R → Prop) (N m : Nat) (hs : ∀ n k s, k < N → P k s → ∃ s', F (n + 1) k s = F n (k + 1) s' ∧ P (k + 1) s') (he : ∀ n s, m ≤ n → P N s → ∃ r, F n N s = some r ∧ Q r) : ∀ n i s, i ≤ N → N - i + m ≤ n → P i s → ∃ r, F n i s = some r ∧ Q r := by
  have h : ∀ d i s n, i + d = N → d + m ≤ n → P i s → ∃ r, F n i s = some r ∧ Q r := by
    intro d
    induction d with
    | zero =>
      intro i s n h1 h2 h3
      have : i = N := by omega
      subst this
      exact he n s (by omega) h3
    | succ d ih =>
      intro i s n h1 h2 h3
      obtain ⟨n, rfl⟩ : ∃ m, n = m + 1 := ⟨n - 1, by omega⟩
      obtain ⟨s', e, h4⟩ := hs n i s (by omega) h3
      rw [e]
      exact ih (i + 1) s' n (by omega) (by omega) h4
  intro n i s h1 h2 h3
  exact h (N - i) i s n (by omega) h2 h3

