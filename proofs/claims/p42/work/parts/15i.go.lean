/-- the sights that are kept, of d from k on -/
def uL (a : mA) (s : Nat) : Nat → Nat → List Nat
  | _, 0 => []
  | k, d + 1 => if a 5 k = s then uL a s (k + 1) d else k :: uL a s (k + 1) d
def dn (a : mA) (s j : Nat) : Nat := if s < a 5 j then a 5 j - 1 else a 5 j
def goL (a : mA) (s : Nat) : List Nat := uL a s 0 (a 0 3)
def goM (a : mA) (s : Nat) : mA := fun r => if r = 0 then (fun k => if k = 0 then a 0 0 - 1 else if k = 3 then (goL a s).length else if k = 7 then a 0 7 + a 2 s else a 0 k) else if r = 1 then (fun k => if k < s then a 1 k else a 1 (k + 1)) else if r = 2 then (fun k => if k < s then a 2 k else a 2 (k + 1)) else if r = 3 then (fun k => if k < s then a 3 k else a 3 (k + 1)) else if r = 5 then (fun k => dn a s ((goL a s).getD k 0)) else if r = 6 then (fun k => a 6 ((goL a s).getD k 0)) else if r = 7 then (fun k => a 7 ((goL a s).getD k 0)) else a r
theorem uL_mem (a : mA) (s : Nat) (d : Nat) : ∀ k x, x ∈ uL a s k d → k ≤ x ∧ x < k + d ∧ a 5 x ≠ s := by
  induction d with
  | zero => intro k x h; exact absurd h List.not_mem_nil
  | succ d ih =>
    intro k x h
    unfold uL at h
    split at h
    · have := ih (k + 1) x h
      omega
    · rename_i hne
      rcases List.mem_cons.mp h with e | e
      · subst e
        exact ⟨Nat.le_refl _, by omega, hne⟩
      · have := ih (k + 1) x e
        omega
theorem uL_len (a : mA) (s : Nat) (d : Nat) : ∀ k, (uL a s k d).length ≤ d := by
  induction d with
  | zero => intro k; exact Nat.le_refl _
  | succ d ih =>
    intro k
    unfold uL
    split
    · have := ih (k + 1); omega
    · have := ih (k + 1)
      rw [List.length_cons]
      omega
theorem uL_pw (a : mA) (s : Nat) (d : Nat) : ∀ k, (uL a s k d).Pairwise (· < ·) := by
  induction d with
  | zero => intro k; exact List.Pairwise.nil
  | succ d ih =>
    intro k
    unfold uL
    split
    · exact ih (k + 1)
    · refine List.Pairwise.cons (fun x hx => ?_) (ih (k + 1))
      have := uL_mem a s d (k + 1) x hx
      omega
theorem goL_len (a : mA) (s : Nat) : (goL a s).length ≤ a 0 3 := uL_len a s (a 0 3) 0
theorem goL_in {a : mA} {s i : Nat} (hi : i < (goL a s).length) : (goL a s).getD i 0 < a 0 3 ∧ a 5 ((goL a s).getD i 0) ≠ s := by
  rw [← List.getElem_eq_getD (h := hi) 0]
  have := uL_mem a s (a 0 3) 0 _ (List.getElem_mem hi)
  exact ⟨by have := this.2.1; rw [Nat.zero_add] at this; exact this, this.2.2⟩
theorem goL_lt {a : mA} {s i : Nat} (hi : i + 1 < (goL a s).length) : (goL a s).getD i 0 < (goL a s).getD (i + 1) 0 := by
  rw [← List.getElem_eq_getD (h := hi) 0, ← List.getElem_eq_getD (h := (by omega : i < (goL a s).length)) 0]
  exact List.pairwise_iff_getElem.mp (uL_pw a s (a 0 3) 0) i (i + 1) _ hi (by omega)
theorem wf_go {B : Nat} {a : mA} (w : WF B a) {s : Nat} (hs : s < a 0 0) : WF B (goM a s) := by
  have hn := wf_n w
  have hl := wf_l w
  have hg := wf_g w
  have hll := goL_len a s
  refine ⟨⟨?_, ?_, w.1.2.2.1, w.1.2.2.2⟩, fun i hi => ?_, wf_z (B := B) (a := a) w, fun k hk => ?_, fun k hk => ?_⟩
  · show a 0 0 - 1 ≤ 8
    omega
  · show (goL a s).length ≤ 10
    omega
  · have hi2 : i < a 0 0 - 1 := hi
    show (if i < s then a 1 i else a 1 (i + 1)) < 65536 ∧ (if i < s then a 2 i else a 2 (i + 1)) ≤ 9 ∧ (if i < s then a 3 i else a 3 (i + 1)) < 4
    by_cases e : i < s
    · rw [if_pos e, if_pos e, if_pos e]
      exact wf_s w i (by omega)
    · rw [if_neg e, if_neg e, if_neg e]
      exact wf_s w (i + 1) (by omega)
  · have hk2 : k < (goL a s).length := hk
    have h1 := goL_in hk2
    have h2 := hg _ h1.1
    show dn a s ((goL a s).getD k 0) < a 0 0 - 1 ∧ a 6 ((goL a s).getD k 0) ≤ a 0 1 ∧ a 7 ((goL a s).getD k 0) < 88
    refine ⟨?_, h2.2⟩
    unfold dn
    split <;> omega
  · have hk2 : k + 1 < (goL a s).length := hk
    show a 6 ((goL a s).getD (k + 1) 0) ≤ a 6 ((goL a s).getD k 0)
    exact wf_mono w (by have := goL_lt hk2; omega) (goL_in hk2).1
theorem uL_at {a : mA} {s k L : Nat} (hk : k < L) : uL a s k (L - k) = if a 5 k = s then uL a s (k + 1) (L - (k + 1)) else k :: uL a s (k + 1) (L - (k + 1)) := by
  rw [show L - k = (L - (k + 1)) + 1 from by omega]
  rfl
theorem getD_snoc {W : List Nat} {x i : Nat} (hi : i < W.length + 1) : (W ++ [x]).getD i 0 = if i = W.length then x else W.getD i 0 := by
  rw [List.getD_eq_getElem?_getD, List.getD_eq_getElem?_getD]
  by_cases e : i = W.length
  · rw [if_pos e, e, List.getElem?_append_right (Nat.le_refl _), Nat.sub_self]
    rfl
  · rw [if_neg e, List.getElem?_append_left (by omega)]
section
variable {B : Nat} {a : mA}
theorem xq_fgLoop (w : WF B a) {s : Nat} (hs : s < a 0 0) {u : vH} (h7 : u.1 0 7 = nI (a 0 3)) (h5 : ∀ k, k < a 0 3 → u.1 5 k = nI (a 5 k)) (h6 : ∀ k, k < a 0 3 → u.1 6 k = nI (a 6 k)) (hf : ∀ k, k < a 0 3 → u.2 k = fe (a 7 k)) : ∃ u', fX5_forgetSightsOf (nI s) u = some u' ∧ u'.1 0 7 = nI (goL a s).length ∧ (∀ k, k ≠ 7 → u'.1 0 k = u.1 0 k) ∧ (∀ b, b ≠ 0 → b ≠ 5 → b ≠ 6 → u'.1 b = u.1 b) ∧ ∀ k, k < (goL a s).length → u'.1 5 k = nI (dn a s ((goL a s).getD k 0)) ∧ u'.1 6 k = nI (a 6 ((goL a s).getD k 0)) ∧ u'.2 k = fe (a 7 ((goL a s).getD k 0)) := by
  have hn := wf_n w
  have hl := wf_l w
  have hg := wf_g w
  rw [fX5_forgetSightsOf]
  have h := loop_rel (F := fun n k (z : Nat × vH) => fX5_forgetSightsOf_4 n (nI s) (nI z.1) (nI k) z.2) (fun k z => ∃ W : List Nat, goL a s = W ++ uL a s k (a 0 3 - k) ∧ z.1 = W.length ∧ W.length ≤ k ∧ (∀ i, i < W.length → z.2.1 5 i = nI (dn a s (W.getD i 0)) ∧ z.2.1 6 i = nI (a 6 (W.getD i 0)) ∧ z.2.2 i = fe (a 7 (W.getD i 0))) ∧ (∀ j, k ≤ j → j < a 0 3 → z.2.1 5 j = nI (a 5 j) ∧ z.2.1 6 j = nI (a 6 j) ∧ z.2.2 j = fe (a 7 j)) ∧ (∀ b, b ≠ 5 → b ≠ 6 → z.2.1 b = u.1 b)) (fun u' => u'.1 0 7 = nI (goL a s).length ∧ (∀ k, k ≠ 7 → u'.1 0 k = u.1 0 k) ∧ (∀ b, b ≠ 0 → b ≠ 5 → b ≠ 6 → u'.1 b = u.1 b) ∧ ∀ k, k < (goL a s).length → u'.1 5 k = nI (dn a s ((goL a s).getD k 0)) ∧ u'.1 6 k = nI (a 6 ((goL a s).getD k 0)) ∧ u'.2 k = fe (a 7 ((goL a s).getD k 0))) (a 0 3) 1 (fun n k z hk hP => ?_) (fun n z hn2 hP => ?_) vF 0 (0, u) (by omega) (by unfold vF; omega) ⟨[], rfl, rfl, Nat.le_refl _, fun i hi => absurd hi (Nat.not_lt_zero i), fun j _ hj => ⟨h5 j hj, h6 j hj, hf j hj⟩, fun b _ _ => rfl⟩
  · exact h
  · obtain ⟨l, st⟩ := z
    obtain ⟨W, p1, p2, p3, p4, p5, p6⟩ := hP
    dsimp only at p2 p3 p4 p5 p6
    have g := hg k hk
    have v5 := (p5 k (Nat.le_refl k) hk).1
    have v0 : st.1 0 7 = nI (a 0 3) := by rw [p6 0 (by omega) (by omega)]; exact h7
    have eU := uL_at (a := a) (s := s) hk
    by_cases e : a 5 k = s
    · refine ⟨(l, st), ?_, W, ?_, p2, Nat.le_succ_of_le p3, p4, fun j hj => p5 j (by omega), p6⟩
      · simp (disch := omega) only [fX5_forgetSightsOf_4, v0, v5, e, lits, nJ_le, nJ_lt, nJ_eq, nJ_clamp, nJ_add, nI_mul, nI_sub, nI_and, nI_or, nI_xor, Nat.add_zero, Nat.not_lt_zero, leF, leT, ltF, ltT, eqF, eqT, bd, obp_some, Option.bind_some, reduceIte, reduceCtorEq, or_self, or_true, true_or, or_false, false_or]
      · rw [p1, eU, if_pos e]
    · refine ⟨(l + 1, (up2 (up2 st.1 5 l (nI (dn a s k))) 6 l (nI (a 6 k)), vf_upd st.2 l (fe (a 7 k)))), ?_, W ++ [k], ?_, ?_, ?_, fun i hi => ?_, fun j hj hj2 => ?_, fun b hb hb2 => ?_⟩
      · have v6 := (p5 k (Nat.le_refl k) hk).2.1
        have v7 := (p5 k (Nat.le_refl k) hk).2.2
        have hlk : l ≤ k := by omega
        by_cases e2 : s < a 5 k
        · have ed : dn a s k = a 5 k - 1 := if_pos e2
          rw [ed]
          simp (disch := omega) only [fX5_forgetSightsOf_4, fX5_forgetSightsOf_54, v0, v5, v6, v7, up2_o, up2_r, e, e2, lits, nJ_le, nJ_lt, nJ_eq, nJ_clamp, nJ_add, nI_mul, nI_sub, nI_and, nI_or, nI_xor, Nat.add_zero, Nat.not_lt_zero, leF, leT, ltF, ltT, eqF, eqT, bd, obp_some, Option.bind_some, reduceIte, reduceCtorEq, or_self, or_true, true_or, or_false, false_or]
        · have ed : dn a s k = a 5 k := if_neg e2
          rw [ed]
          simp (disch := omega) only [fX5_forgetSightsOf_4, fX5_forgetSightsOf_54, v0, v5, v6, v7, up2_o, up2_r, e, e2, lits, nJ_le, nJ_lt, nJ_eq, nJ_clamp, nJ_add, nI_mul, nI_sub, nI_and, nI_or, nI_xor, Nat.add_zero, Nat.not_lt_zero, leF, leT, ltF, ltT, eqF, eqT, bd, obp_some, Option.bind_some, reduceIte, reduceCtorEq, or_self, or_true, true_or, or_false, false_or]
      · rw [p1, eU, if_neg e, List.append_assoc]
        rfl
      · rw [List.length_append, p2]
        rfl
      · rw [List.length_append]
        show W.length + 1 ≤ k + 1
        omega
      · rw [List.length_append] at hi
        have hi2 : i < W.length + 1 := hi
        rw [getD_snoc hi2]
        show upd (st.1 5) l _ i = _ ∧ upd (st.1 6) l _ i = _ ∧ vf_upd st.2 l _ i = _
        unfold vf_upd
        by_cases e2 : i = W.length
        · rw [if_pos e2, upd_eq (by omega), upd_eq (by omega), if_pos (by omega)]
          exact ⟨rfl, rfl, rfl⟩
        · rw [if_neg e2, upd_ne (by omega), upd_ne (by omega), if_neg (by omega)]
          exact p4 i (by omega)
      · show upd (st.1 5) l _ j = _ ∧ upd (st.1 6) l _ j = _ ∧ vf_upd st.2 l _ j = _
        unfold vf_upd
        rw [upd_ne (by omega), upd_ne (by omega), if_neg (by omega)]
        exact p5 j (by omega) hj2
      · dsimp only
        rw [up2_o hb2, up2_o hb]
        exact p6 b hb hb2
  · obtain ⟨l, st⟩ := z
    obtain ⟨W, p1, p2, p3, p4, p5, p6⟩ := hP
    dsimp only at p2 p3 p4 p5 p6
    obtain ⟨n, rfl⟩ : ∃ m, n = m + 1 := ⟨n - 1, by omega⟩
    have eW : goL a s = W := by rw [p1, Nat.sub_self]; exact List.append_nil W
    have v0 : st.1 0 7 = nI (a 0 3) := by rw [p6 0 (by omega) (by omega)]; exact h7
    have q0 := p6 0 (by omega) (by omega)
    refine ⟨(up2 st.1 0 7 (nI l), st.2), ?_, ?_, fun k hk => ?_, fun b hb hb2 hb3 => ?_, fun k hk => ?_⟩
    · show fX5_forgetSightsOf_4 (n + 1) (nI s) (nI l) (nI (a 0 3)) st = _
      rw [fX5_forgetSightsOf_4, v0, if_pos (Int32.le_refl _)]
      rfl
    · rw [eW, ← p2]
      rfl
    · show upd (st.1 0) 7 _ k = _
      rw [upd_ne hk, q0]
    · dsimp only
      rw [up2_o hb, p6 b hb2 hb3]
    · rw [eW] at hk ⊢
      exact p4 k hk
theorem xq_remove (w : WF B a) {s : Nat} (hs : s < a 0 0) {u : vH} (r : RX a u) : ∃ u', fX5_removeSailor (nI s) u = some u' ∧ RX (goM a s) u' := by
  have hn := wf_n w
  have hl := wf_l w
  have g := wf_s w s hs
  have i8 : ∀ k, k < 8 → ¬ (nI k < 0 ∨ 8 ≤ Int32.toNatClampNeg (nI k)) := fun k hk => (nJ_in (n := 8) hk (by omega)).mp
  rw [fX5_removeSailor, if_neg (i8 s (by omega)), nJ_clamp (by omega), rx_c r s hs, rx_k7 r, nJ_add, l32_1, nJ_add]
  dsimp only [bd]
  have h := loop_rel (F := fun n i (st : vH) => fX5_removeSailor_19 n (nI s) (nI i) st) (fun i st => s + 1 ≤ i ∧ (∀ b, b ≠ 1 → b ≠ 2 → b ≠ 3 → st.1 b = up2 u.1 0 14 (nI (a 0 7 + a 2 s)) b) ∧ st.2 = u.2 ∧ (∀ j, j < i - 1 → st.1 1 j = (if j < s then u.1 1 j else u.1 1 (j + 1)) ∧ st.1 2 j = (if j < s then u.1 2 j else u.1 2 (j + 1)) ∧ st.1 3 j = (if j < s then u.1 3 j else u.1 3 (j + 1))) ∧ (∀ j, i - 1 ≤ j → st.1 1 j = u.1 1 j ∧ st.1 2 j = u.1 2 j ∧ st.1 3 j = u.1 3 j)) (fun u' => RX (goM a s) u') (a 0 0) 1 (fun n i st hi hP => ?_) (fun n st hn2 hP => ?_) vF (s + 1) (up2 u.1 0 14 (nI (a 0 7 + a 2 s)), u.2) (by omega) (by unfold vF; omega) ⟨Nat.le_refl _, fun b _ _ _ => rfl, rfl, fun j hj => by
    have hj2 : j < s := by omega
    rw [if_pos hj2, if_pos hj2, if_pos hj2]
    exact ⟨rfl, rfl, rfl⟩, fun j _ => ⟨rfl, rfl, rfl⟩⟩
  · exact h
  · obtain ⟨p0, p1, p2, p3, p4⟩ := hP
    have v0 : st.1 0 0 = nI (a 0 0) := by
      rw [p1 0 (by omega) (by omega) (by omega)]
      exact rx_n r
    refine ⟨(up2 (up2 (up2 st.1 1 (i - 1) (st.1 1 i)) 2 (i - 1) (st.1 2 i)) 3 (i - 1) (st.1 3 i), st.2), ?_, by omega, fun b h1 h2 h3 => ?_, p2, fun j hj => ?_, fun j hj => ?_⟩
    · simp (disch := omega) only [fX5_removeSailor_19, v0, up2_o, lits, nJ_le, nJ_lt, nJ_eq, nJ_clamp, nJ_add, nI_mul, nI_sub, nI_and, nI_or, nI_xor, Nat.add_zero, Nat.not_lt_zero, leF, leT, ltF, ltT, eqF, eqT, bd, obp_some, Option.bind_some, reduceIte, reduceCtorEq, or_self, or_true, true_or, or_false, false_or]
    · dsimp only
      rw [up2_o h3, up2_o h2, up2_o h1]
      exact p1 b h1 h2 h3
    · show upd (st.1 1) (i - 1) _ j = _ ∧ upd (st.1 2) (i - 1) _ j = _ ∧ upd (st.1 3) (i - 1) _ j = _
      by_cases e : j = i - 1
      · have := p4 i (by omega)
        rw [upd_eq e, upd_eq e, upd_eq e, if_neg (by omega), if_neg (by omega), if_neg (by omega), show j + 1 = i from by omega]
        exact this
      · rw [upd_ne e, upd_ne e, upd_ne e]
        exact p3 j (by omega)
    · show upd (st.1 1) (i - 1) _ j = _ ∧ upd (st.1 2) (i - 1) _ j = _ ∧ upd (st.1 3) (i - 1) _ j = _
      rw [upd_ne (by omega), upd_ne (by omega), upd_ne (by omega)]
      exact p4 j (by omega)
  · obtain ⟨p0, p1, p2, p3, p4⟩ := hP
    obtain ⟨n, rfl⟩ : ∃ m, n = m + 1 := ⟨n - 1, by omega⟩
    have v0 : st.1 0 0 = nI (a 0 0) := by
      rw [p1 0 (by omega) (by omega) (by omega)]
      exact rx_n r
    have q0 := p1 0 (by omega) (by omega) (by omega)
    have q5 := p1 5 (by omega) (by omega) (by omega)
    have q6 := p1 6 (by omega) (by omega) (by omega)
    have q4 := p1 4 (by omega) (by omega) (by omega)
    obtain ⟨u', e, f1, f2, f3, f4⟩ := xq_fgLoop w hs (u := (up2 st.1 0 0 (nI (a 0 0 - 1)), st.2)) (by
      show st.1 0 7 = _
      rw [q0]; exact rx_l r) (fun k hk => by
      show st.1 5 k = _
      rw [q5]; exact rx_s r k hk) (fun k hk => by
      show st.1 6 k = _
      rw [q6]; exact rx_t r k hk) (fun k hk => by
      show st.2 k = _
      rw [p2]; exact rx_f r k hk)
    have k0 : ∀ k, k ≠ 7 → k ≠ 0 → k ≠ 14 → u'.1 0 k = u.1 0 k := by
      intro k h1 h2 h3
      rw [f2 k h1]
      show upd (st.1 0) 0 _ k = _
      rw [upd_ne h2, q0, up2_r, upd_ne h3]
    refine ⟨u', ?_, ⟨?_, ?_, ?_, f1⟩, ⟨?_, ?_, ?_, ?_⟩, fun i hi => ?_, fun i hi => ?_, fun i hi => ?_, fun i hi => ?_, fun k hk => (f4 k hk).1, fun k hk => (f4 k hk).2.1, fun k hk => (f4 k hk).2.2⟩
    · show fX5_removeSailor_19 (n + 1) (nI s) (nI (a 0 0)) st = _
      rw [fX5_removeSailor_19, v0, if_pos (Int32.le_refl _), l32_1, nI_sub (by omega)]
      dsimp only [bd]
      rw [e, Option.bind_some]
    · rw [f2 0 (by omega)]; rfl
    · rw [k0 _ (by omega) (by omega) (by omega)]; exact (rx_e r :)
    · rw [k0 _ (by omega) (by omega) (by omega)]; exact (rx_h r :)
    · rw [k0 _ (by omega) (by omega) (by omega)]; exact (rx_k4 r :)
    · rw [k0 _ (by omega) (by omega) (by omega)]; exact (rx_k5 r :)
    · rw [k0 _ (by omega) (by omega) (by omega)]; exact (rx_k6 r :)
    · rw [f2 14 (by omega)]
      show upd (st.1 0) 0 (nI (a 0 0 - 1)) 14 = _
      rw [upd_ne (by omega), q0]; rfl
    · have hi2 : i < a 0 0 - 1 := hi
      rw [f3 1 (by omega) (by omega) (by omega)]
      show st.1 1 i = nI (if i < s then a 1 i else a 1 (i + 1))
      rw [(p3 i hi2).1]
      by_cases e : i < s
      · rw [if_pos e, if_pos e]; exact rx_m r i (by omega)
      · rw [if_neg e, if_neg e]; exact rx_m r (i + 1) (by omega)
    · have hi2 : i < a 0 0 - 1 := hi
      rw [f3 2 (by omega) (by omega) (by omega)]
      show st.1 2 i = nI (if i < s then a 2 i else a 2 (i + 1))
      rw [(p3 i hi2).2.1]
      by_cases e : i < s
      · rw [if_pos e, if_pos e]; exact rx_c r i (by omega)
      · rw [if_neg e, if_neg e]; exact rx_c r (i + 1) (by omega)
    · have hi2 : i < a 0 0 - 1 := hi
      rw [f3 3 (by omega) (by omega) (by omega)]
      show st.1 3 i = nI (if i < s then a 3 i else a 3 (i + 1))
      rw [(p3 i hi2).2.2]
      by_cases e : i < s
      · rw [if_pos e, if_pos e]; exact rx_w r i (by omega)
      · rw [if_neg e, if_neg e]; exact rx_w r (i + 1) (by omega)
    · rw [f3 4 (by omega) (by omega) (by omega)]
      show st.1 4 i = _
      rw [q4]; exact (rx_z r i hi :)
end

