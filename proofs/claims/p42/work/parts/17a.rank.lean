/-! ORDERS: places are a permutation -/
theorem sumN_lt {N : Nat} {f g : Nat → Nat} {k : Nat} (hk : k < N) (h : ∀ i, i < N → f i ≤ g i) (hlt : f k < g k) : sumN N f < sumN N g := by
  induction N with
  | zero => omega
  | succ N ih =>
    show sumN N f + f N < sumN N g + g N
    have h2 := h N (by omega)
    by_cases e : k = N
    · have h3 : sumN N f ≤ sumN N g := by
        clear ih hk hlt e
        have h' : ∀ i, i < N → f i ≤ g i := fun i hi => h i (by omega)
        clear h h2
        induction N with
        | zero => exact Nat.le_refl 0
        | succ N ih =>
          show sumN N f + f N ≤ sumN N g + g N
          have h1 := ih (fun i hi => h' i (by omega))
          have h2 := h' N (by omega)
          omega
      rw [e] at hlt
      omega
    · have h1 := ih (by omega) (fun i hi => h i (by omega))
      omega
theorem sumN_ones (N : Nat) : sumN N (fun _ => 1) = N := by
  induction N with
  | zero => rfl
  | succ N ih =>
    show sumN N (fun _ => 1) + 1 = N + 1
    omega
theorem pig0 : ∀ N (f : Nat → Nat), (∀ i, i < N + 1 → f i < N) → (∀ i j, i < N + 1 → j < N + 1 → f i = f j → i = j) → False
  | 0, f, h, _ => absurd (h 0 (by omega)) (by omega)
  | N + 1, f, h, hj => by
    have h3 : ∀ i, i < N + 1 → f i ≠ f (N + 1) := fun i hi e => by
      have := hj i (N + 1) (by omega) (by omega) e
      omega
    have h2 := h (N + 1) (by omega)
    refine pig0 N (fun i => if f (N + 1) < f i then f i - 1 else f i) (fun i hi => ?_) (fun i j hi hj2 he => ?_)
    · have h1 := h i (by omega)
      have h4 := h3 i hi
      try dsimp only
      split <;> omega
    · have h4 := h3 i hi
      have h5 := h3 j hj2
      apply hj i j (by omega) (by omega)
      by_cases c1 : f (N + 1) < f i
      · rw [if_pos c1] at he
        by_cases c2 : f (N + 1) < f j
        · rw [if_pos c2] at he; omega
        · rw [if_neg c2] at he; omega
      · rw [if_neg c1] at he
        by_cases c2 : f (N + 1) < f j
        · rw [if_pos c2] at he; omega
        · rw [if_neg c2] at he; omega
theorem pig {N : Nat} {f : Nat → Nat} (h : ∀ i, i < N → f i < N) (hj : ∀ i j, i < N → j < N → f i = f j → i = j) {p : Nat} (hp : p < N) : ∃ i, i < N ∧ f i = p := by
  rcases first_or (fun i => f i = p) 0 N with ⟨k, -, h2, h3, -⟩ | h5
  · exact ⟨k, h2, h3⟩
  · exfalso
    obtain ⟨N, rfl⟩ : ∃ M, N = M + 1 := ⟨N - 1, by omega⟩
    have h6 : ∀ i, i < N + 1 → f i ≠ p := fun i hi => h5 i (by omega) hi
    refine pig0 N (fun i => if p < f i then f i - 1 else f i) (fun i hi => ?_) (fun i j hi hj2 he => ?_)
    · have h1 := h i hi
      have h4 := h6 i hi
      try dsimp only
      split <;> omega
    · have h4 := h6 i hi
      have h7 := h6 j hj2
      apply hj i j hi hj2
      by_cases c1 : p < f i
      · rw [if_pos c1] at he
        by_cases c2 : p < f j
        · rw [if_pos c2] at he; omega
        · rw [if_neg c2] at he; omega
      · rw [if_neg c1] at he
        by_cases c2 : p < f j
        · rw [if_pos c2] at he; omega
        · rw [if_neg c2] at he; omega
theorem hi_iff (a : mA) (o s : Nat) : hiP a o s ↔ (ang a s < ang a o ∨ (ang a o = ang a s ∧ (chr (a 1 s) < chr (a 1 o) ∨ (chr (a 1 o) = chr (a 1 s) ∧ o < s)))) := by
  by_cases h1 : ang a o = ang a s
  · by_cases h2 : chr (a 1 o) = chr (a 1 s)
    · rw [hiP, if_pos h1, if_pos h2]; omega
    · rw [hiP, if_pos h1, if_neg h2]; omega
  · rw [hiP, if_neg h1]; omega
theorem hi_irr (a : mA) (x : Nat) : ¬ hiP a x x := fun h => by
  have := (hi_iff a x x).mp h
  omega
theorem hi_tr {a : mA} {x y z : Nat} (h1 : hiP a x y) (h2 : hiP a y z) : hiP a x z := by
  have g1 := (hi_iff a x y).mp h1
  have g2 := (hi_iff a y z).mp h2
  exact (hi_iff a x z).mpr (by omega)
theorem hi_tot {a : mA} {x y : Nat} (h : x ≠ y) (h1 : ¬ hiP a x y) : hiP a y x := by
  by_cases c : (ang a y < ang a x ∨ (ang a x = ang a y ∧ (chr (a 1 y) < chr (a 1 x) ∨ (chr (a 1 x) = chr (a 1 y) ∧ x < y))))
  · exact absurd ((hi_iff a x y).mpr c) h1
  · exact (hi_iff a y x).mpr (by omega)
section
variable {B : Nat} {a : mA}
theorem pls_lt {x y : Nat} (hx : x < a 0 0) (h : hiP a x y) : plS a x < plS a y := by
  unfold plS
  refine sumN_lt (k := x) hx (fun i hi => ?_) ?_
  · try dsimp only
    by_cases h1 : hiP a i x
    · rw [if_pos h1, if_pos (hi_tr h1 h)]; exact Nat.le_refl 1
    · rw [if_neg h1]; exact Nat.zero_le _
  · try dsimp only
    rw [if_neg (hi_irr a x), if_pos h]; exact Nat.one_pos
theorem pls_b {x : Nat} (hx : x < a 0 0) : plS a x < a 0 0 := by
  have h : sumN (a 0 0) (fun o => if hiP a o x then 1 else 0) < sumN (a 0 0) (fun _ => 1) := by
    refine sumN_lt (k := x) hx (fun i hi => ?_) ?_
    · try dsimp only
      split <;> omega
    · try dsimp only
      rw [if_neg (hi_irr a x)]; exact Nat.one_pos
  rw [sumN_ones] at h
  exact h
theorem pls_inj {i j : Nat} (hi : i < a 0 0) (hj : j < a 0 0) (h : plS a i = plS a j) : i = j := by
  by_cases e : i = j
  · exact e
  · by_cases c : hiP a i j
    · have := pls_lt hi c; omega
    · have := pls_lt hj (hi_tot e c); omega
theorem pls_hi {i j : Nat} (hi : i < a 0 0) (hj : j < a 0 0) (h : plS a i < plS a j) : hiP a i j := by
  by_cases e : i = j
  · rw [e] at h; omega
  · by_cases c : hiP a i j
    · exact c
    · have := pls_lt hj (hi_tot e c); omega
theorem z_high (w : WF B a) {p : Nat} (hp : p < a 0 0) : ∃ k, k < a 0 0 ∧ plS a k = p ∧ ∀ u : vZ, RX a u.2.1.1 → fX7_highest (nI p) u = some (nI k, u) := by
  have hn := wf_n w
  obtain ⟨k, h1, h2⟩ := pig (f := plS a) (fun i hi => pls_b hi) (fun i j hi hj e => pls_inj hi hj e) hp
  refine ⟨k, h1, h2, fun u r => z_hi w r h1 (by omega) h2 (fun j hj e => ?_) (fun j hj => ?_)⟩
  · have := pls_inj (a := a) (i := j) (j := k) (by omega) h1 (by omega)
    omega
  · have := pls_b (a := a) hj
    omega
theorem z_highN {u : vZ} (w : WF B a) (r : RX a u.2.1.1) : fX7_highest (nI (a 0 0)) u = some (-100001, u) := by
  have hn := wf_n w
  refine z_hiN w r (by omega) (fun j hj e => ?_) (fun j hj => ?_)
  · have := pls_b (a := a) hj
    omega
  · have := pls_b (a := a) hj
    omega
theorem sh_iff (w : WF B a) {o k : Nat} (ho : o < a 0 3) (hk : k < a 0 3) : shP a o k ↔ (a 7 k < a 7 o ∨ (a 7 o = a 7 k ∧ o < k)) := by
  obtain ⟨c1, c2⟩ := lcm_all (a 7 o) (wf_g w o ho).2.2 (a 7 k) (wf_g w k hk).2.2
  have e : lcm a o k = Op.cmpValue (FP.fcmp (fe (a 7 o)) (fe (a 7 k))) CmpOp.l := rfl
  rw [← e] at c1 c2
  by_cases h1 : lcm a o k = 0
  · have := c1.mp h1
    rw [shP, if_pos h1]; omega
  · have h3 : ¬ a 7 o = a 7 k := fun z => h1 (c1.mpr z)
    rw [shP, if_neg h1, c2]; omega
theorem pll_lt (w : WF B a) {x y : Nat} (hx : x < a 0 3) (hy : y < a 0 3) (h : shP a x y) : plL a x < plL a y := by
  have g := (sh_iff w hx hy).mp h
  unfold plL
  refine sumN_lt (k := x) hx (fun i hi => ?_) ?_
  · try dsimp only
    by_cases h1 : shP a i x
    · have g1 := (sh_iff w hi hx).mp h1
      have h2 : shP a i y := (sh_iff w hi hy).mpr (by omega)
      rw [if_pos h1, if_pos h2]; exact Nat.le_refl 1
    · rw [if_neg h1]; exact Nat.zero_le _
  · have h1 : ¬ shP a x x := fun z => by
      have := (sh_iff w hx hx).mp z
      omega
    try dsimp only
    rw [if_neg h1, if_pos h]; exact Nat.one_pos
theorem pll_b (w : WF B a) {x : Nat} (hx : x < a 0 3) : plL a x < a 0 3 := by
  have h1 : ¬ shP a x x := fun z => by
    have := (sh_iff w hx hx).mp z
    omega
  have h : sumN (a 0 3) (fun o => if shP a o x then 1 else 0) < sumN (a 0 3) (fun _ => 1) := by
    refine sumN_lt (k := x) hx (fun i hi => ?_) ?_
    · try dsimp only
      split <;> omega
    · try dsimp only
      rw [if_neg h1]; exact Nat.one_pos
  rw [sumN_ones] at h
  exact h
theorem sh_tot (w : WF B a) {x y : Nat} (hx : x < a 0 3) (hy : y < a 0 3) (h : x ≠ y) (h1 : ¬ shP a x y) : shP a y x := by
  by_cases c : (a 7 y < a 7 x ∨ (a 7 x = a 7 y ∧ x < y))
  · exact absurd ((sh_iff w hx hy).mpr c) h1
  · exact (sh_iff w hy hx).mpr (by omega)
theorem pll_inj (w : WF B a) {i j : Nat} (hi : i < a 0 3) (hj : j < a 0 3) (h : plL a i = plL a j) : i = j := by
  by_cases e : i = j
  · exact e
  · by_cases c : shP a i j
    · have := pll_lt w hi hj c; omega
    · have := pll_lt w hj hi (sh_tot w hi hj e c); omega
theorem pll_hi (w : WF B a) {i j : Nat} (hi : i < a 0 3) (hj : j < a 0 3) (h : plL a i < plL a j) : shP a i j := by
  by_cases e : i = j
  · rw [e] at h; omega
  · by_cases c : shP a i j
    · exact c
    · have := pll_lt w hj hi (sh_tot w hi hj e c); omega
theorem z_rank (w : WF B a) {p : Nat} (hp : p < a 0 3) : ∃ k, k < a 0 3 ∧ plL a k = p ∧ ∀ u : vZ, RX a u.2.1.1 → fX7_ranked (nI p) u = some (nI k, u) := by
  have hl := wf_l w
  obtain ⟨k, h1, h2⟩ := pig (f := plL a) (fun i hi => pll_b w hi) (fun i j hi hj e => pll_inj w hi hj e) hp
  refine ⟨k, h1, h2, fun u r => z_ra w r h1 (by omega) h2 (fun j hj e => ?_) (fun j hj => ?_)⟩
  · have := pll_inj w (i := j) (j := k) (by omega) h1 (by omega)
    omega
  · have := pll_b w hj
    omega
theorem z_rankN {u : vZ} (w : WF B a) (r : RX a u.2.1.1) : fX7_ranked (nI (a 0 3)) u = some (-100001, u) := by
  have hl := wf_l w
  refine z_raN w r (by omega) (fun j hj e => ?_) (fun j hj => ?_)
  · have := pll_b w hj
    omega
  · have := pll_b w hj
    omega
end
