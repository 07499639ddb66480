/-! SIGHTS: the fixes -/
theorem sumN_mono {f : Nat → Nat} : ∀ d i, sumN i f ≤ sumN (i + d) f
  | 0, i => Nat.le_refl _
  | d + 1, i => by
    have h := sumN_mono (f := f) d i
    show _ ≤ sumN (i + d) f + f (i + d)
    omega
theorem nar_b : vp_nar .boolean (0 : Int32) = 0 ∧ vp_nar .boolean (1 : Int32) = 1 := by decide +kernel
theorem i_dec {j : Nat} : iI (((j + 1 : Nat) : Int) - 1) = nI j := by
  rw [nI_iI]
  congr 1
  omega
theorem i_dec2 {j : Nat} : nI j + (-1) = iI ((j : Int) - 1) := by
  rw [m1, nI_iI, iI_add]
  congr 1
/-- what was summed of a sailor's latest two, of the lowest k -/
def SPx (a : mA) (s k seen : Nat) (x : UInt32) : Prop := (seen = 0 ∧ x = FP.fconst0 ∧ ∀ j, j < k → a 5 j ≠ s) ∨ (∃ k1, seen = 1 ∧ k1 < k ∧ k1 < a 0 3 ∧ a 5 k1 = s ∧ (∀ j, j < k → j ≠ k1 → a 5 j ≠ s) ∧ x = fe (a 7 k1)) ∨ (∃ k1 k2, seen = 2 ∧ k2 < k ∧ FX a s k1 k2 ∧ x = fsE (a 7 k1 + a 7 k2))
section
variable {B : Nat} {a : mA} {u : vZ} {mc ms : Nat}
theorem sp_zero (w : WF B a) {s k seen : Nat} {x : UInt32} (h : SPx a s k seen x) : seen ≤ 2 ∧ FP.fadd x FP.fconst0 = x ∧ okF x ∧ okF (FP.fdiv x FP.fconst2) := by
  rcases h with ⟨h1, rfl, -⟩ | ⟨k1, h1, h2, h3, h4, h5, rfl⟩ | ⟨k1, k2, h1, h2, f, rfl⟩
  · exact ⟨by omega, f0_zero.1, f0_zero.2.1, f0_zero.2.2⟩
  · have y1 := (wf_g w k1 h3).2.2
    have z := fe_zero _ y1
    exact ⟨by omega, z.1, (fe_ok _ y1).1, z.2.2⟩
  · obtain ⟨f1, f2, f3, f4, f5, f6⟩ := f
    have y1 := (wf_g w k1 (by omega)).2.2
    have y2 := (wf_g w k2 f2).2.2
    have z := fsE_all (a 7 k1 + a 7 k2) (by omega)
    have z2 := (fep_all _ _ y1 y2).2
    obtain ⟨x1, x2, x3, x4, x5⟩ := fix_all _ _ y1 y2
    rw [z2] at x2
    have z3 := (fs_ok (a 7 k1 + a 7 k2) (by omega)).1
    rw [← x2] at z3
    exact ⟨by omega, z.2, z.1, z3⟩
/-- one more, of another sailor, or a third -/
theorem sp_skip {s k seen : Nat} {x : UInt32} (h : SPx a s k seen x) (hk : a 5 k ≠ s ∨ 2 ≤ seen) : SPx a s (k + 1) seen x := by
  rcases h with ⟨h1, h2, h3⟩ | ⟨k1, h1, h2, h3, h4, h5, h6⟩ | ⟨k1, k2, h1, h2, h3, h4⟩
  · refine Or.inl ⟨h1, h2, fun j hj => ?_⟩
    by_cases e : j = k
    · rw [e]
      exact hk.resolve_right (by omega)
    · exact h3 j (by omega)
  · refine Or.inr (Or.inl ⟨k1, h1, by omega, h3, h4, fun j hj hn => ?_, h6⟩)
    by_cases e : j = k
    · rw [e]
      exact hk.resolve_right (by omega)
    · exact h5 j (by omega) hn
  · exact Or.inr (Or.inr ⟨k1, k2, h1, by omega, h3, h4⟩)
theorem sp_take (w : WF B a) {s k seen : Nat} {x : UInt32} (h : SPx a s k seen x) (hk : k < a 0 3) (he : a 5 k = s) (h2 : seen < 2) : SPx a s (k + 1) (seen + 1) (FP.fadd x (fe (a 7 k))) ∧ okF (FP.fadd x (fe (a 7 k))) := by
  have y := (wf_g w k hk).2.2
  rcases h with ⟨h1, rfl, h3⟩ | ⟨k1, h1, h4, h5, h6, h7, rfl⟩ | ⟨k1, k2, h1, h2, h3, h4⟩
  · have z := (fe_zero _ y).2.1
    refine ⟨Or.inr (Or.inl ⟨k, by omega, by omega, hk, he, fun j hj hn => h3 j (by omega), z⟩), ?_⟩
    rw [z]
    exact (fe_ok _ y).1
  · have y1 := (wf_g w k1 h5).2.2
    have z := (fep_all _ _ y1 y).2
    refine ⟨Or.inr (Or.inr ⟨k1, k, by omega, by omega, ⟨h4, hk, h6, he, fun j hj => h7 j (by omega) (by omega), fun j hj hj2 => h7 j hj2 (by omega)⟩, z⟩), ?_⟩
    rw [z]
    exact (fsE_all _ (by omega)).1
  · omega
/-- how many, counted from the end -/
theorem sf_252 (w : WF B a) (r : RX a u.2.1.1) {s : Nat} (hs : s < a 0 0) (rec : Int32 → Int32 → Int32 → Int32 → Nat → (Nat → Int32) → Nat → (Nat → UInt32) → Nat → (Nat → Int32) → vZ → Nat → Nat → Option (Int32 × vZ)) (x1 x2 : Int32) (x5 : UInt32) (x7 : Int32) (n8 : Nat) (g9 : Nat → Int32) (n10 : Nat) (g11 : Nat → UInt32) (n12 : Nat) (g13 : Nat → Int32) (kc ks : Nat) : ∀ j n, j ≤ a 0 3 → j < n → hf_L_sights_252 mc ms n rec x1 x2 (nI s) (nI (cntS a s - sumN j (fun k => if a 5 k = s then 1 else 0))) x5 (iI ((j : Int) - 1)) x7 n8 g9 n10 g11 n12 g13 u kc ks = hf_L_sights_291 mc ms vF rec x1 x2 (nI s) (nI (cntS a s)) x5 0 0 x7 n8 g9 n10 g11 n12 g13 u kc ks := by
  have hn := wf_n w
  have h10 := wf_l w
  intro j
  induction j with
  | zero =>
    intro n hj hn2
    obtain ⟨n, rfl⟩ : ∃ i, n = i + 1 := ⟨n - 1, by omega⟩
    have c : iI (((0 : Nat) : Int) - 1) < 0 := (iI_lt (b := 0) (by omega) (by omega) (by omega) (by omega)).mpr (by omega)
    rw [hf_L_sights_252, if_pos c]
    rfl
  | succ j ih =>
    intro n hj hn2
    obtain ⟨n, rfl⟩ : ∃ i, n = i + 1 := ⟨n - 1, by omega⟩
    have hg := wf_g w j (by omega)
    have hm := sumN_mono (f := fun k => if a 5 k = s then 1 else 0) (a 0 3 - (j + 1)) (j + 1)
    rw [show j + 1 + (a 0 3 - (j + 1)) = a 0 3 by omega] at hm
    have hc : cntS a s = sumN (a 0 3) (fun k => if a 5 k = s then 1 else 0) := rfl
    rw [← hc] at hm
    have hsu : sumN (j + 1) (fun k => if a 5 k = s then 1 else 0) = sumN j (fun k => if a 5 k = s then 1 else 0) + (if a 5 j = s then 1 else 0) := rfl
    rw [hf_L_sights_252, i_dec, if_neg (nI_neg0 (by omega)), z_si0 w r (k := j) (by omega), obp_some]
    rw [← ih n (by omega) (by omega), ← i_dec2]
    by_cases e : a 5 j = s
    · rw [if_pos e] at hsu
      rw [if_pos (by rw [e]), bdE, bdE, nI_1, hsu, show cntS a s - (sumN j (fun k => if a 5 k = s then 1 else 0) + 1) + 1 = cntS a s - sumN j (fun k => if a 5 k = s then 1 else 0) by omega]
    · rw [if_neg e] at hsu
      rw [if_neg (fun z => e ((nJ_eq (by omega) (by omega)).mp z)), bdE, bdE, hsu, show ∀ x : Int32, x + (0 : Int32) = x from fun x => Int32.add_zero x, Nat.add_zero]
/-- the sum of the latest two -/
theorem sf_291 (w : WF B a) (r : RX a u.2.1.1) {s : Nat} (hs : s < a 0 0) (rec : Int32 → Int32 → Int32 → Int32 → Nat → (Nat → Int32) → Nat → (Nat → UInt32) → Nat → (Nat → Int32) → vZ → Nat → Nat → Option (Int32 × vZ)) (x2 x4 x8 : Int32) (n9 : Nat) (g10 : Nat → Int32) (n11 : Nat) (g12 : Nat → UInt32) (n13 : Nat) (g14 : Nat → Int32) (kc ks : Nat) : ∀ d k n seen x, k + d = a 0 3 → d < n → SPx a s k seen x → ∃ seen' x', SPx a s (a 0 3) seen' x' ∧ ∃ m, hf_L_sights_291 mc ms n rec (nI (a 0 3)) x2 (nI s) x4 x (nI seen) (nI k) x8 n9 g10 n11 g12 n13 g14 u kc ks = hf_L_sights_291 mc ms (m + 1) rec (nI (a 0 3)) x2 (nI s) x4 x' (nI seen') (nI (a 0 3)) x8 n9 g10 n11 g12 n13 g14 u kc ks := by
  have hn := wf_n w
  have h10 := wf_l w
  intro d
  induction d with
  | zero =>
    intro k n seen x hk hd h
    obtain ⟨n, rfl⟩ : ∃ i, n = i + 1 := ⟨n - 1, by omega⟩
    have e : k = a 0 3 := by omega
    subst e
    exact ⟨seen, x, h, n, rfl⟩
  | succ d ih =>
    intro k n seen x hk hd h
    obtain ⟨n, rfl⟩ : ∃ i, n = i + 1 := ⟨n - 1, by omega⟩
    have hk3 : k < a 0 3 := by omega
    have hg := wf_g w k hk3
    obtain ⟨q1, q2, q3, q4⟩ := sp_zero w h
    have q3' : okF (FP.fadd x FP.fconst0) := by rw [q2]; exact q3
    by_cases c : a 5 k ≠ s ∨ 2 ≤ seen
    · obtain ⟨s', x', h1, m, h2⟩ := ih (k + 1) n seen x (by omega) (by omega) (sp_skip h c)
      refine ⟨s', x', h1, m, ?_⟩
      rw [← h2, hf_L_sights_291, if_neg (nI_ge hk3 (by omega)), z_si0 w r hk3, obp_some]
      by_cases c1 : a 5 k = s
      · have c2 : 2 ≤ seen := c.resolve_left (fun z => z c1)
        rw [if_pos (by rw [c1]), if_pos (show (2 : Int32) ≤ nI seen from nI_le (a := 2) c2 (by omega))]
        unfold hf_L_sights_320 hf_L_sights_343
        rw [if_pos rfl, if_pos q3', bdE, if_pos rfl, bdE, bdE, q2, nI_1, show ∀ x : Int32, x + (0 : Int32) = x from fun x => Int32.add_zero x]
      · rw [if_neg (fun z => c1 ((nJ_eq (by omega) (by omega)).mp z))]
        unfold hf_L_sights_320 hf_L_sights_343
        rw [if_pos rfl, if_pos q3', bdE, if_pos rfl, bdE, bdE, q2, nI_1, show ∀ x : Int32, x + (0 : Int32) = x from fun x => Int32.add_zero x]
    · have c1 : a 5 k = s := Classical.not_not.mp (fun z => c (Or.inl z))
      have c2 : seen < 2 := Nat.lt_of_not_le (fun z => c (Or.inr z))
      obtain ⟨p1, p2⟩ := sp_take w h hk3 c1 c2
      obtain ⟨s', x', h1, m, h2⟩ := ih (k + 1) n (seen + 1) _ (by omega) (by omega) p1
      refine ⟨s', x', h1, m, ?_⟩
      rw [← h2, hf_L_sights_291, if_neg (nI_ge hk3 (by omega)), z_si0 w r hk3, obp_some, if_pos (by rw [c1]), if_neg (show ¬ (2 : Int32) ≤ nI seen from nI_ge (b := 2) c2 (by omega))]
      unfold hf_L_sights_320 hf_L_sights_343
      rw [if_neg k_10, z_si2 w r hk3, obp_some, if_pos (fe_ok _ hg.2.2).2.1, tt_b, if_pos p2, bdE, if_neg k_10, bdE, bdE, nI_1, nI_1]
/-- the fixes that were found -/
def FSx (a : mA) (s : Nat) (g : Nat → UInt32) (h : Nat → Int32) : Prop := ∀ j, j < s → (cntS a j < 2 ∧ h j = 0) ∨ (¬ cntS a j < 2 ∧ h j = 1 ∧ ∃ k1 k2, FX a j k1 k2 ∧ g j = fs (a 7 k1 + a 7 k2))
theorem sp_fix (w : WF B a) {s seen : Nat} {x : UInt32} (h : SPx a s (a 0 3) seen x) : (cntS a s < 2) ∨ (¬ cntS a s < 2 ∧ ∃ k1 k2, FX a s k1 k2 ∧ FP.fdiv x FP.fconst2 = fs (a 7 k1 + a 7 k2)) := by
  rcases h with ⟨h1, h2, h3⟩ | ⟨k1, h1, h2, h3, h4, h5, h6⟩ | ⟨k1, k2, h1, h2, f, rfl⟩
  · have := sum_none (p := fun k => a 5 k = s) h3
    left
    unfold cntS
    omega
  · have := sum_one (p := fun k => a 5 k = s) h2 h5
    left
    unfold cntS
    omega
  · by_cases c : cntS a s < 2
    · exact Or.inl c
    · refine Or.inr ⟨c, k1, k2, f, ?_⟩
      obtain ⟨f1, f2, f3, f4, f5, f6⟩ := f
      have y1 := (wf_g w k1 (by omega)).2.2
      have y2 := (wf_g w k2 f2).2.2
      have z2 := (fep_all _ _ y1 y2).2
      rw [← z2]
      obtain ⟨x1, x2, -⟩ := fix_all _ _ y1 y2
      exact x2
theorem sf_391 (w : WF B a) (r : RX a u.2.1.1) {s : Nat} (hs : s < a 0 0) {g : Nat → UInt32} {h : Nat → Int32} {x : UInt32} (hx : (cntS a s < 2) ∨ (¬ cntS a s < 2 ∧ ∃ k1 k2, FX a s k1 k2 ∧ x = fs (a 7 k1 + a 7 k2))) (hF : FSx a s g h) : ∃ h', FSx a (s + 1) (vf_upd g s x) h' ∧ ∀ (rec : Int32 → Int32 → Int32 → Int32 → Nat → (Nat → Int32) → Nat → (Nat → UInt32) → Nat → (Nat → Int32) → vZ → Nat → Nat → Option (Int32 × vZ)) (x1 x2 x7 : Int32) (n8 : Nat) (g9 : Nat → Int32) (kc ks : Nat), (if nI (cntS a s) ≤ (1 : Int32) then hf_L_sights_391 mc ms rec x1 x2 (nI s) (nI (cntS a s)) (0 : Int32) (nI s) x7 n8 g9 (a 0 0) (vf_upd g s x) (a 0 0) h u kc ks else hf_L_sights_391 mc ms rec x1 x2 (nI s) (nI (cntS a s)) (1 : Int32) (nI s) x7 n8 g9 (a 0 0) (vf_upd g s x) (a 0 0) h u kc ks) = rec x1 x2 (nI (s + 1)) x7 n8 g9 (a 0 0) (vf_upd g s x) (a 0 0) h' u kc ks := by
  have hn := wf_n w
  have h10 := wf_l w
  have hcb : cntS a s ≤ 10 := by
    have := sumN_bound (N := a 0 3) (K := 1) (f := fun k => if a 5 k = s then 1 else 0) (fun i hi => by (try dsimp only); split <;> omega)
    unfold cntS
    omega
  have hin : ¬ (nI s < 0 ∨ a 0 0 ≤ Int32.toNatClampNeg (nI s)) := nI_in hs (by omega)
  have hcs : Int32.toNatClampNeg (nI s) = s := nI_clamp (by omega)
  have hin2 : ¬ (nI s < 0 ∨ a 0 0 ≤ s) := fun z => hin (by rw [hcs]; exact z)
  have hup : ∀ j, j < s → vf_upd g s x j = g j := fun j hj => if_neg (by omega)
  have hup2 : vf_upd g s x s = x := if_pos rfl
  have h484 : ∀ (rec : Int32 → Int32 → Int32 → Int32 → Nat → (Nat → Int32) → Nat → (Nat → UInt32) → Nat → (Nat → Int32) → vZ → Nat → Nat → Option (Int32 × vZ)) (x1 x2 x7 : Int32) (n8 : Nat) (g9 : Nat → Int32) (n9 : Nat) (gg : Nat → UInt32) (n11 : Nat) (hh : Nat → Int32) (kc ks : Nat), hf_L_sights_484 mc ms rec x1 x2 (nI s) (nI (cntS a s)) (1 : Int32) x7 n8 g9 n9 gg n11 hh u kc ks = rec x1 x2 (nI (s + 1)) x7 n8 g9 n9 gg n11 hh u kc ks := fun rec x1 x2 x7 n8 g9 n9 gg n11 hh kc ks => by
    unfold hf_L_sights_484
    rw [if_neg k_10, z_so6 w r hs, obp_some, if_pos rfl, bdE, nI_1]
  rcases hx with c | ⟨c, k1, k2, f, rfl⟩
  · refine ⟨upd h s 0, fun j hj => ?_, fun rec x1 x2 x7 n8 g9 kc ks => ?_⟩
    · by_cases e : j = s
      · rw [e]
        exact Or.inl ⟨c, pk_us⟩
      · rcases hF j (by omega) with ⟨q1, q2⟩ | ⟨q1, q2, q3, q4, q5, q6⟩
        · exact Or.inl ⟨q1, by rw [pk_un e]; exact q2⟩
        · exact Or.inr ⟨q1, by rw [pk_un e]; exact q2, q3, q4, q5, by rw [hup j (by omega)]; exact q6⟩
    · obtain ⟨v1, v2⟩ := z_fxN w r hs c
      have hu : upd h s (0 : Int32) s = 0 := pk_us
      rw [if_pos (show nI (cntS a s) ≤ (1 : Int32) from nI_le (b := 1) (by omega) (by omega))]
      unfold hf_L_sights_391
      rw [if_neg hin, bdE, hcs, nar_b.1, if_neg hin2, hu, if_pos rfl]
      unfold hf_L_sights_413
      rw [if_neg hin, hcs, hu, if_pos rfl, v1, obp_some, if_pos rfl, v2, obp_some, if_pos rfl, h484]
  · refine ⟨upd h s 1, fun j hj => ?_, fun rec x1 x2 x7 n8 g9 kc ks => ?_⟩
    · by_cases e : j = s
      · rw [e]
        exact Or.inr ⟨c, pk_us, k1, k2, f, hup2⟩
      · rcases hF j (by omega) with ⟨q1, q2⟩ | ⟨q1, q2, q3, q4, q5, q6⟩
        · exact Or.inl ⟨q1, by rw [pk_un e]; exact q2⟩
        · exact Or.inr ⟨q1, by rw [pk_un e]; exact q2, q3, q4, q5, by rw [hup j (by omega)]; exact q6⟩
    · obtain ⟨v1, v2, v3⟩ := z_fx w r hs c f
      have hu : upd h s (1 : Int32) s = 1 := pk_us
      have z1 := fs_sni _ v3
      have z2 := (fs_ok _ v3).2.2
      rw [if_neg (show ¬ nI (cntS a s) ≤ (1 : Int32) from nI_ge (a := 1) (by omega) (by omega))]
      unfold hf_L_sights_391
      rw [if_neg hin, bdE, hcs, nar_b.2, if_neg hin2, hu, if_neg k_10, v1, obp_some, if_pos z1, tt_b]
      unfold hf_L_sights_413
      rw [if_neg hin, hcs, hu, if_neg k_10, if_neg hin2, hup2, if_pos z2, v2, obp_some, v1, obp_some, if_pos rfl, h484]
theorem sf_234 (w : WF B a) (r : RX a u.2.1.1) (x4 : Int32) (n5 : Nat) (g6 : Nat → Int32) (kc ks : Nat) : ∀ d s n g h, s + d = a 0 0 → d < n → FSx a s g h → ∃ g' h', FSx a (a 0 0) g' h' ∧ hf_L_sights_234 mc ms n (nI (a 0 3)) (nI (a 0 0)) (nI s) x4 n5 g6 (a 0 0) g (a 0 0) h u kc ks = hf_L_sights_515 mc ms vF (nI (a 0 3)) (nI (a 0 0)) 0 x4 n5 g6 (a 0 0) g' (a 0 0) h' u kc ks := by
  have hn := wf_n w
  have h10 := wf_l w
  intro d
  induction d with
  | zero =>
    intro s n g h hs hd hF
    obtain ⟨n, rfl⟩ : ∃ i, n = i + 1 := ⟨n - 1, by omega⟩
    have e : s = a 0 0 := by omega
    subst e
    refine ⟨g, h, hF, ?_⟩
    rw [hf_L_sights_234, if_pos (nI_le (by omega) (by omega))]
  | succ d ih =>
    intro s n g h hs hd hF
    obtain ⟨n, rfl⟩ : ∃ i, n = i + 1 := ⟨n - 1, by omega⟩
    have hs2 : s < a 0 0 := by omega
    have e0 : nI (a 0 3) - (1 : Int32) = iI (((a 0 3 : Nat) : Int) - 1) := by rw [l32_1, nI_iI, nI_iI, iI_sub]; rfl
    have e1 : cntS a s - sumN (a 0 3) (fun k => if a 5 k = s then 1 else 0) = 0 := Nat.sub_self _
    obtain ⟨seen, x, p1, m, p2⟩ := sf_291 (mc := mc) (ms := ms) w r hs2 (fun c0 c1 c2 c3 c4 c5 c6 c7 c8 c9 c10 c11 c12 => hf_L_sights_234 mc ms n c0 c1 c2 c3 c4 c5 c6 c7 c8 c9 c10 c11 c12) (nI (a 0 0)) (nI (cntS a s)) x4 n5 g6 (a 0 0) g (a 0 0) h kc ks (a 0 3) 0 vF 0 FP.fconst0 (by omega) (by unfold vF; omega) (Or.inl ⟨rfl, rfl, fun j hj => absurd hj (Nat.not_lt_zero j)⟩)
    have h252 := sf_252 (mc := mc) (ms := ms) w r hs2 (fun c0 c1 c2 c3 c4 c5 c6 c7 c8 c9 c10 c11 c12 => hf_L_sights_234 mc ms n c0 c1 c2 c3 c4 c5 c6 c7 c8 c9 c10 c11 c12) (nI (a 0 3)) (nI (a 0 0)) FP.fconst0 x4 n5 g6 (a 0 0) g (a 0 0) h kc ks (a 0 3) vF (Nat.le_refl _) (by unfold vF; omega)
    rw [e1] at h252
    obtain ⟨q1, q2, q3, q4⟩ := sp_zero w p1
    obtain ⟨h', f1, f2⟩ := sf_391 (mc := mc) (ms := ms) w r hs2 (sp_fix w p1) hF
    obtain ⟨g2, h2, y1, y2⟩ := ih (s + 1) n _ h' (by omega) (by omega) f1
    have hin : ¬ (nI s < 0 ∨ a 0 0 ≤ Int32.toNatClampNeg (nI s)) := nI_in hs2 (by omega)
    have hcs : Int32.toNatClampNeg (nI s) = s := nI_clamp (by omega)
    refine ⟨g2, h2, y1, ?_⟩
    rw [hf_L_sights_234, if_neg (nI_ge hs2 (by omega)), bdE, bdE, e0]
    refine Eq.trans h252 (Eq.trans p2 ?_)
    rw [hf_L_sights_291, if_pos (nI_le (Nat.le_refl _) (by omega)), if_pos q4, if_neg hin, bdE, hcs]
    refine Eq.trans (f2 _ _ _ _ _ _ _ _) ?_
    exact y2
end
