/-! SIGHTS: the log's order, and the log as a line -/
/-- which sight stood one place higher -/
def LLo (a : mA) (k : Nat) (last : Int32) : Prop := (k = 0 ∧ last = -1) ∨ ∃ q, q < a 0 3 ∧ plL a q + 1 = k ∧ last = nI q
theorem nI_nz {k : Nat} (h : ¬ k = 0) (h2 : k < 2147483648) : ¬ nI k = 0 := fun z => h ((nJ_eq (b := 0) h2 (by omega)).mp z)
theorem tt_b (x : UInt32) : Int32.toUInt32 (UInt32.toInt32 x) = x := rfl
section
variable {B : Nat} {a : mA} {u : vZ}
theorem sg_103 (w : WF B a) (r : RX a u.2.1.1) {k : Nat} (hk : k < a 0 3) {x2 x4 : Int32} {x5 : UInt32} (h1 : ¬ Op.cmpValue (FP.fcmp x5 FP.fconst0) CmpOp.g < 0) (h2 : Op.cmpValue (FP.fcmp x5 FP.fconst0) CmpOp.l = 0 → ¬ x4 < x2) (mc ms : Nat) (rec : Int32 → Int32 → Int32 → Int32 → Nat → (Nat → Int32) → vZ → Nat → Nat → Option (Int32 × vZ)) (x1 x6 : Int32) (n7 : Nat) (g8 : Nat → Int32) (kc ks : Nat) : hf_L_sights_103 mc ms rec x1 x2 (nI k) x4 x5 x6 n7 g8 u kc ks = rec x1 x4 (nI (k + 1)) x6 n7 g8 u kc ks := by
  have hn := wf_n w
  have hl := wf_l w
  have hg := wf_g w k hk
  have hh := wf_h w
  have h156 : hf_L_sights_156 mc ms rec x1 (nI k) x4 (1 : Int32) x6 n7 g8 u kc ks = rec x1 x4 (nI (k + 1)) x6 n7 g8 u kc ks := by
    unfold hf_L_sights_156
    rw [if_neg (by decide), z_si0 w r hk, obp_some, if_neg (nI_neg0 (by omega)), z_si0 w r hk, obp_some, z_ac0 r, obp_some, if_neg (nI_ge hg.1 (by omega)), z_si1 w r hk, obp_some, z_ac1 r, obp_some, if_pos (nI_le hg.2.1 (by omega)), bdE, nI_1]
  have h134 : hf_L_sights_134 mc ms rec x1 x2 (nI k) x4 x5 (1 : Int32) x6 n7 g8 u kc ks = rec x1 x4 (nI (k + 1)) x6 n7 g8 u kc ks := by
    unfold hf_L_sights_134
    rw [if_neg h1]
    by_cases c : Op.cmpValue (FP.fcmp x5 FP.fconst0) CmpOp.l = 0
    · rw [if_pos c, if_neg (h2 c), h156]
    · rw [if_neg c, h156]
  unfold hf_L_sights_103
  by_cases h0 : k = 0
  · rw [if_pos (show nI k = 0 by rw [h0]; rfl), h134]
  · have ho := wf_o w (k - 1) (by omega)
    rw [show k - 1 + 1 = k by omega] at ho
    have hg2 := wf_g w (k - 1) (by omega)
    have ek : nI k - (1 : Int32) = nI (k - 1) := by rw [l32_1, nI_sub (by omega)]
    rw [if_neg (nI_nz h0 (by omega)), z_si1 w r hk, obp_some, ek, z_si1 w r (k := k - 1) (by omega), obp_some, if_neg (nI_nlt ho (by omega)), h134]
theorem sg_38 (w : WF B a) (hB : B < 100) (r : RX a u.2.1.1) {k : Nat} (hk : k < a 0 3) {last : Int32} (hl : LLo a k last) {mc ms kb sb kc ks n ki : Nat} {g : Nat → Int32} {T : List Nat} (hki : ki < 3) (h : sbT T n g) (hT : T.length ≤ 50) (hb : bOk kb sb kc ks n) (hm : kb + 15 ≤ mc) (hs : sb + 400 ≤ ms) : ∃ p n' g' kc' ks', p < a 0 3 ∧ plL a p = k ∧ sbT (T ++ kT ki ++ iT (a 5 k : Int) ++ [58] ++ iT (a 6 k : Int)) n' g' ∧ bOk kb sb kc' ks' n' ∧ ∀ rec, hf_L_sights_38 mc ms rec (nI (a 0 3)) last (nI k) ki (nI T.length) n g u kc ks = rec (nI (a 0 3)) (nI p) (nI (k + 1)) (nI (T ++ kT ki ++ iT (a 5 k : Int) ++ [58] ++ iT (a 6 k : Int)).length) n' g' u kc' ks' := by
  have hn := wf_n w
  have h10 := wf_l w
  have hg := wf_g w k hk
  have hh := w.1
  have l1 := iT_d (z := (a 5 k : Int)) (by omega) (by omega)
  have l2 := iT_u (z := (a 6 k : Int)) (by omega) (by omega)
  have k3 : (kT ki).length ≤ 1 := by
    unfold kT
    split
    · exact Nat.le_refl 1
    · split <;> simp
  obtain ⟨n1, g1, e1, s1, b1⟩ := c_k (mc := mc) (ms := ms) h hki hb (by omega) (by omega) (by omega)
  obtain ⟨n2, g2, e2, s2, b2⟩ := c_int (mc := mc) (ms := ms) (z := (a 5 k : Int)) s1 (by omega) (by omega) b1 (by simp only [List.length_append]; omega) (by omega) (by simp only [List.length_append]; omega)
  obtain ⟨n3, g3, e3, s3, b3⟩ := c_char (mc := mc) (ms := ms) (c := 58) s2 (by omega) b2 (by simp only [List.length_append]; omega) (by omega) (by simp only [List.length_append]; omega)
  obtain ⟨n4, g4, e4, s4, b4⟩ := c_int (mc := mc) (ms := ms) (z := (a 6 k : Int)) s3 (by omega) (by omega) b3 (by simp only [List.length_append, List.length_singleton]; omega) (by omega) (by simp only [List.length_append, List.length_singleton]; omega)
  obtain ⟨p, p1, p2, p3⟩ := z_rank w hk
  have z0i : fX7_sightOf (nI k) (0 : Int32) u = some (iI ((a 5 k : Nat) : Int), u) := (z_si0 w r hk).trans (by rw [nI_iI])
  have z1i : fX7_sightOf (nI k) (1 : Int32) u = some (iI ((a 6 k : Nat) : Int), u) := (z_si1 w r hk).trans (by rw [nI_iI])
  refine ⟨p, n4, g4, _, _, p1, p2, s4, b4, fun rec => ?_⟩
  unfold hf_L_sights_38
  simp only [bdE]
  refine (e1 _).trans ?_
  dsimp only
  rw [z0i, obp_some]
  refine (e2 _).trans ?_
  dsimp only
  refine (e3 _).trans ?_
  dsimp only
  rw [z1i, obp_some]
  refine (e4 _).trans ?_
  dsimp only
  rw [p3 u r, obp_some]
  rcases hl with ⟨e, rfl⟩ | ⟨q, hq, e, rfl⟩
  · rw [if_neg (by decide +kernel), sg_103 w r hk f1_zero.1 (fun z => absurd z f1_zero.2)]
  · have hqp : shP a q p := pll_hi w hq p1 (by omega)
    have hs2 := (sh_iff w hq p1).mp hqp
    have y1 := (wf_g w q hq).2.2
    have y2 := (wf_g w p p1).2.2
    obtain ⟨v1, -⟩ := fep_all (a 7 q) (a 7 p) y1 y2
    obtain ⟨v2, v3, v4⟩ := fdE_all (a 7 q + 87 - a 7 p) (by omega)
    have n1 := (fe_ok _ y1).2.1
    have n2 := (fe_ok _ y2).2.1
    rw [if_pos (nI_pos' (by omega)), z_si2 w r hq, obp_some, if_pos n1, z_si2 w r p1, obp_some, if_pos n2, tt_b, tt_b, v1, if_pos v2, sg_103 w r hk (v3 (by omega)) (fun z => ?_)]
    have := v4 z
    exact nI_nlt (by omega) (by omega)
theorem sg_loop (w : WF B a) (hB : B < 100) {mc ms : Nat} (hm : 100 ≤ mc) (hs : 1000 ≤ ms) : ∀ d k n (last : Int32) n5 g kc ks, RX a u.2.1.1 → k + d = a 0 3 → d < n → LLo a k last → sbT (logT a k) n5 g → bOk 2 20 kc ks n5 → ∃ n' g' kc' ks', sbT (logT a (a 0 3)) n' g' ∧ bOk 4 40 kc' ks' n' ∧ hf_L_sights_19 mc ms n (nI (a 0 3)) last (nI k) (nI (logT a k).length) n5 g u kc ks = hf_L_sights_234 mc ms vF (nI (a 0 3)) (nI (a 0 0)) 0 (nI (logT a (a 0 3)).length) n' g' (a 0 0) (fun _ => 0) (a 0 0) (fun _ => 0) u kc' ks' := by
  have hn := wf_n w
  have hl10 := wf_l w
  intro d
  induction d with
  | zero =>
    intro k n last n5 g kc ks r hk hd hl h hb
    obtain ⟨n, rfl⟩ : ∃ j, n = j + 1 := ⟨n - 1, by omega⟩
    have e : k = a 0 3 := by omega
    subst e
    have hll := logT_len w hB (a 0 3) (Nat.le_refl _)
    have hn5 := h.2.1
    have hlg := lg_le (n := n5) (by omega)
    have b1 := hb.1
    have b2 := hb.2
    have hc : ¬ (nI (a 0 0) < 0 ∨ 100000 < a 0 0) := fun z => by
      rcases z with z | z
      · exact nI_neg0 (by omega) z
      · omega
    refine ⟨n5, g, kc + 1 + 1, ks + a 0 0 + a 0 0, h, ⟨by omega, by omega⟩, ?_⟩
    rw [hf_L_sights_19, if_pos (nI_le (by omega) (by omega)), z_ac0 r, obp_some]
    simp only [bdE]
    rw [nI_clamp (n := a 0 0) (by omega), if_neg hc, if_pos (by omega), if_neg hc, if_pos (by omega)]
  | succ d ih =>
    intro k n last n5 g kc ks r hk hd hl h hb
    obtain ⟨n, rfl⟩ : ∃ j, n = j + 1 := ⟨n - 1, by omega⟩
    have hll := logT_len w hB k (by omega)
    have hk3 : k < a 0 3 := by omega
    by_cases h0 : k = 0
    · obtain ⟨p, n', g', kc', ks', p1, p2, p3, p4, p5⟩ := sg_38 w hB r hk3 hl (ki := 1) (mc := mc) (ms := ms) (by omega) h (by omega) hb (by omega) (by omega)
      have e : logT a k ++ kT 1 ++ iT (a 5 k : Int) ++ [58] ++ iT (a 6 k : Int) = logT a (k + 1) := by
        rw [logT, if_pos h0, show kT 1 = [] from rfl]
        simp only [List.append_assoc, List.nil_append]
      rw [e] at p3 p5
      obtain ⟨n2, g2, kc2, ks2, q1, q2, q3⟩ := ih (k + 1) n (nI p) n' g' kc' ks' r (by omega) (by omega) (Or.inr ⟨p, p1, by omega, rfl⟩) p3 p4
      refine ⟨n2, g2, kc2, ks2, q1, q2, ?_⟩
      rw [hf_L_sights_19, if_neg (nI_ge hk3 (by omega)), if_pos (show nI k = 0 by rw [h0]; rfl), p5]
      exact q3
    · obtain ⟨p, n', g', kc', ks', p1, p2, p3, p4, p5⟩ := sg_38 w hB r hk3 hl (ki := 2) (mc := mc) (ms := ms) (by omega) h (by omega) hb (by omega) (by omega)
      have e : logT a k ++ kT 2 ++ iT (a 5 k : Int) ++ [58] ++ iT (a 6 k : Int) = logT a (k + 1) := by
        rw [logT, if_neg h0, show kT 2 = [32] from rfl]
        simp only [List.append_assoc]
      rw [e] at p3 p5
      obtain ⟨n2, g2, kc2, ks2, q1, q2, q3⟩ := ih (k + 1) n (nI p) n' g' kc' ks' r (by omega) (by omega) (Or.inr ⟨p, p1, by omega, rfl⟩) p3 p4
      refine ⟨n2, g2, kc2, ks2, q1, q2, ?_⟩
      rw [hf_L_sights_19, if_neg (nI_ge hk3 (by omega)), if_neg (nI_nz h0 (by omega)), p5]
      exact q3
end
