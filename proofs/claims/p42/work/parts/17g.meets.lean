/-! SIGHTS: who meets; the end -/
section
variable {B : Nat} {a : mA} {mc ms : Nat}
theorem sm_585 {u : vZ} {k : Nat} {x4 x5 y : Int32} (h : fX7_meet x4 x5 u = some (y, u)) (rec : Int32 → Int32 → Int32 → Int32 → Nat → (Nat → Int32) → Nat → (Nat → UInt32) → Nat → (Nat → Int32) → vZ → Nat → Nat → Option (Int32 × vZ)) (x1 x2 x7 : Int32) (n8 : Nat) (g9 : Nat → Int32) (n10 : Nat) (g11 : Nat → UInt32) (n12 : Nat) (g13 : Nat → Int32) (kc ks : Nat) : hf_L_sights_585 mc ms rec x1 x2 (nI k) x4 x5 y x7 n8 g9 n10 g11 n12 g13 u kc ks = rec x1 x2 (nI (k + 1)) x7 n8 g9 n10 g11 n12 g13 u kc ks := by
  unfold hf_L_sights_585
  rw [h, obp_some, if_pos rfl, bdE, nI_1]
theorem sm_step {u : vZ} (w : WF B a) (r : RX a u.2.1.1) {k : Nat} (hk : k < a 0 0 * a 0 0) {g : Nat → UInt32} {h : Nat → Int32} (hF : FSx a (a 0 0) g h) (x4 : Int32) (n5 : Nat) (g6 : Nat → Int32) (kc ks n : Nat) : hf_L_sights_515 mc ms (n + 1) (nI (a 0 3)) (nI (a 0 0)) (nI k) x4 n5 g6 (a 0 0) g (a 0 0) h u kc ks = hf_L_sights_515 mc ms n (nI (a 0 3)) (nI (a 0 0)) (nI (k + 1)) x4 n5 g6 (a 0 0) g (a 0 0) h u kc ks := by
  have hn := wf_n w
  have h64 : a 0 0 * a 0 0 ≤ 64 := Nat.mul_le_mul hn hn
  have hpos : 0 < a 0 0 := by
    rcases Nat.eq_zero_or_pos (a 0 0) with z | z
    · rw [z] at hk; omega
    · exact z
  have ho : k / a 0 0 < a 0 0 := Nat.div_lt_of_lt_mul hk
  have hp : k % a 0 0 < a 0 0 := Nat.mod_lt _ hpos
  generalize ho2 : k / a 0 0 = o at ho
  generalize hp2 : k % a 0 0 = p at hp
  have hn0 : ¬ nI (a 0 0) = 0 := fun z => by
    have := (nJ_eq (b := 0) (by omega) (by omega)).mp z
    omega
  have io : ¬ (nI o < 0 ∨ a 0 0 ≤ Int32.toNatClampNeg (nI o)) := nI_in ho (by omega)
  have ip : ¬ (nI p < 0 ∨ a 0 0 ≤ Int32.toNatClampNeg (nI p)) := nI_in hp (by omega)
  have co : Int32.toNatClampNeg (nI o) = o := nI_clamp (by omega)
  have cp : Int32.toNatClampNeg (nI p) = p := nI_clamp (by omega)
  have io2 : ¬ (nI o < 0 ∨ a 0 0 ≤ o) := fun z => io (by rw [co]; exact z)
  have ip2 : ¬ (nI p < 0 ∨ a 0 0 ≤ p) := fun z => ip (by rw [cp]; exact z)
  rw [hf_L_sights_515, nI_mul, if_neg (nI_ge hk (by omega)), if_neg hn0, bdE, if_neg hn0, bdE, nI_mod (by omega) (by omega), nI_div (by omega) (by omega), ho2, hp2, if_neg io, co]
  rcases hF o ho with ⟨q1, q2⟩ | ⟨q1, q2, k1, k2, q3, q4⟩
  · rw [q2, if_pos rfl, sm_585 (z_mtN w r ho hp (Or.inl q1))]
  · rw [q2, if_neg k_10, if_neg ip, cp]
    rcases hF p hp with ⟨t1, t2⟩ | ⟨t1, t2, j1, j2, t3, t4⟩
    · rw [t2, if_pos rfl, sm_585 (z_mtN w r ho hp (Or.inr t1))]
    · have v1 := (z_fx w r ho q1 q3).2.2
      have v2 := (z_fx w r hp t1 t3).2.2
      have hm := z_mt w r ho hp q1 t1 q3 t3
      obtain ⟨m1, m2⟩ := mt_abs v1 v2
      rw [t2, if_neg k_10, if_neg io2, if_neg ip2, q4, t4, if_pos m1, if_pos m1]
      by_cases c : 0 ≤ Op.cmpValue (FP.fcmp (FP.fsub (fs (a 7 k1 + a 7 k2)) (fs (a 7 j1 + a 7 j2)) &&& 0x7fffffff) (1056964608 : UInt32)) CmpOp.g
      · rw [if_pos c] at m2
        rw [m2] at hm
        rw [if_pos c, sm_585 hm]
      · rw [if_neg c] at m2
        rw [m2] at hm
        rw [if_neg c, sm_585 hm]
theorem sm_loop {u : vZ} (w : WF B a) (c : CI B a) (hB : B < 100) (r : RX a u.2.1.1) {g : Nat → UInt32} {h : Nat → Int32} (hF : FSx a (a 0 0) g h) {n5 : Nat} {g6 : Nat → Int32} (hb : sbT (logT a (a 0 3)) n5 g6) {kc ks : Nat} (hm : kc + 22 ≤ mc) (hs : ks + 700 ≤ ms) : ∀ d k n, k + d = a 0 0 * a 0 0 → d < n → ∃ l', hf_L_sights_515 mc ms n (nI (a 0 3)) (nI (a 0 0)) (nI k) (nI (logT a (a 0 3)).length) n5 g6 (a 0 0) g (a 0 0) h u kc ks = some (1, wLine u l') := by
  have hn := wf_n w
  have h10 := wf_l w
  have h64 : a 0 0 * a 0 0 ≤ 64 := Nat.mul_le_mul hn hn
  intro d
  induction d with
  | zero =>
    intro k n hk hd
    obtain ⟨n, rfl⟩ : ∃ i, n = i + 1 := ⟨n - 1, by omega⟩
    have c1 := c.2.1
    have c2 := c.2.2.1
    have hll := logT_len w hB (a 0 3) (Nat.le_refl _)
    obtain ⟨l1, q1, q2⟩ := z_writeLog w hB r
    obtain ⟨f0, p1, p2⟩ := li_spec (u := wLine u l1) (mc := 20) (ms := 600) q2 rfl (chs_log a _) (by omega) (by omega) (by omega)
    obtain ⟨f, e1, e2⟩ := ts_spec hb (by omega)
    have heq := told_eq p2 e2 (by omega)
    have hcl : Int32.toNatClampNeg (nI (logT a (a 0 3)).length) = (logT a (a 0 3)).length := nI_clamp (by omega)
    rw [hcl] at e1
    have r1 : RX a (wLine u l1).2.1.1 := r
    refine ⟨l1, ?_⟩
    rw [hf_L_sights_515, nI_mul, if_pos (nI_le (by omega) (by omega)), if_neg (show ¬ (10 : Int32) < nI (a 0 3) from nI_nlt (a := 10) h10 (by omega)), z_ac4 r, obp_some, if_neg (nI_nlt c1 (by omega)), q1, obp_some, if_pos (by omega), p1]
    simp only [Option.bind_some, bdE]
    rw [hcl, if_pos (by omega), e1]
    simp only [Option.bind_some]
    rw [heq]
    simp only [Option.bind_some]
    rw [if_neg k_10, z_rankN w r1, obp_some, if_pos rfl, z_siN w r1, obp_some, if_pos rfl, z_mt0 w r1, obp_some, if_pos rfl, z_fxO w r1, obp_some, if_pos rfl]
  | succ d ih =>
    intro k n hk hd
    obtain ⟨n, rfl⟩ : ∃ i, n = i + 1 := ⟨n - 1, by omega⟩
    rw [sm_step w r (by omega) hF]
    exact ih (k + 1) n (by omega) (by omega)
theorem sights_spec {u : vZ} (w : WF B a) (c : CI B a) (hB : B < 100) (r : RX a u.2.1.1) : ∃ l', hf_L_sights 1000 10000 u = some (1, wLine u l') := by
  have hn := wf_n w
  have h10 := wf_l w
  have h64 : a 0 0 * a 0 0 ≤ 64 := Nat.mul_le_mul hn hn
  have hll := logT_len w hB (a 0 3) (Nat.le_refl _)
  have hb0 : bOk 2 20 (0 + 1 + 1) (0 + 4 + 16) 16 := ⟨by omega, by omega⟩
  obtain ⟨n', g', kc, ks, q1, q2, q3⟩ := sg_loop (mc := 1000) (ms := 10000) w hB (by omega) (by omega) (a 0 3) 0 vF (-1) 16 (fun _ => 0) (0 + 1 + 1) (0 + 4 + 16) r (by omega) (by unfold vF; omega) (Or.inl ⟨rfl, rfl⟩) in_0.2 hb0
  obtain ⟨g2, h2, y1, y2⟩ := sf_234 (mc := 1000) (ms := 10000) w r (nI (logT a (a 0 3)).length) n' g' kc ks (a 0 0) 0 vF (fun _ => 0) (fun _ => 0) (by omega) (by unfold vF; omega) (fun j hj => absurd hj (Nat.not_lt_zero j))
  have hn2 := q1.2.1
  have hlg := lg_le (n := n') (by omega)
  have b1 := q2.1
  have b2 := q2.2
  obtain ⟨l', z⟩ := sm_loop (mc := 1000) (ms := 10000) w c hB r y1 q1 (kc := kc) (ks := ks) (by omega) (by omega) (a 0 0 * a 0 0) 0 vF (by omega) (by unfold vF; omega)
  refine ⟨l', ?_⟩
  unfold hf_L_sights
  rw [z_ac3 r, obp_some]
  simp only [bdE]
  rw [if_pos (by omega), if_pos (by omega), in_0.1]
  simp only [Option.bind_some]
  exact Eq.trans q3 (Eq.trans y2 z)
end
