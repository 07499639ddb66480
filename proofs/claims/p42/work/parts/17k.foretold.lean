/-! FORETOLD: the hours as they were told; restored -/
theorem pIt_row (a : mA) (k i : Nat) (hi : i < a 0 0) : pIt (k + 1) a 2 i = pIt k a 2 i - 1 := by
  have h := (pIt_is a k).1
  show passM (pIt k a) 2 i = _
  show (if i < pIt k a 0 0 then pIt k a 2 i - 1 else pIt k a 2 i) = _
  rw [if_pos (by omega)]
theorem pIt_drunk (a : mA) : ∀ k, a 0 6 ≤ pIt k a 0 6
  | 0 => Nat.le_refl _
  | k + 1 => by
    have h := pIt_drunk a k
    show a 0 6 ≤ pIt k a 0 6 + sumN (pIt k a 0 0) (fun i => if 0 < pIt k a 2 i then 1 else 0)
    omega
theorem pIt_ci {B : Nat} {a : mA} (c : CI B a) : ∀ k, CI B (pIt k a)
  | 0 => c
  | k + 1 => ci_pass (pIt_ci c k)
/-- the object while hours pass, with the saved ship -/
def FZ (B : Nat) (a b : mA) (u0 u : vZ) : Prop := WF B a ∧ CI B a ∧ RX a u.2.1.1 ∧ (∃ n hs, RHc n hs u.2.1.2) ∧ u.1 = u0.1 ∧ u.2.2 = u0.2.2
theorem fz_hour {B : Nat} {a b : mA} {u0 u : vZ} (hB : B + 1 < 1000000000) (F : FZ B a b u0 u) : ∃ u', fX7_hour u = some (nI (sumN (a 0 0) (fun i => a 2 i - 1)), u') ∧ FZ (B + 1) (passM a) b u0 u' := by
  obtain ⟨w, c, r, ⟨n, hs, R⟩, e1, e2⟩ := F
  obtain ⟨w', c', hk, hx, hg⟩ := cx_9 w hB
  obtain ⟨u', p1, p2, p3, p4, p5⟩ := ch_ok (n := n) (hs := hs) w r R (hx u.2.1.1 r)
  exact ⟨u', hg u r u' p1 p2, w', c' c, p2, ⟨_, _, p3⟩, by rw [p4]; exact e1, by rw [p5]; exact e2⟩
section
variable {B : Nat} {a : mA}
theorem fo_98 {b : mA} {u0 u : vZ} {k s : Nat} (hs : s < a 0 0) (hB : B + 50 < 100000000) (w : WF B a) (hk : k < 40) (F : FZ (B + k) (pIt k a) b u0 u) {sk : Int32} {fl : Int32} (hf : (fl = 1 ∧ 0 < angA a s k) ∨ (fl = 0 ∧ (angA a s k ≤ 0 ∨ ∃ K, K < k ∧ sk = nI K))) (rec : Int32 → Int32 → Int32 → Int32 → Int32 → Int32 → Int32 → Int32 → Int32 → Int32 → Int32 → vZ → Option (Int32 × Int32 × vZ)) (x1 x3 x4 x6 x11 : Int32) : ∃ u', FZ (B + (k + 1)) (pIt (k + 1) a) b u0 u' ∧ hf_L_foretold_98 rec x1 (nI s) x3 x4 sk x6 (nI (rotN k (a 1 s))) (nI k) fl (1 : Int32) x11 u = rec x1 (1 : Int32) (nI s) x3 x4 sk (nI (sumN (a 0 0) (pIt (k + 1) a 2))) x6 (nI (rotN (k + 1) (a 1 s))) (nI (k + 1)) x11 u' := by
  have hn := wf_n w
  obtain ⟨i1, i2, i3, i4⟩ := pIt_is a k
  have hw := F.1
  have hr := F.2.2.1
  have hs2 : s < pIt k a 0 0 := by omega
  have hb := angA_b w hs (h := k)
  have hang := ang_pIt w hs k
  have hm := rotN_lt (wf_s w s hs).1 k
  have hrot : ((nI (rotN k (a 1 s)) <<< ((1 : Int32) &&& 31)) ||| (nI (rotN k (a 1 s)) >>> ((15 : Int32) &&& 31))) &&& (65535 : Int32) = nI (rotN (k + 1) (a 1 s)) := by
    rw [show (1 : Int32) = nI 1 from rfl, show (15 : Int32) = nI 15 from rfl, show (65535 : Int32) = nI 65535 from rfl, nI_shl (by omega), nI_shr (by omega) (by omega), nI_or, nI_and]
    exact congrArg nI (rot_or (t := 1) hm (by omega))
  obtain ⟨u', p1, p2⟩ := fz_hour (by omega) F
  have hsum : sumN (pIt k a 0 0) (fun i => pIt k a 2 i - 1) = sumN (a 0 0) (pIt (k + 1) a 2) := by
    rw [i1]
    exact sumN_congr (fun i hi => (pIt_row a k i hi).symm)
  rw [hsum] at p1
  have h128 : hf_L_foretold_128 rec x1 (nI s) x3 x4 sk x6 (nI (rotN k (a 1 s))) (nI k) (1 : Int32) (1 : Int32) x11 u = rec x1 (1 : Int32) (nI s) x3 x4 sk (nI (sumN (a 0 0) (pIt (k + 1) a 2))) x6 (nI (rotN (k + 1) (a 1 s))) (nI (k + 1)) x11 u' := by
    unfold hf_L_foretold_128
    rw [bdE, p1, obp_some, bdE, bdE, hrot, nI_1]
    rfl
  refine ⟨u', p2, ?_⟩
  unfold hf_L_foretold_98
  rw [z_so5 hw hr hs2, obp_some, hang]
  by_cases c : angA a s k ≤ 0
  · rw [if_pos (show iI (angA a s k) ≤ 0 from (iI_n0 (by omega) (by omega)).mpr c)]
    unfold hf_L_foretold_113
    rcases hf with ⟨z1, z2⟩ | ⟨z1, z2⟩
    · omega
    · rw [z1, if_pos rfl, h128]
  · rw [if_neg (show ¬ iI (angA a s k) ≤ 0 from fun z => c ((iI_n0 (by omega) (by omega)).mp z))]
    unfold hf_L_foretold_113
    rcases hf with ⟨z1, z2⟩ | ⟨z1, z2⟩
    · rw [z1, if_pos rfl, h128]
    · obtain ⟨K, z3, z4⟩ := z2.resolve_left c
      rw [z1, if_neg (by decide), z4, if_neg (nI_ge z3 (by omega))]
      rw [z4] at h128
      exact h128
/-- who sinks, and when -/
def SK (a : mA) (s : Nat) (sk : Int32) : Prop := (∃ K, K ≤ 40 ∧ angA a s K ≤ 0 ∧ (∀ j, j < K → 0 < angA a s j) ∧ sk = nI K) ∨ ((∀ j, j ≤ 40 → 0 < angA a s j) ∧ sk = -100006)
theorem nI_nneg {k : Nat} (h : k < 2147483648) : ¬ nI k = -100006 := fun z => by
  have := nI_neg0 h
  rw [z] at this
  exact this (by decide +kernel)
theorem fo_71 {b : mA} {u0 : vZ} {s H : Nat} (hs : s < a 0 0) (hB : B + 50 < 100000000) (w : WF B a) (hH : H ≤ 30) {sk : Int32} (hsk : SK a s sk) (x1 x11 : Int32) : ∀ d k n u, k + d = H → d < n → FZ (B + k) (pIt k a) b u0 u → ∃ u', FZ (B + H) (pIt H a) b u0 u' ∧ hf_L_foretold_71 n x1 (1 : Int32) (nI s) (nI H) (iI (angA a s H)) sk (nI (sumN (a 0 0) (pIt k a 2))) (nI (a 0 6)) (nI (rotN k (a 1 s))) (nI k) x11 u = hf_L_foretold_258 x1 (1 : Int32) x11 u' := by
  have hn := wf_n w
  intro d
  induction d with
  | zero =>
    intro k n u hk hd F
    obtain ⟨n, rfl⟩ : ∃ i, n = i + 1 := ⟨n - 1, by omega⟩
    have e : k = H := by omega
    subst e
    obtain ⟨i1, i2, i3, i4⟩ := pIt_is a k
    have hw := F.1
    have hc := F.2.1
    have hr := F.2.2.1
    have hs2 : s < pIt k a 0 0 := by omega
    have hang := ang_pIt w hs k
    have hb := angA_b w hs (h := k)
    have e5 := z_so5 hw hr hs2
    rw [hang] at e5
    have e0 := z_so0 hw hr hs2
    rw [(i4 s hs).1] at e0
    have ea := z_ac5 hw hr
    rw [i1] at ea
    have hdr := pIt_drunk a k
    have hc1 := hc.1
    rw [i1] at hc1
    have hc4 := hc.2.2.2
    have hsum : (nI (sumN (a 0 0) (pIt k a 2)) + nI (pIt k a 0 6)) + nI (pIt k a 0 7) = nI (pIt k a 0 5) := by
      rw [nJ_add, nJ_add, hc1]
    refine ⟨u, F, ?_⟩
    rw [hf_L_foretold_71, if_pos (nI_le (by omega) (by omega)), e5, obp_some, if_pos rfl, e0, obp_some, if_pos rfl, ea, obp_some, if_pos rfl, ea, obp_some, z_ac7 hr, obp_some, z_ac8 hr, obp_some, z_ac6 hr, obp_some, if_pos hsum, z_ac7 hr, obp_some, if_neg (nI_nlt hdr (by omega))]
    unfold hf_L_foretold_236
    rw [bdE]
    have h11 : (1 : Int32) &&& (1 : Int32) = 1 := by decide
    rw [h11]
    by_cases c : sk = nI k
    · have c2 : ¬ 0 < iI (angA a s k) := fun z => by
        have z2 := (iI_p0 (by omega) (by omega)).mp z
        rcases hsk with ⟨K, k1, k2, k3, k4⟩ | ⟨k1, k2⟩
        · have : K = k := (nJ_eq (by omega) (by omega)).mp (k4.symm.trans c)
          rw [this] at k2
          omega
        · exact nI_nneg (by omega) (c.symm.trans k2)
      rw [if_pos c, if_neg c2, bdE, h11]
    · rw [if_neg c, bdE, h11]
  | succ d ih =>
    intro k n u hk hd F
    obtain ⟨n, rfl⟩ : ∃ i, n = i + 1 := ⟨n - 1, by omega⟩
    have hkH : k < H := by omega
    rw [hf_L_foretold_71, if_neg (nI_ge hkH (by omega))]
    rcases hsk with ⟨K, k1, k2, k3, k4⟩ | ⟨k1, k2⟩
    · have hsk2 : SK a s sk := Or.inl ⟨K, k1, k2, k3, k4⟩
      rw [if_neg (show ¬ sk = (-100006 : Int32) from fun z => nI_nneg (k := K) (by omega) (k4.symm.trans z))]
      by_cases c : K ≤ k
      · obtain ⟨u1, q1, q2⟩ := fo_98 (b := b) (u0 := u0) hs hB w (k := k) (by omega) F (sk := sk) (fl := 0) (Or.inr ⟨rfl, by
          by_cases e : K = k
          · left
            rw [← e]
            exact k2
          · right
            exact ⟨K, by omega, k4⟩⟩) (fun c0 c1 c2 c3 c4 c5 c6 c7 c8 c9 c10 c11 => hf_L_foretold_71 n c0 c1 c2 c3 c4 c5 c6 c7 c8 c9 c10 c11) x1 (nI H) (iI (angA a s H)) (nI (a 0 6)) x11
        obtain ⟨u', f1, f2⟩ := ih (k + 1) n u1 (by omega) (by omega) q1
        refine ⟨u', f1, ?_⟩
        rw [if_pos (show sk ≤ nI k by rw [k4]; exact nI_le c (by omega)), q2]
        exact f2
      · obtain ⟨u1, q1, q2⟩ := fo_98 (b := b) (u0 := u0) hs hB w (k := k) (by omega) F (sk := sk) (fl := 1) (Or.inl ⟨rfl, k3 k (by omega)⟩) (fun c0 c1 c2 c3 c4 c5 c6 c7 c8 c9 c10 c11 => hf_L_foretold_71 n c0 c1 c2 c3 c4 c5 c6 c7 c8 c9 c10 c11) x1 (nI H) (iI (angA a s H)) (nI (a 0 6)) x11
        obtain ⟨u', f1, f2⟩ := ih (k + 1) n u1 (by omega) (by omega) q1
        refine ⟨u', f1, ?_⟩
        rw [if_neg (show ¬ sk ≤ nI k by rw [k4]; exact nI_ge (by omega) (by omega)), q2]
        exact f2
    · obtain ⟨u1, q1, q2⟩ := fo_98 (b := b) (u0 := u0) hs hB w (k := k) (by omega) F (sk := sk) (fl := 1) (Or.inl ⟨rfl, k1 k (by omega)⟩) (fun c0 c1 c2 c3 c4 c5 c6 c7 c8 c9 c10 c11 => hf_L_foretold_71 n c0 c1 c2 c3 c4 c5 c6 c7 c8 c9 c10 c11) x1 (nI H) (iI (angA a s H)) (nI (a 0 6)) x11
      obtain ⟨u', f1, f2⟩ := ih (k + 1) n u1 (by omega) (by omega) q1
      refine ⟨u', f1, ?_⟩
      rw [if_pos k2, q2]
      exact f2
/-- restored: the saved ship, and nothing to undo -/
theorem fo_258 {u : vZ} (w : WF B a) (c : CI B a) (h7 : u.1 7 = 1) (rs : RX a u.2.2.2.1) (R : ∃ n hs, RHc n hs u.2.1.2) (ht : u.2.2.2.2.2.1.1 0 1 = nI 0) (x3 : Int32) : ∃ u' hs', hf_L_foretold_258 (nI (a 0 0)) (1 : Int32) x3 u = some (1, x3, u') ∧ PZ B a 0 hs' u' := by
  obtain ⟨n, hs, hn8, h2, x, hx, h1, hR⟩ := R
  obtain ⟨d', e1, e2⟩ := xq_copy u.2.1.1 u.2.2.2.1
  have r' := e2 a (wf_n w) (wf_l w) rs
  have h70 : ¬ u.1 7 = 0 := by rw [h7]; decide
  have hres : fX7_restore u = some (nI (a 0 0), (u.1, ((d', (upd u.2.1.2.1 2 (0 : Int32), u.2.1.2.2)), u.2.2))) := by
    rw [fX7_restore, if_neg h70, e1, Option.bind_some]
    simp only [bdE]
    rw [fX2_forget]
    simp only [bdE, Option.bind_some]
    exact congrArg (fun z : Int32 => (some (z, ((u.1, ((d', (upd u.2.1.2.1 2 (0 : Int32), u.2.1.2.2)), u.2.2)) : vZ)) : Option (Int32 × vZ))) (rx_n r')
  refine ⟨(u.1, ((d', (upd u.2.1.2.1 2 (0 : Int32), u.2.1.2.2)), u.2.2)), hs, ?_, ⟨w, c, r'⟩, ⟨⟨by omega, (show upd u.2.1.2.1 2 (0 : Int32) 2 = nI 0 from pk_us), x, hx, ?_, fun j hj => absurd hj (Nat.not_lt_zero j)⟩, fun j hj => absurd hj (Nat.not_lt_zero j)⟩, ht⟩
  · unfold hf_L_foretold_258
    rw [hres, obp_some, if_pos rfl, if_neg k_10]
  · show upd u.2.1.2.1 2 (0 : Int32) 1 = nI x
    rw [upd_ne (by omega)]
    exact h1
theorem foretold_spec {n : Nat} {hs : Nat → mA} {u : vZ} (hB : B + 50 < 100000000) (P : PZ B a n hs u) (b : Int32) : ∃ b' u' hs', hf_L_foretold b u = some (1, b', u') ∧ PZ B a 0 hs' u' := by
  obtain ⟨⟨w, c, r⟩, ⟨R, hw⟩, ht⟩ := P
  have hn := wf_n w
  obtain ⟨d', e1, e2⟩ := xq_copy u.2.2.2.1 u.2.1.1
  have rs := e2 a (wf_n w) (wf_l w) r
  obtain ⟨u1, hu1⟩ : ∃ x : vZ, x = (upd u.1 7 (1 : Int32), (u.2.1, (u.2.2.1, (d', u.2.2.2.2)))) := ⟨_, rfl⟩
  have hsave : fX7_save u = some (nI (a 0 0), u1) := by
    rw [fX7_save, e1, Option.bind_some, hu1]
    simp only [bdE]
    exact congrArg (fun z : Int32 => (some (z, ((upd u.1 7 (1 : Int32), (u.2.1, (u.2.2.1, (d', u.2.2.2.2)))) : vZ)) : Option (Int32 × vZ))) (rx_n r)
  have q1 : u1.2.1 = u.2.1 := by rw [hu1]
  have q2 : u1.1 7 = 1 := by rw [hu1]; exact (show upd u.1 7 (1 : Int32) 7 = 1 from pk_us)
  have q3 : u1.2.2.2.1 = d' := by rw [hu1]
  have q4 : u1.2.2.2.2 = u.2.2.2.2 := by rw [hu1]
  have r1 : RX a u1.2.1.1 := by rw [q1]; exact r
  have R1 : RHc n hs u1.2.1.2 := by rw [q1]; exact R
  unfold hf_L_foretold
  rw [hsave, obp_some]
  by_cases h0 : a 0 0 = 0
  · obtain ⟨u', hs', p1, p2⟩ := fo_258 (u := u1) w c q2 (by rw [q3]; exact rs) ⟨n, hs, R1⟩ (by rw [q4]; exact ht) b
    refine ⟨b, u', hs', ?_, p2⟩
    rw [if_pos (show nI (a 0 0) ≤ 0 by rw [h0]; decide)]
    exact p1
  · obtain ⟨s, b1, hs1, g1⟩ := nx (m := a 0 0) (by omega) (by omega) b
    obtain ⟨H, b2, hH, g2⟩ := nx (m := 7) (by omega) (by omega) b1
    have g2' : hf_X8_next (7 : Int32) b1 = some (nI H, b2) := g2
    have hwd := z_wd w r1 hs1 (h := H) (by omega)
    have hsk : ∃ sk, SK a s sk ∧ fX7_sinks (nI s) u1 = some (sk, u1) := by
      rcases z_sk w r1 hs1 with ⟨K, k1, k2, k3, k4⟩ | ⟨k1, k2⟩
      · exact ⟨nI K, Or.inl ⟨K, k1, k2, k3, rfl⟩, k4⟩
      · exact ⟨-100006, Or.inr ⟨k1, rfl⟩, k2⟩
    obtain ⟨sk, s1, s2⟩ := hsk
    obtain ⟨u2, f1, f2⟩ := fo_71 (b := a) (u0 := u1) hs1 hB w (H := H) (by omega) s1 (nI (a 0 0)) b2 H 0 vF u1 (by omega) (by unfold vF; omega) ⟨w, c, r1, ⟨n, hs, R1⟩, rfl, rfl⟩
    obtain ⟨y1, y2, y3, y4, y5, y6⟩ := f1
    obtain ⟨u', hs', p1, p2⟩ := fo_258 (u := u2) w c (by rw [y5]; exact q2) (by rw [y6, q3]; exact rs) y4 (by rw [y6, q4]; exact ht) b2
    refine ⟨b2, u', hs', ?_, p2⟩
    rw [if_neg (nI_nle (by omega) (by omega)), g1, Option.bind_some]
    simp only [bdE]
    rw [g2', Option.bind_some]
    simp only [bdE]
    rw [hwd, obp_some, s2, obp_some, z_ac5 w r1, obp_some, z_ac7 r1, obp_some, z_so0 w r1 hs1, obp_some]
    exact f2.trans p1
end
