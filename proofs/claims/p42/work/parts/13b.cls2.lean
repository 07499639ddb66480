theorem loop_ft {R : Type} {F : Nat → Nat → Option R} (i N : Nat) {r : Option R} (hiN : i ≤ N) (hN : N < 1000) (hs : ∀ n k, i ≤ k → k < N → F (n + 1) k = F n (k + 1)) (he : ∀ n, F (n + 1) N = r) : F vF i = r := by
  have h : ∀ d k n, k + d = N → d < n → i ≤ k → F n k = r := by
    intro d
    induction d with
    | zero =>
      intro k n h1 h2 h3
      obtain ⟨n, rfl⟩ : ∃ m, n = m + 1 := ⟨n - 1, by omega⟩
      have : k = N := by omega
      subst this
      exact he n
    | succ d ih =>
      intro k n h1 h2 h3
      obtain ⟨n, rfl⟩ : ∃ m, n = m + 1 := ⟨n - 1, by omega⟩
      rw [hs n k h3 (by omega)]
      exact ih (k + 1) n (by omega) (by omega) (by omega)
  exact h (N - i) i vF (by omega) (by unfold vF; omega) (Nat.le_refl i)
theorem nI_shr2 {a k : Nat} (ha : a < 2147483648) (hk : k < 32) : nI a >>> nI (k &&& 31) = nI (a >>> k) := by
  have h := nI_shr ha hk
  have e31 : (31 : Int32) = nI 31 := rfl
  rw [e31, nI_and] at h
  exact h
theorem nI_shl2 {a k : Nat} (hk : k < 32) : nI a <<< nI (k &&& 31) = nI (a <<< k) := by
  have h := nI_shl (a := a) hk
  have e31 : (31 : Int32) = nI 31 := rfl
  rw [e31, nI_and] at h
  exact h
theorem fm {a b : Nat} (hb : 0 < b) (ha : a < 2147483648) (hb2 : b < 2147483648) : fJ9_floorMod_7cf53 (nI a) (nI b) = some (nI (a % b)) := by
  have h2 : a ^^^ b < 2147483648 := Nat.xor_lt_two_pow (n := 31) ha hb2
  have h3 : a % b < b := Nat.mod_lt a hb
  simp (disch := omega) only [fJ9_floorMod_7cf53, nI_mod, lits, nJ_le, nJ_lt, nJ_eq, nJ_clamp, nJ_add, nI_mul, nI_sub, nI_and, nI_or, nI_xor, Nat.add_zero, Nat.not_lt_zero, leF, leT, ltF, ltT, eqF, eqT, bd, obp_some, Option.bind_some, reduceIte, reduceCtorEq, or_self, or_true, true_or, or_false, false_or]
theorem fd {a b : Nat} (hb : 0 < b) (ha : a < 2147483648) (hb2 : b < 2147483648) : fJ9_floorDiv_7cf53 (nI a) (nI b) = some (nI (a / b)) := by
  have h2 : a ^^^ b < 2147483648 := Nat.xor_lt_two_pow (n := 31) ha hb2
  simp (disch := omega) only [fJ9_floorDiv_7cf53, nI_div, lits, nJ_le, nJ_lt, nJ_eq, nJ_clamp, nJ_add, nI_mul, nI_sub, nI_and, nI_or, nI_xor, Nat.add_zero, Nat.not_lt_zero, leF, leT, ltF, ltT, eqF, eqT, bd, obp_some, Option.bind_some, reduceIte, reduceCtorEq, or_self, or_true, true_or, or_false, false_or]
theorem fmax {c h : Nat} (hc : c < 2147483648) (hh : h < 2147483648) : fJ9_max_7cf53 (nI 0) (nI c - nI h) = some (nI (c - h)) := by
  by_cases e : h ≤ c
  · rw [nI_sub e]
    unfold fJ9_max_7cf53
    by_cases e2 : c - h = 0
    · rw [e2]
      rfl
    · rw [if_pos ((nJ_lt (by omega) (by omega)).mpr (by omega))]
  · have e1 : nI c - nI h = iI ((c : Int) - (h : Int)) := by rw [nI_iI, nI_iI, iI_sub]
    have e2 : nI 0 = iI 0 := rfl
    unfold fJ9_max_7cf53
    rw [e1, e2, if_neg]
    · have : c - h = 0 := by omega
      rw [this]
      rfl
    · rw [iI_lt (by omega) (by omega) (by omega) (by omega)]
      omega
theorem xq_turned {m h : Nat} (hm : m < 65536) (hh : h < 2147483648) : fX5_turned (nI m) (nI h) = some (nI (rotN h m)) := by
  have h3 : h % 16 < 16 := Nat.mod_lt h (by omega)
  rw [← rotN_mod hm h, ← rot_or hm h3]
  simp (disch := omega) only [fX5_turned, lits, fm, Option.bind_some, nI_sub, nI_and, nI_shl2, nI_shr2, nI_or]
theorem xq_cheer {m : Nat} (hm : m < 65536) : fX5_cheerIn (nI m) = some (nI (chr m)) := by
  have h : m &&& 255 ≤ 255 := Nat.and_le_right
  simp (disch := omega) only [fX5_cheerIn, lits, nI_and, jbits, Option.bind_some, chr]
theorem xq_dread {m : Nat} (hm : m < 65536) : fX5_dreadIn (nI m) = some (nI (drd m)) := by
  have h : m &&& 65280 ≤ 65280 := Nat.and_le_right
  simp (disch := omega) only [fX5_dreadIn, lits, nI_and, jbits, Option.bind_some]
  rw [drd_and hm]
section
variable {B : Nat} {a : mA} {u : vH}
theorem xq_t1 (w : WF B a) (r : RX a u) {s h : Nat} (hs : s < a 0 0) (hh : h ≤ 60) : fJ9_floorDiv_7cf53 ((u.1 0 6) + nI h) (4 : Int32) = some (nI ((a 0 1 + h) / 4)) := by
  have hh1 := wf_h w
  simp (disch := omega) only [rx_h r, lits, nJ_add, fd]
theorem xq_t2 (w : WF B a) (r : RX a u) {s h : Nat} (hs : s < a 0 0) (hh : h ≤ 60) : fJ9_floorMod_7cf53 (u.1 3 s + (nI ((a 0 1 + h) / 4) - nI (a 0 1 / 4))) (4 : Int32) = some (nI ((a 3 s + ((a 0 1 + h) / 4 - a 0 1 / 4)) % 4)) := by
  have hh1 := wf_h w
  have h1 := wf_s w s hs
  simp (disch := omega) only [rx_w r, lits, nJ_add, nI_sub, fm]
theorem xq_t3 (w : WF B a) (r : RX a u) {s h : Nat} (hs : s < a 0 0) (hh : h ≤ 60) : fJ9_max_7cf53 (0 : Int32) ((u.1 2 (Int32.toNatClampNeg (nI s))) - nI h) = some (nI (a 2 s - h)) := by
  have hh1 := wf_h w
  have hn := wf_n w
  have h1 := wf_s w s hs
  simp (disch := omega) only [rx_c r, lits, nJ_clamp, fmax]
theorem xq_t4 (w : WF B a) (r : RX a u) {s h : Nat} (hs : s < a 0 0) (hh : h ≤ 60) : fX5_turned (u.1 1 (Int32.toNatClampNeg (nI s))) (nI h) = some (nI (rotN h (a 1 s))) := by
  have hh1 := wf_h w
  have hn := wf_n w
  have h1 := wf_s w s hs
  simp (disch := omega) only [rx_m r, lits, nJ_clamp, xq_turned]
theorem xq_t5 (w : WF B a) (r : RX a u) {s h : Nat} (hs : s < a 0 0) (hh : h ≤ 60) : fX5_angleAfter (nI s) (nI h) u = some (((nI (chr (rotN h (a 1 s))) + nI (a 2 s - h)) - nI (drd (rotN h (a 1 s)))) - nI (a 4 ((a 3 s + ((a 0 1 + h) / 4 - a 0 1 / 4)) % 4)), u) := by
  have hn := wf_n w
  have hh1 := wf_h w
  have h1 := wf_s w s hs
  have hr := rotN_lt h1.1 h
  have hw : (a 3 s + ((a 0 1 + h) / 4 - a 0 1 / 4)) % 4 < 4 := Nat.mod_lt _ (by omega)
  have i1 : ¬ (nI s < 0 ∨ 8 ≤ Int32.toNatClampNeg (nI s)) := (nJ_in (n := 8) (by omega) (by omega)).mp
  have e0 : fJ9_floorDiv_7cf53 (u.1 0 6) (4 : Int32) = some (nI (a 0 1 / 4)) := by
    rw [rx_h r]
    have := fd (a := a 0 1) (b := 4) (by omega) (by omega) (by omega)
    exact this
  have e1 := xq_t1 w r hs hh
  have e2 := xq_t2 w r hs hh
  have e3 := xq_t3 w r hs hh
  have e4 := xq_t4 w r hs hh
  have i2 : ¬ (nI ((a 3 s + ((a 0 1 + h) / 4 - a 0 1 / 4)) % 4) < 0 ∨ 4 ≤ Int32.toNatClampNeg (nI ((a 3 s + ((a 0 1 + h) / 4 - a 0 1 / 4)) % 4))) := (nJ_in (n := 4) (by omega) (by omega)).mp
  rw [fX5_angleAfter, if_neg i1, e4, Option.bind_some, if_neg i1, e3, Option.bind_some, e1, Option.bind_some, e0, Option.bind_some]
  dsimp only [bd]
  have c : Int32.toNatClampNeg (nI s) = s := nJ_clamp (by omega)
  have c2 : Int32.toNatClampNeg (nI ((a 3 s + ((a 0 1 + h) / 4 - a 0 1 / 4)) % 4)) = (a 3 s + ((a 0 1 + h) / 4 - a 0 1 / 4)) % 4 := nJ_clamp (by omega)
  rw [if_neg i1, c, e2, Option.bind_some, xq_cheer hr, Option.bind_some, xq_dread hr, Option.bind_some, if_neg i2, c2, rx_z r _ hw]
theorem xq_angle (w : WF B a) (r : RX a u) {s h : Nat} (hs : s < a 0 0) (hh : h ≤ 60) : fX5_angleAfter (nI s) (nI h) u = some (iI (angA a s h), u) := by
  rw [xq_t5 w r hs hh]
  simp only [nI_iI, iI_add, iI_sub, angA, Int.natCast_add]
theorem xq_angle0 (w : WF B a) (r : RX a u) {s : Nat} (hs : s < a 0 0) : fX5_angleAfter (nI s) (nI 0) u = some (iI (ang a s), u) := by
  rw [xq_angle w r hs (by omega), angA_0 w hs]
theorem xq_reading (w : WF B a) (r : RX a u) {s : Nat} (hs : s < a 0 0) : fX5_readingOf (nI s) u = some (fe (rdR a s), u) := by
  have hn := wf_n w
  have h1 := wf_s w s hs
  have hb := ang_b w hs
  have he := wf_e w
  have hz := rdg_all (ang a s + (a 0 2 : Int) + 16).toNat (by omega) (a 2 s) (by omega)
  have e1 : (((ang a s + (a 0 2 : Int) + 16).toNat : Nat) : Int) - 19 = ang a s + ((a 0 2 : Int) - 3) := by omega
  rw [e1] at hz
  obtain ⟨g1, g2, g3⟩ := hz
  have g4 := (fe_ok (rdR a s) (rdR_lt w hs)).1
  have g5 : fe (2 * (ang a s + (a 0 2 : Int) + 16).toNat + 9 - a 2 s) = fe (rdR a s) := rfl
  rw [g5] at g3
  unfold okF at g1 g2 g4
  simp (disch := omega) only [fX5_readingOf, l32_0, xq_angle0 w r hs, rx_n r, rx_e r, rx_h r, rx_l r, rx_m r, rx_c r, rx_w r, rx_z r, rx_s r, rx_t r, rx_f r, iI_add, bd, obp_some, nJ_clamp, nJ_lt, leF, ltF, or_self, Nat.not_lt_zero, if_false, g1, g2, if_true, g3, g4]
theorem xq_sf_hit (w : WF B a) (r : RX a u) {s i k : Nat} (hs : s < 8) (hik : i ≤ k) (hk : k < a 0 3) (he : a 5 k = s) (hj : ∀ j, i ≤ j → j < k → a 5 j ≠ s) : fX5_sightFrom (nI s) (nI i) u = some (nI k, u) := by
  have hl := wf_l w
  have hn := wf_n w
  have hg := wf_g w
  rw [fX5_sightFrom]
  refine loop_ft (F := fun n i => fX5_sightFrom_2 n (nI s) (nI i) u) i k hik (by omega) (fun n q h1 h2 => ?_) (fun n => ?_)
  · have h3 := hg q (by omega)
    have h4 := hj q h1 h2
    simp (disch := omega) only [fX5_sightFrom_2, rx_n r, rx_e r, rx_h r, rx_l r, rx_m r, rx_c r, rx_w r, rx_z r, rx_s r, rx_t r, rx_f r, lits, nJ_le, nJ_lt, nJ_eq, nJ_clamp, nJ_add, nI_mul, nI_sub, nI_and, nI_or, nI_xor, Nat.add_zero, Nat.not_lt_zero, leF, leT, ltF, ltT, eqF, eqT, bd, obp_some, Option.bind_some, reduceIte, reduceCtorEq, or_self, or_true, true_or, or_false, false_or]
  · simp (disch := omega) only [fX5_sightFrom_2, rx_n r, rx_e r, rx_h r, rx_l r, rx_m r, rx_c r, rx_w r, rx_z r, rx_s r, rx_t r, rx_f r, lits, nJ_le, nJ_lt, nJ_eq, nJ_clamp, nJ_add, nI_mul, nI_sub, nI_and, nI_or, nI_xor, Nat.add_zero, Nat.not_lt_zero, leF, leT, ltF, ltT, eqF, eqT, bd, obp_some, Option.bind_some, reduceIte, reduceCtorEq, or_self, or_true, true_or, or_false, false_or]
theorem xq_sf_none (w : WF B a) (r : RX a u) {s i : Nat} (hs : s < 8) (hi : i ≤ a 0 3) (hj : ∀ j, i ≤ j → j < a 0 3 → a 5 j ≠ s) : fX5_sightFrom (nI s) (nI i) u = some (-1, u) := by
  have hl := wf_l w
  have hn := wf_n w
  have hg := wf_g w
  rw [fX5_sightFrom]
  refine loop_ft (F := fun n i => fX5_sightFrom_2 n (nI s) (nI i) u) i (a 0 3) hi (by omega) (fun n q h1 h2 => ?_) (fun n => ?_)
  · have h3 := hg q (by omega)
    have h4 := hj q h1 h2
    simp (disch := omega) only [fX5_sightFrom_2, rx_n r, rx_e r, rx_h r, rx_l r, rx_m r, rx_c r, rx_w r, rx_z r, rx_s r, rx_t r, rx_f r, lits, nJ_le, nJ_lt, nJ_eq, nJ_clamp, nJ_add, nI_mul, nI_sub, nI_and, nI_or, nI_xor, Nat.add_zero, Nat.not_lt_zero, leF, leT, ltF, ltT, eqF, eqT, bd, obp_some, Option.bind_some, reduceIte, reduceCtorEq, or_self, or_true, true_or, or_false, false_or]
  · simp (disch := omega) only [fX5_sightFrom_2, rx_n r, rx_e r, rx_h r, rx_l r, rx_m r, rx_c r, rx_w r, rx_z r, rx_s r, rx_t r, rx_f r, lits, nJ_le, nJ_lt, nJ_eq, nJ_clamp, nJ_add, nI_mul, nI_sub, nI_and, nI_or, nI_xor, Nat.add_zero, Nat.not_lt_zero, leF, leT, ltF, ltT, eqF, eqT, bd, obp_some, Option.bind_some, reduceIte, reduceCtorEq, or_self, or_true, true_or, or_false, false_or]
end

