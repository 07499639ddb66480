/-! SAILORS: the watches, the sums -/
theorem mn_all : ∀ n : Nat, n < 9 → 0 < n → ∀ z : Nat, z < 300 → Op.cmpValue (FP.dcmp (FP.ddiv (FP.i2d (iI ((z : Int) - 150))) (FP.i2d (nI n))) (FP.ddiv (FP.i2d (iI ((z : Int) - 150))) (FP.i2d (nI n)))) CmpOp.l = 0 := by decide +kernel
theorem mn_cmp {n : Nat} (hn : n ≤ 8) (h0 : 0 < n) {z : Int} (h1 : -16 * (n : Int) ≤ z) (h2 : z ≤ 17 * (n : Int)) : Op.cmpValue (FP.dcmp (mnF n z) (mnF n z)) CmpOp.l = 0 := by
  have h := mn_all n (by omega) h0 (z + 150).toNat (by omega)
  rw [show (((z + 150).toNat : Nat) : Int) - 150 = z by omega] at h
  exact h
theorem mn_c0 : Op.cmpValue (FP.dcmp FP.dconst0 FP.dconst0) CmpOp.l = 0 := by decide +kernel
theorem fc_c0 : Op.cmpValue (FP.fcmp FP.fconst0 FP.fconst0) CmpOp.l = 0 := by decide +kernel
theorem k3_0 : ((0 : Int32) < 0 ∨ 3 ≤ Int32.toNatClampNeg (0 : Int32)) = False := eq_false (by decide)
theorem k3_1 : ((1 : Int32) < 0 ∨ 3 ≤ Int32.toNatClampNeg (1 : Int32)) = False := eq_false (by decide)
theorem k3_2 : ((2 : Int32) < 0 ∨ 3 ≤ Int32.toNatClampNeg (2 : Int32)) = False := eq_false (by decide)
theorem kc_0 : Int32.toNatClampNeg (0 : Int32) = 0 := by decide
theorem kc_1 : Int32.toNatClampNeg (1 : Int32) = 1 := by decide
theorem kc_2 : Int32.toNatClampNeg (2 : Int32) = 2 := by decide
theorem k_10 : ¬ (1 : Int32) = 0 := by decide
/-- three sums in a row -/
def S3 (a : mA) (p s : Nat) (g : Nat → Int32) : Prop := g 0 = nI (sumN s (fun i => if a 3 i = p then 1 else 0)) ∧ g 1 = nI (sumN s (fun i => if a 3 i = p then chr (a 1 i) else 0)) ∧ g 2 = nI (sumN s (fun i => if a 3 i = p then drd (a 1 i) else 0))
theorem upd3 {g : Nat → Int32} {x y z : Int32} : upd (upd (upd g 0 x) 1 y) 2 z 0 = x ∧ upd (upd (upd g 0 x) 1 y) 2 z 1 = y ∧ upd (upd (upd g 0 x) 1 y) 2 z 2 = z := ⟨by rw [pk_un (by decide), pk_un (by decide), pk_us], by rw [pk_un (by decide), pk_us], by rw [pk_us]⟩
section
variable {B : Nat} {a : mA}
theorem wa_457 {u : vZ} (w : WF B a) (r : RX a u.2.1.1) {s p : Nat} (hs : s < a 0 0) (hp : p < 4) {g : Nat → Int32} (h : S3 a p s g) : ∃ g', S3 a p (s + 1) g' ∧ ∀ (mc ms : Nat) rec_420 rec_434 x1 x2 x3 x4 x5 kc ks, (if nI (a 3 s) = nI p then hf_L_sailors_457 mc ms rec_420 rec_434 x1 x2 x3 x4 x5 (nI s) (1 : Int32) g u kc ks else hf_L_sailors_457 mc ms rec_420 rec_434 x1 x2 x3 x4 x5 (nI s) (0 : Int32) g u kc ks) = rec_434 x1 x2 x3 x4 x5 (nI (s + 1)) g' u kc ks := by
  obtain ⟨h0, h1, h2⟩ := h
  have hw := wf_s w s hs
  have e0 : sumN (s + 1) (fun i => if a 3 i = p then 1 else 0) = sumN s (fun i => if a 3 i = p then 1 else 0) + (if a 3 s = p then 1 else 0) := rfl
  have e1 : sumN (s + 1) (fun i => if a 3 i = p then chr (a 1 i) else 0) = sumN s (fun i => if a 3 i = p then chr (a 1 i) else 0) + (if a 3 s = p then chr (a 1 s) else 0) := rfl
  have e2 : sumN (s + 1) (fun i => if a 3 i = p then drd (a 1 i) else 0) = sumN s (fun i => if a 3 i = p then drd (a 1 i) else 0) + (if a 3 s = p then drd (a 1 s) else 0) := rfl
  by_cases c : a 3 s = p
  · rw [if_pos c] at e0 e1 e2
    refine ⟨upd (upd (upd g 0 (g 0 + 1)) 1 (g 1 + nI (chr (a 1 s)))) 2 (g 2 + nI (drd (a 1 s))), ⟨?_, ?_, ?_⟩, fun mc ms rec_420 rec_434 x1 x2 x3 x4 x5 kc ks => ?_⟩
    · rw [upd3.1, h0, e0, nI_1]
    · rw [upd3.2.1, h1, e1, nJ_add]
    · rw [upd3.2.2, h2, e2, nJ_add]
    · have q1 : upd g 0 (g 0 + 1) 1 = g 1 := pk_un (by decide)
      have q2 : upd (upd g 0 (g 0 + 1)) 1 (g 1 + nI (chr (a 1 s))) 2 = g 2 := by rw [pk_un (by decide), pk_un (by decide)]
      rw [if_pos (by rw [c])]
      unfold hf_L_sailors_457
      rw [if_neg (by decide), if_neg k_10]
      unfold hf_L_sailors_474
      rw [if_neg (by decide), bdE, if_neg (by decide), if_neg k_10, z_so3 w r hs, obp_some]
      unfold hf_L_sailors_497
      rw [if_neg (by decide), bdE, if_neg (by decide), if_neg k_10, z_so4 w r hs, obp_some, if_neg (by decide), bdE, bdE, kc_0, kc_1, kc_2, q1, q2, nI_1]
  · rw [if_neg c] at e0 e1 e2
    refine ⟨upd (upd (upd g 0 (g 0 + 0)) 1 (g 1 + 0)) 2 (g 2 + 0), ⟨?_, ?_, ?_⟩, fun mc ms rec_420 rec_434 x1 x2 x3 x4 x5 kc ks => ?_⟩
    · rw [upd3.1, h0, e0, l32_0, nJ_add]
    · rw [upd3.2.1, h1, e1, l32_0, nJ_add]
    · rw [upd3.2.2, h2, e2, l32_0, nJ_add]
    · have q1 : upd g 0 (g 0 + 0) 1 = g 1 := pk_un (by decide)
      have q2 : upd (upd g 0 (g 0 + 0)) 1 (g 1 + 0) 2 = g 2 := by rw [pk_un (by decide), pk_un (by decide)]
      rw [if_neg (fun z => c ((nJ_eq (by omega) (by omega)).mp z))]
      unfold hf_L_sailors_457
      rw [if_neg (by decide), if_pos rfl]
      unfold hf_L_sailors_474
      rw [if_neg (by decide), bdE, if_neg (by decide), if_pos rfl]
      unfold hf_L_sailors_497
      rw [if_neg (by decide), bdE, if_neg (by decide), if_pos rfl, if_neg (by decide), bdE, bdE, kc_0, kc_1, kc_2, q1, q2, nI_1]
theorem wa_434 {u : vZ} (w : WF B a) (r : RX a u.2.1.1) {p : Nat} (hp : p < 4) (mc ms : Nat) (rec : Int32 → Int32 → Int32 → Int64 → Int32 → vZ → Nat → Nat → Option (Int32 × vZ)) (x2 x3 : Int32) (x4 : Int64) (kc ks : Nat) : ∀ d s n g, s + d = a 0 0 → d < n → S3 a p s g → hf_L_sailors_434 mc ms n rec (nI (a 0 0)) x2 x3 x4 (nI p) (nI s) g u kc ks = rec (nI (a 0 0)) x2 x3 x4 (nI (p + 1)) u kc ks := by
  have hn := wf_n w
  intro d
  induction d with
  | zero =>
    intro s n g hs hd h
    obtain ⟨n, rfl⟩ : ∃ j, n = j + 1 := ⟨n - 1, by omega⟩
    have e : s = a 0 0 := by omega
    subst e
    obtain ⟨h0, h1, h2⟩ := h
    rw [hf_L_sailors_434, if_pos (nI_le (by omega) (by omega)), z_wo1 w r hp, obp_some, if_neg (by decide), kc_0, if_pos h0.symm, z_wo2 w r hp, obp_some, if_neg (by decide), kc_1, if_pos h1.symm, z_wo3 w r hp, obp_some, if_neg (by decide), kc_2, if_pos h2.symm, bdE, nI_1]
  | succ d ih =>
    intro s n g hs hd h
    obtain ⟨n, rfl⟩ : ∃ j, n = j + 1 := ⟨n - 1, by omega⟩
    have hs2 : s < a 0 0 := by omega
    obtain ⟨g', h1, h2⟩ := wa_457 w r hs2 hp h
    rw [hf_L_sailors_434, if_neg (nI_ge hs2 (by omega)), z_so2 w r hs2, obp_some, h2]
    exact ih (s + 1) n g' (by omega) (by omega) h1
theorem sa_591 {u : vZ} (w : WF B a) (c : CI B a) (r : RX a u.2.1.1) (mc ms kc ks : Nat) {x4 : UInt64} (h4 : fX7_meanAngle u = some (x4, u)) (h5 : Op.cmpValue (FP.dcmp x4 x4) CmpOp.l = 0) : hf_L_sailors_591 mc ms (nI (a 0 0)) (nI (sumN (a 0 0) (a 2))) (nL (pkN a (a 0 0))) x4 u kc ks = some (1, u) := by
  have c1 := c.1
  have e : nI (a 0 5) = (nI (sumN (a 0 0) (a 2)) + nI (a 0 6)) + nI (a 0 7) := by rw [nJ_add, nJ_add, c1]
  have hN : ¬ (1 : Int32) = 0 := by decide
  unfold hf_L_sailors_591
  rw [z_ac5 w r, obp_some, if_pos rfl, z_ac6 r, obp_some, z_ac7 r, obp_some, z_ac8 r, obp_some, if_pos e, h4, obp_some, if_pos h5, z_packed w r, obp_some, if_pos (lg_self _), z_cnt w r c1, obp_some, if_neg hN, z_highN w r, obp_some, if_pos rfl, z_writeN w r, obp_some, if_pos rfl, z_angN w r, obp_some, if_pos fc_c0, z_rbN w r, obp_some, if_pos rfl, z_wo4, obp_some, if_pos rfl]
theorem sa_420 {u : vZ} (w : WF B a) (c : CI B a) (r : RX a u.2.1.1) {mc ms : Nat} : ∀ d p n kc ks, p + d = 4 → d < n → kc + d ≤ mc → ks + 3 * d ≤ ms → hf_L_sailors_420 mc ms n (nI (a 0 0)) (nI (sumN (a 0 0) (a 2))) (iI (sumZ (a 0 0) (ang a))) (nL (pkN a (a 0 0))) (nI p) u kc ks = some (1, u) := by
  have hn := wf_n w
  intro d
  induction d with
  | zero =>
    intro p n kc ks hp hd hm hs
    obtain ⟨n, rfl⟩ : ∃ j, n = j + 1 := ⟨n - 1, by omega⟩
    have hmn := z_mean w r
    have hb := sumZ_b (N := a 0 0) (f := ang a) (fun i hi => ang_b w hi)
    rw [hf_L_sailors_420, if_pos (show (4 : Int32) ≤ nI p from nI_le (a := 4) (by omega) (by omega))]
    by_cases h0 : a 0 0 = 0
    · rw [if_pos h0] at hmn
      rw [if_pos (show nI (a 0 0) = 0 by rw [h0]; rfl)]
      exact sa_591 w c r mc ms kc ks hmn mn_c0
    · rw [if_neg h0] at hmn
      have m := mn_ok (n := a 0 0) (by omega) (by omega) hb.1 hb.2
      unfold okD mnF at m
      have m2 := mn_cmp (n := a 0 0) (by omega) (by omega) hb.1 hb.2
      rw [if_neg (show ¬ nI (a 0 0) = 0 from fun z => h0 ((nJ_eq (b := 0) (by omega) (by omega)).mp z)), if_pos m]
      exact sa_591 w c r mc ms kc ks hmn m2
  | succ d ih =>
    intro p n kc ks hp hd hm hs
    obtain ⟨n, rfl⟩ : ∃ j, n = j + 1 := ⟨n - 1, by omega⟩
    rw [hf_L_sailors_420, if_neg (show ¬ (4 : Int32) ≤ nI p from nI_ge (b := 4) (by omega) (by omega)), if_pos ⟨by omega, by omega⟩]
    simp only [bdE]
    rw [show (0 : Int32) = nI 0 from rfl, wa_434 w r (p := p) (by omega) mc ms _ _ _ _ _ _ (a 0 0) 0 vF (fun _ => nI 0) (by omega) (by unfold vF; omega) ⟨rfl, rfl, rfl⟩]
    exact ih (p + 1) n (kc + 1) (ks + 3) (by omega) (by omega) (by omega) (by omega)
theorem sa_loop (w : WF B a) (c : CI B a) : ∀ d k n (u : vZ) (last : Int32) kc ks, RX a u.2.1.1 → k + d = a 0 0 → d < n → LSo a k last → kc ≤ 100 * k → ks ≤ 2000 * k → ∃ l', hf_L_sailors_19 2000 20000 n (nI (a 0 0)) (nI (sumN k (a 2))) (iI (sumZ k (ang a))) last (nL (pkN a k)) (nI k) u kc ks = some (1, wLine u l') := by
  have hn := wf_n w
  intro d
  induction d with
  | zero =>
    intro k n u last kc ks r hk hd hl hkc hks
    obtain ⟨n, rfl⟩ : ∃ j, n = j + 1 := ⟨n - 1, by omega⟩
    have e : k = a 0 0 := by omega
    subst e
    refine ⟨u.2.2.2.2.2.2, ?_⟩
    rw [hf_L_sailors_19, if_pos (nI_le (by omega) (by omega))]
    exact sa_420 w c r 4 0 vF kc ks (by omega) (by unfold vF; omega) (by omega) (by omega)
  | succ d ih =>
    intro k n u last kc ks r hk hd hl hkc hks
    obtain ⟨n, rfl⟩ : ∃ j, n = j + 1 := ⟨n - 1, by omega⟩
    obtain ⟨p, l1, kc', ks', h1, h2, h3, h4, h5⟩ := sa_step w r (k := k) (by omega) hl (mc := 2000) (ms := 20000) (kc := kc) (ks := ks) (by omega) (by omega)
    obtain ⟨l', h6⟩ := ih (k + 1) n (wLine u l1) (nI p) kc' ks' r (by omega) (by omega) (Or.inr ⟨p, h1, by omega, rfl⟩) (by omega) (by omega)
    refine ⟨l', ?_⟩
    rw [h5, nJ_add, iI_add]
    exact h6
theorem sailors_spec {u : vZ} (w : WF B a) (c : CI B a) (r : RX a u.2.1.1) : ∃ l', hf_L_sailors 2000 20000 u = some (1, wLine u l') := by
  have hn := wf_n w
  obtain ⟨l', h⟩ := sa_loop w c (a 0 0) 0 vF u (-1) 0 0 r (by omega) (by unfold vF; omega) (Or.inl ⟨rfl, rfl⟩) (by omega) (by omega)
  refine ⟨l', ?_⟩
  unfold hf_L_sailors
  rw [z_ac0 r, obp_some]
  exact h
end
