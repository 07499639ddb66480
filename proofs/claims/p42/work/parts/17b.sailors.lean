/-! SAILORS: each as the class tells it, in their order, and as a line -/
theorem lg_self (x : Int64) : lg_cmp x x = 0 := by
  have h : ¬ x < x := fun z => by
    rw [Int64.lt_iff_toInt_lt] at z
    omega
  unfold lg_cmp
  rw [if_neg h, if_pos rfl]
theorem agf_all : ∀ z : Nat, z < 40 → okF (FP.fdiv (FP.i2f (iI ((z : Int) - 19))) 1082130432) ∧ Op.cmpValue (FP.fcmp (FP.fdiv (FP.i2f (iI ((z : Int) - 19))) 1082130432) (FP.fdiv (FP.i2f (iI ((z : Int) - 19))) 1082130432)) CmpOp.l = 0 := by decide +kernel
theorem agf {z : Int} (h1 : -19 ≤ z) (h2 : z < 21) : okF (agF z) ∧ Op.cmpValue (FP.fcmp (agF z) (agF z)) CmpOp.l = 0 := by
  have h := agf_all (z + 19).toNat (by omega)
  rw [show (((z + 19).toNat : Nat) : Int) - 19 = z by omega] at h
  exact h
theorem bOk_re {kb sb kc ks n kb' sb' n' d e : Nat} (h : bOk kb sb kc ks n) (hn : n < 65536) (h1 : kb + 15 + d ≤ kb') (h2 : sb + 2 * n + e ≤ sb') : bOk kb' sb' (kc + d) (ks + e) n' := by
  have h3 := lg_le hn
  have h4 := h.1
  have h5 := h.2
  exact ⟨by omega, by omega⟩
/-- who stood one place higher -/
def LSo (a : mA) (k : Nat) (last : Int32) : Prop := (k = 0 ∧ last = -1) ∨ ∃ q, q < a 0 0 ∧ plS a q + 1 = k ∧ last = nI q
section
variable {B : Nat} {a : mA} {u : vZ}
theorem sa_318 (w : WF B a) (r : RX a u.2.1.1) {k : Nat} (hk : k < a 0 0) {mc ms kc ks n : Nat} {g : Nat → Int32} (h : sbT (lineT a k) n g) (hm : kc + 22 ≤ mc) (hs : ks + 616 ≤ ms) : ∃ l', ∀ rec x1 x2 x3 x10 x4, hf_L_sailors_318 mc ms rec x1 x2 x3 x4 (nI k) (nI (chr (a 1 k))) (nI (drd (a 1 k))) (iI (ang a k)) (fe (rdR a k)) x10 (nI (lineT a k).length) n g u kc ks = rec x1 x2 x3 x10 x4 (nI (k + 1)) (wLine u l') (kc + 20 + 2) (ks + 600 + ((lineT a k).length + 4)) := by
  have hl := lineT_len w hk
  obtain ⟨l1, q1, q2⟩ := z_write w r hk
  obtain ⟨f0, p1, p2⟩ := li_spec (u := wLine u l1) (mc := 20) (ms := 600) q2 rfl (chs_line a k) (by omega) (by omega) (by omega)
  obtain ⟨f, e1, e2⟩ := ts_spec h (by omega)
  have hb := ang_b w hk
  have ha := (z_ang w r hk).1
  obtain ⟨hok, hcm⟩ := agf (z := ang a k) (by omega) (by omega)
  have hfb := (fe_ok _ (rdR_lt w hk)).2.2
  have heq := told_eq p2 e2 (by omega)
  have c1 : kc + 20 ≤ mc ∧ ks + 600 ≤ ms := ⟨by omega, by omega⟩
  have c2 : kc + 20 + 2 ≤ mc ∧ ks + 600 + ((lineT a k).length + 4) ≤ ms := ⟨by omega, by omega⟩
  have hcl : Int32.toNatClampNeg (nI (lineT a k).length) = (lineT a k).length := nI_clamp (by omega)
  rw [hcl] at e1
  unfold agF at ha hok hcm
  refine ⟨l1, fun rec x1 x2 x3 x10 x4 => ?_⟩
  unfold hf_L_sailors_318
  rw [z_so3 w r hk, obp_some, if_pos rfl, z_so4 w r hk, obp_some, if_pos rfl, z_so5 w r hk, obp_some, if_pos rfl, ha, obp_some, if_pos hok, if_pos hcm, z_rb w r hk, obp_some, hfb, Option.bind_some, if_pos rfl, q1, obp_some]
  simp only [bdE]
  rw [if_pos c1, p1]
  simp only [Option.bind_some]
  rw [hcl, if_pos c2, e1]
  simp only [Option.bind_some]
  rw [heq]
  simp only [Option.bind_some]
  rw [if_neg (by decide), nI_1]
theorem sa_ord (w : WF B a) (r : RX a u.2.1.1) {q p : Nat} (hq : q < a 0 0) (hp : p < a 0 0) (h : hiP a q p) (mc ms : Nat) (rec : Int32 → Int32 → Int32 → Int32 → Int64 → Int32 → vZ → Nat → Nat → Option (Int32 × vZ)) (x1 x2 x3 : Int32) (x5 : Int64) (x6 x7 x8 x9 : Int32) (x10 : UInt32) (x13 : Int32) (n14 : Nat) (g15 : Nat → Int32) (kc ks : Nat) : hf_L_sailors_272 mc ms rec x1 x2 x3 (nI q) x5 x6 x7 x8 x9 x10 (nI p) (iI (ang a q) - iI (ang a p)) x13 n14 g15 u kc ks = hf_L_sailors_318 mc ms rec x1 x2 x3 x5 x6 x7 x8 x9 x10 (nI p) x13 n14 g15 u kc ks := by
  have b1 := ang_b w hq
  have b2 := ang_b w hp
  have hn := wf_n w
  have c1 := chr_le (a 1 q)
  have g := (hi_iff a q p).mp h
  unfold hf_L_sailors_272 hf_L_sailors_299
  rw [iI_sub]
  by_cases e : ang a q = ang a p
  · have c0 : iI (ang a q - ang a p) = 0 := by rw [e, Int.sub_self]; rfl
    have g2 : chr (a 1 p) ≤ chr (a 1 q) := by omega
    rw [if_pos c0, z_so3 w r hq, obp_some, z_so3 w r hp, obp_some, nI_sub g2, if_neg (nI_neg0 (by omega))]
    by_cases e2 : chr (a 1 q) = chr (a 1 p)
    · have c2 : nI (chr (a 1 q) - chr (a 1 p)) = 0 := by rw [e2, Nat.sub_self]; rfl
      rw [if_pos c2, if_neg (nI_nlt (by omega) (by omega))]
    · have c2 : ¬ nI (chr (a 1 q) - chr (a 1 p)) = 0 := fun z => by
        have := (nJ_eq (b := 0) (by omega) (by omega)).mp z
        omega
      rw [if_neg c2]
  · have c0 : ¬ iI (ang a q - ang a p) = 0 := fun z => by
      have := (iI_z0 (by omega) (by omega)).mp z
      omega
    have c2 : ¬ iI (ang a q - ang a p) < 0 := fun z => by
      have := (iI_lt (b := 0) (by omega) (by omega) (by omega) (by omega)).mp z
      omega
    rw [if_neg c0, if_neg c2, if_neg c0]
theorem sa_237 (w : WF B a) (r : RX a u.2.1.1) {k : Nat} (hk : k < a 0 0) {last : Int32} (hl : LSo a k last) : ∃ p, p < a 0 0 ∧ plS a p = k ∧ ∀ (mc ms : Nat) (rec : Int32 → Int32 → Int32 → Int32 → Int64 → Int32 → vZ → Nat → Nat → Option (Int32 × vZ)) (x1 x2 x3 x6 x7 x8 : Int32) (x9 : UInt32) (x10 x11 : Int64) (x12 : Int32) (n13 : Nat) (g14 : Nat → Int32) (kc ks : Nat), hf_L_sailors_237 mc ms rec x1 x2 x3 last (nI k) x6 x7 x8 x9 x10 x11 x12 n13 g14 u kc ks = hf_L_sailors_318 mc ms rec x1 x2 x3 (x11 ||| x10) (nI k) x6 x7 x8 x9 (nI p) x12 n13 g14 u kc ks := by
  have hn := wf_n w
  obtain ⟨p, h1, h2, h3⟩ := z_high w hk
  refine ⟨p, h1, h2, fun mc ms rec x1 x2 x3 x6 x7 x8 x9 x10 x11 x12 n13 g14 kc ks => ?_⟩
  unfold hf_L_sailors_237
  simp only [bdE]
  rw [h3 u r, obp_some]
  rcases hl with ⟨e, rfl⟩ | ⟨q, hq, e, rfl⟩
  · rw [if_neg (by decide +kernel)]
    unfold hf_L_sailors_272 hf_L_sailors_299
    rw [if_neg (by decide), if_neg (by decide), if_neg (by decide)]
  · have hqp : hiP a q p := pls_hi hq h1 (by omega)
    rw [if_pos (nI_pos' (by omega)), z_so5 w r hq, obp_some, z_so5 w r h1, obp_some]
    exact sa_ord w r hq h1 hqp mc ms rec x1 x2 x3 _ _ x6 x7 x8 x9 x12 n13 g14 kc ks
theorem sa_end (w : WF B a) (r : RX a u.2.1.1) {k : Nat} (hk : k < a 0 0) {last : Int32} (hl : LSo a k last) {mc ms kb sb kc ks n : Nat} {g : Nat → Int32} (h : sbT (lineT a k) n g) (hb : bOk kb sb kc ks n) (hm : kb + 37 ≤ mc) (hs : sb + 700 ≤ ms) : ∃ p l', p < a 0 0 ∧ plS a p = k ∧ kc + 20 + 2 ≤ kb + 37 ∧ ks + 600 + ((lineT a k).length + 4) ≤ sb + 700 ∧ ∀ rec x1 x2 x3, (if (4 : Int32) ≤ nI k then hf_L_sailors_237 mc ms rec x1 x2 x3 last (nI k) (nI (chr (a 1 k))) (nI (drd (a 1 k))) (iI (ang a k)) (fe (rdR a k)) (0 : Int64) (nL (pkN a k)) (nI (lineT a k).length) n g u kc ks else hf_L_sailors_237 mc ms rec x1 x2 x3 last (nI k) (nI (chr (a 1 k))) (nI (drd (a 1 k))) (iI (ang a k)) (fe (rdR a k)) ((Int32.toInt64 (nI (a 1 k))) <<< (Int32.toInt64 ((16 : Int32) * nI k) &&& 63)) (nL (pkN a k)) (nI (lineT a k).length) n g u kc ks) = rec x1 x2 x3 (nI p) (nL (pkN a (k + 1))) (nI (k + 1)) (wLine u l') (kc + 20 + 2) (ks + 600 + ((lineT a k).length + 4)) := by
  have hn := wf_n w
  have hw := wf_s w k hk
  have hll := lineT_len w hk
  have hn2 := h.2.1
  have h3 := lg_le (n := n) (by omega)
  have h4 := hb.1
  have h5 := hb.2
  obtain ⟨p, g1, g2, g3⟩ := sa_237 w r hk hl
  obtain ⟨l', g4⟩ := sa_318 w r hk h (mc := mc) (ms := ms) (kc := kc) (ks := ks) (by omega) (by omega)
  refine ⟨p, l', g1, g2, by omega, by omega, fun rec x1 x2 x3 => ?_⟩
  by_cases c : 4 ≤ k
  · have e : nL (pkN a k) ||| (0 : Int64) = nL (pkN a (k + 1)) := by
      rw [pkN, if_neg (by omega)]
      exact nL_or _ 0
    rw [if_pos (show (4 : Int32) ≤ nI k from nI_le (a := 4) c (by omega)), g3, e, g4]
  · have e : nL (pkN a k) ||| ((Int32.toInt64 (nI (a 1 k))) <<< (Int32.toInt64 ((16 : Int32) * nI k) &&& 63)) = nL (pkN a (k + 1)) := by
      rw [nI_toLong (by omega), show (16 : Int32) = nI 16 from rfl, nI_mul, pk_sh k (by omega), nL_or, pkN, if_pos (by omega)]
    rw [if_neg (show ¬ (4 : Int32) ≤ nI k from nI_ge (b := 4) (by omega) (by omega)), g3, e, g4]
theorem sa_step (w : WF B a) (r : RX a u.2.1.1) {k : Nat} (hk : k < a 0 0) {last : Int32} (hl : LSo a k last) {mc ms kc ks : Nat} (hm : kc + 100 ≤ mc) (hs : ks + 2000 ≤ ms) : ∃ p l' kc' ks', p < a 0 0 ∧ plS a p = k ∧ kc' ≤ kc + 100 ∧ ks' ≤ ks + 2000 ∧ ∀ n x2 x3, hf_L_sailors_19 mc ms (n + 1) (nI (a 0 0)) x2 x3 last (nL (pkN a k)) (nI k) u kc ks = hf_L_sailors_19 mc ms n (nI (a 0 0)) (x2 + nI (a 2 k)) (x3 + iI (ang a k)) (nI p) (nL (pkN a (k + 1))) (nI (k + 1)) (wLine u l') kc' ks' := by
  have hn := wf_n w
  have hw := wf_s w k hk
  have he := wf_e w
  have hb := ang_b w hk
  obtain ⟨f1, t1, t2⟩ := th_spec hw.1
  obtain ⟨f2, t3, t4⟩ := sub_spec t2 rfl
  have h4 : (hT (a 1 k)).length = 4 := rfl
  obtain ⟨n0, g0, t5, t6, t7⟩ := in_s t4 (by omega)
  have hn0 := t6.2.1
  have jb1 : fJ6_bitCount_0f7a4 (nI (a 1 k) &&& (255 : Int32)) = some (nI (chr (a 1 k))) := by
    have h2 : a 1 k &&& 255 ≤ 255 := Nat.and_le_right
    rw [show (255 : Int32) = nI 255 from rfl, nI_and, jbits _ (by omega)]
    rfl
  have jb2 : fJ6_bitCount_0f7a4 (nI (a 1 k) >>> ((8 : Int32) &&& 31)) = some (nI (drd (a 1 k))) := by
    have h2 : a 1 k >>> 8 ≤ a 1 k := Nat.shiftRight_le _ 8
    rw [show (8 : Int32) = nI 8 from rfl, nI_shr (by omega) (by omega), jbits _ (by omega)]
    rfl
  have hang : ((nI (chr (a 1 k)) + nI (a 2 k)) - nI (drd (a 1 k))) - nI (a 4 (a 3 k)) = iI (ang a k) := by
    simp only [nI_iI, iI_add, iI_sub]
    rfl
  have hz := rdg_all (ang a k + (a 0 2 : Int) + 16).toNat (by omega) (a 2 k) (by omega)
  rw [show (((ang a k + (a 0 2 : Int) + 16).toNat : Nat) : Int) - 19 = ang a k + ((a 0 2 : Int) - 3) by omega] at hz
  obtain ⟨hz1, hz2, hz3⟩ := hz
  have hz4 : FP.fsub (FP.fdiv (FP.i2f (iI (ang a k + ((a 0 2 : Int) - 3)))) 1082130432) (FP.fdiv (FP.i2f (nI (a 2 k))) 1090519040) = fe (rdR a k) := hz3
  have hfe := (fe_ok _ (rdR_lt w hk)).1
  have hth : (65536 : Int32) + nI (a 1 k) = nI (65536 + a 1 k) := nJ_add 65536 (a 1 k)
  have z1i : ∀ u : vZ, RX a u.2.1.1 → fX7_sailorOf (nI k) (1 : Int32) u = some (iI ((a 2 k : Nat) : Int), u) := fun u r => (z_so1 w r hk).trans (by rw [nI_iI])
  have z2i : ∀ u : vZ, RX a u.2.1.1 → fX7_sailorOf (nI k) (2 : Int32) u = some (iI ((a 3 k : Nat) : Int), u) := fun u r => (z_so2 w r hk).trans (by rw [nI_iI])
  have lw := iT_d (z := (a 3 k : Int)) (by omega) (by omega)
  have la := iT_2 (z := ang a k) (by omega) (by omega)
  by_cases hc : 0 < a 2 k
  · have lc := iT_d (z := (a 2 k : Int)) (by omega) (by omega)
    have k0 : ([] ++ kT 0 : List Nat).length = 1 := rfl
    have hb1 : bOk (kc + 8) (ks + 70) (kc + 1 + 2 + 2 + 1 + 1 + 1) (ks + 4 + 12 + (5 + 4) + (4 + 16) + 4 + 16) 16 := ⟨by omega, by omega⟩
    obtain ⟨n1, g1, e1, s1, b1⟩ := c_k (T := []) (ki := 0) (mc := mc) (ms := ms) in_0.2 (by omega) hb1 (by decide) (by omega) (by show ks + 70 + 4 * (0 + 1) + 32 ≤ ms; omega)
    obtain ⟨n2, g2, e2, s2, b2⟩ := c_int (mc := mc) (ms := ms) (z := (a 2 k : Int)) s1 (by omega) (by omega) b1 (by omega) (by omega) (by omega)
    have l2 : ([] ++ kT 0 ++ iT (a 2 k : Int) : List Nat).length = 2 := by rw [List.length_append, k0, lc]
    have hn2 := s2.2.1
    obtain ⟨f3, e3, s3⟩ := c_ts (mc := mc) (ms := ms) s2 b2 (by omega) (by omega) (by omega)
    have hcl : Int32.toNatClampNeg (nI ([] ++ kT 0 ++ iT (a 2 k : Int) : List Nat).length) = 2 := by rw [l2]; rfl
    have hb4 := bOk_re (kb' := kc + 25) (sb' := ks + 130) (n' := n0) (d := 2) (e := Int32.toNatClampNeg (nI ([] ++ kT 0 ++ iT (a 2 k : Int) : List Nat).length) + 4) b2 (by omega) (by omega) (by omega)
    obtain ⟨n4, g4, e4, s4, b4⟩ := c_str (mc := mc) (ms := ms) t6 s3 hb4 (by omega) (by omega) (by omega)
    have l4 : (hT (a 1 k) ++ ([] ++ kT 0 ++ iT (a 2 k : Int))).length = 6 := by rw [List.length_append, l2, h4]
    obtain ⟨n5, g5, e5, s5, b5⟩ := c_char (mc := mc) (ms := ms) (c := 64) s4 (by omega) b4 (by omega) (by omega) (by omega)
    obtain ⟨n6, g6, e6, s6, b6⟩ := c_int (mc := mc) (ms := ms) (z := (a 3 k : Int)) s5 (by omega) (by omega) b5 (by rw [List.length_append, l4, List.length_singleton]; omega) (by omega) (by rw [List.length_append, l4, List.length_singleton]; omega)
    obtain ⟨n7, g7, e7, s7, b7⟩ := c_char (mc := mc) (ms := ms) (c := 62) s6 (by omega) b6 (by rw [List.length_append, List.length_append, l4, List.length_singleton]; omega) (by omega) (by rw [List.length_append, List.length_append, l4, List.length_singleton]; omega)
    obtain ⟨n8, g8, e8, s8, b8⟩ := c_int (mc := mc) (ms := ms) (z := ang a k) s7 (by omega) (by omega) b7 (by rw [List.length_append, List.length_append, List.length_append, l4, List.length_singleton, List.length_singleton]; omega) (by omega) (by rw [List.length_append, List.length_append, List.length_append, l4, List.length_singleton, List.length_singleton]; omega)
    have eT : hT (a 1 k) ++ ([] ++ kT 0 ++ iT (a 2 k : Int)) ++ [64] ++ iT (a 3 k : Int) ++ [62] ++ iT (ang a k) = lineT a k := by
      have ec : ([] ++ kT 0 ++ iT (a 2 k : Int) : List Nat) = cupT (a 2 k) := by rw [cupT, if_pos hc]; rfl
      rw [ec, lineT, tailT]
      simp only [List.append_assoc]
    rw [eT] at s8
    obtain ⟨p, l', h1, h2, h6, h7, h3⟩ := sa_end w r hk hl (mc := mc) (ms := ms) s8 b8 (by omega) (by omega)
    refine ⟨p, l', _, _, h1, h2, Nat.le_trans h6 (by omega), Nat.le_trans h7 (by omega), fun n x2 x3 => ?_⟩
    rw [hf_L_sailors_19, if_neg (nI_ge hk (by omega)), z_so0 w r hk, obp_some, jb1, Option.bind_some, jb2, Option.bind_some, z_so1 w r hk, obp_some, z_so2 w r hk, obp_some, z_wo0 w r hw.2.2, obp_some, bdE, hang, z_ac2 r, obp_some, iI_add, if_pos hz1, z_so1 w r hk, obp_some, if_pos hz2, hz4, if_pos hfe]
    simp only [bdE]
    rw [if_pos (by omega), if_pos (by omega), hth, t1]
    simp only [Option.bind_some]
    rw [if_pos (by omega), t3]
    simp only [Option.bind_some]
    rw [if_pos (by omega), t5]
    simp only [Option.bind_some]
    rw [z_so1 w r hk, obp_some, if_neg (nI_nle hc (by omega)), if_pos (by omega), if_pos (by omega), in_0.1]
    simp only [Option.bind_some]
    refine (e1 _).trans ?_
    dsimp only
    rw [z1i u r, obp_some]
    refine (e2 _).trans ?_
    dsimp only
    refine (e3 _).trans ?_
    dsimp only
    refine (e4 _).trans ?_
    dsimp only
    refine (e5 _).trans ?_
    dsimp only
    rw [z2i u r, obp_some]
    refine (e6 _).trans ?_
    dsimp only
    refine (e7 _).trans ?_
    dsimp only
    refine (e8 _).trans ?_
    dsimp only
    rw [z_so1 w r hk, obp_some, eT]
    exact h3 _ _ _ _
  · have k1 : (kT 1).length = 0 := rfl
    have hb1 : bOk (kc + 6) (ks + 50) (kc + 1 + 2 + 2 + 1) (ks + 4 + 12 + (5 + 4) + (4 + 16)) n0 := ⟨by omega, by omega⟩
    obtain ⟨n4, g4, e4, s4, b4⟩ := c_k (ki := 1) (mc := mc) (ms := ms) t6 (by omega) hb1 (by omega) (by omega) (by omega)
    have l4 : (hT (a 1 k) ++ kT 1).length = 4 := by rw [List.length_append, k1, h4]
    obtain ⟨n5, g5, e5, s5, b5⟩ := c_char (mc := mc) (ms := ms) (c := 64) s4 (by omega) b4 (by omega) (by omega) (by omega)
    obtain ⟨n6, g6, e6, s6, b6⟩ := c_int (mc := mc) (ms := ms) (z := (a 3 k : Int)) s5 (by omega) (by omega) b5 (by rw [List.length_append, l4, List.length_singleton]; omega) (by omega) (by rw [List.length_append, l4, List.length_singleton]; omega)
    obtain ⟨n7, g7, e7, s7, b7⟩ := c_char (mc := mc) (ms := ms) (c := 62) s6 (by omega) b6 (by rw [List.length_append, List.length_append, l4, List.length_singleton]; omega) (by omega) (by rw [List.length_append, List.length_append, l4, List.length_singleton]; omega)
    obtain ⟨n8, g8, e8, s8, b8⟩ := c_int (mc := mc) (ms := ms) (z := ang a k) s7 (by omega) (by omega) b7 (by rw [List.length_append, List.length_append, List.length_append, l4, List.length_singleton, List.length_singleton]; omega) (by omega) (by rw [List.length_append, List.length_append, List.length_append, l4, List.length_singleton, List.length_singleton]; omega)
    have eT : hT (a 1 k) ++ kT 1 ++ [64] ++ iT (a 3 k : Int) ++ [62] ++ iT (ang a k) = lineT a k := by
      rw [lineT, cupT, if_neg hc, tailT, show kT 1 = [] from rfl]
      simp only [List.append_assoc, List.nil_append]
    rw [eT] at s8
    obtain ⟨p, l', h1, h2, h6, h7, h3⟩ := sa_end w r hk hl (mc := mc) (ms := ms) s8 b8 (by omega) (by omega)
    refine ⟨p, l', _, _, h1, h2, Nat.le_trans h6 (by omega), Nat.le_trans h7 (by omega), fun n x2 x3 => ?_⟩
    rw [hf_L_sailors_19, if_neg (nI_ge hk (by omega)), z_so0 w r hk, obp_some, jb1, Option.bind_some, jb2, Option.bind_some, z_so1 w r hk, obp_some, z_so2 w r hk, obp_some, z_wo0 w r hw.2.2, obp_some, bdE, hang, z_ac2 r, obp_some, iI_add, if_pos hz1, z_so1 w r hk, obp_some, if_pos hz2, hz4, if_pos hfe]
    simp only [bdE]
    rw [if_pos (by omega), if_pos (by omega), hth, t1]
    simp only [Option.bind_some]
    rw [if_pos (by omega), t3]
    simp only [Option.bind_some]
    rw [if_pos (by omega), t5]
    simp only [Option.bind_some]
    rw [z_so1 w r hk, obp_some, if_pos (show nI (a 2 k) ≤ 0 by rw [show a 2 k = 0 by omega]; decide)]
    refine (e4 _).trans ?_
    dsimp only
    refine (e5 _).trans ?_
    dsimp only
    rw [z2i u r, obp_some]
    refine (e6 _).trans ?_
    dsimp only
    refine (e7 _).trans ?_
    dsimp only
    refine (e8 _).trans ?_
    dsimp only
    rw [z_so1 w r hk, obp_some, eT]
    exact h3 _ _ _ _
end
