/-! THE LAW'S ROUNDS -/
theorem pz_line {B : Nat} {a : mA} {n : Nat} {hs : Nat → mA} {u : vZ} (P : PZ B a n hs u) (l : vS) : PZ B a n hs (wLine u l) := P
theorem pz_n {B : Nat} {a : mA} {n : Nat} {hs : Nat → mA} {u : vZ} (P : PZ B a n hs u) : n ≤ 8 ∧ fX7_account (10 : Int32) u = some (nI n, u) := ⟨P.2.1.1.1, z_ac10 P.2.1.1.2.1⟩
theorem toldT_len {B : Nat} {a : mA} (w : WF B a) (c : CI B a) (hB : B < 100000000) : (toldT a).length < 900 := by
  have h1 := accT_len w c hB 9
  have h2 := linT_len w (accT a 9) (a 0 0) (Nat.le_refl _)
  have h3 := watT_len w (linT a (accT a 9) (a 0 0)) 4 (Nat.le_refl _)
  have h4 := sigT_len w hB (watT a (linT a (accT a 9) (a 0 0)) 4) (a 0 3) (Nat.le_refl _)
  have hn := wf_n w
  have hl := wf_l w
  unfold toldT
  omega
section
variable {B : Nat} {a : mA} {n : Nat} {hs : Nat → mA} {u : vZ} {L : Nat} {xs : Nat → Int32}
theorem lw_409 (P : PZ B a n hs u) (hB : B < 50) {i : Nat} (hi : i < 14) {kc ks : Nat} (hm : kc + 8000 ≤ 600000) (hs2 : ks + 60000 ≤ 7302250) (b : Int32) : ∃ n' hs' u' kc' ks', PZ B a n' hs' u' ∧ kc' ≤ kc + 8000 ∧ ks' ≤ ks + 60000 ∧ ∀ rec x1 x2, hf_L_law_409 600000 7302250 L xs rec x1 x2 (nI i) (nI n) b u kc ks = rec x1 x2 (nI (i + 1)) u' kc' ks' := by
  obtain ⟨l1, e1⟩ := sailors_spec P.1.1 P.1.2.1 P.1.2.2
  have P1 := pz_line P l1
  obtain ⟨l2, e2⟩ := sights_spec P1.1.1 P1.1.2.1 (by omega) P1.1.2.2
  have P2 := pz_line P1 l2
  have e3 := alike_spec P2.1.1 P2.1.2.2
  have h10 := pz_n P
  have h9 := z_ac9 P.2.2
  have hmod : nI i - nI i / (3 : Int32) * (3 : Int32) = nI (i % 3) := nI_mod (b := 3) (by omega) (by omega)
  have h12 : ¬ (1 : Int32) = 0 := by decide
  by_cases c : i % 3 = 2
  · obtain ⟨f4, l4, e4, s4⟩ := told_spec P2.1.1 P2.1.2.1 P2.1.2.2 (by omega)
    have P4 := pz_line P2 l4
    obtain ⟨b', u5, hs5, e5, P5⟩ := foretold_spec (by omega) P4 b
    obtain ⟨f6, l6, e6, s6⟩ := told_spec P5.1.1 P5.1.2.1 P5.1.2.2 (by omega)
    have P6 := pz_line P5 l6
    have h7 := told_eq s4 s6 (toldT_len P.1.1 P.1.2.1 (by omega))
    have h8 := pz_n P6
    refine ⟨0, hs5, _, kc + 2000 + 1000 + 1 + 2000 + 2000, ks + 20000 + 10000 + 8 + 12000 + 12000, P6, by omega, by omega, fun rec x1 x2 => ?_⟩
    unfold hf_L_law_409
    rw [h10.2, obp_some, if_pos rfl, h9, obp_some, if_pos (show nI 0 = 0 by rfl), if_pos (by omega), e1, Option.bind_some]
    simp only [bdE]
    rw [if_neg h12, if_pos (by omega), e2, Option.bind_some]
    try dsimp only
    rw [if_neg h12, if_pos (by omega), e3, Option.bind_some]
    try dsimp only
    rw [if_neg h12, hmod, if_pos (show nI (i % 3) = 2 by rw [c]; rfl), if_pos (by omega), e4, Option.bind_some]
    try dsimp only
    rw [e5, Option.bind_some]
    try dsimp only
    rw [if_neg h12, if_pos (by omega), e6, Option.bind_some]
    try dsimp only
    rw [h7, Option.bind_some, if_neg h12, h8.2, obp_some, if_pos (show nI 0 = 0 by rfl), nI_1]
  · refine ⟨n, hs, _, kc + 2000 + 1000 + 1, ks + 20000 + 10000 + 8, P2, by omega, by omega, fun rec x1 x2 => ?_⟩
    unfold hf_L_law_409
    rw [h10.2, obp_some, if_pos rfl, h9, obp_some, if_pos (show nI 0 = 0 by rfl), if_pos (by omega), e1, Option.bind_some]
    simp only [bdE]
    rw [if_neg h12, if_pos (by omega), e2, Option.bind_some]
    try dsimp only
    rw [if_neg h12, if_pos (by omega), e3, Option.bind_some]
    try dsimp only
    rw [if_neg h12, hmod, if_neg (show ¬ nI (i % 3) = 2 from fun z => c ((nJ_eq (b := 2) (by omega) (by omega)).mp z)), nI_1]
theorem lw_round (hL : L ≤ 260) (P : PZ B a n hs u) (hB : B < 40) {i : Nat} (hi : i < 14) {kc ks : Nat} (hm : kc + 15000 ≤ 600000) (hs2 : ks + 100000 ≤ 7302250) : ∃ a' n' hs' u' kc' ks', PZ (B + 1) a' n' hs' u' ∧ kc' ≤ kc + 15000 ∧ ks' ≤ ks + 100000 ∧ ∀ m x2, hf_L_law_262 600000 7302250 L xs (m + 1) (nI (2 * i)) x2 (nI i) u kc ks = hf_L_law_262 600000 7302250 L xs m (nI (2 * (i + 1))) x2 (nI (i + 1)) u' kc' ks' := by
  obtain ⟨v1, c1⟩ := cell_some hL xs (i := 2 * i) (by omega)
  obtain ⟨v2, c2⟩ := cell_some hL xs (i := 2 * i + 1) (by omega)
  have c2' : hf_L_cell L xs (nI (2 * i) + (1 : Int32)) = some v2 := by rw [nI_1]; exact c2
  have h10 := pz_n P
  obtain ⟨f1, l1, e1, s1⟩ := told_spec P.1.1 P.1.2.1 P.1.2.2 (by omega)
  have P1 := pz_line P l1
  obtain ⟨r, b', a', n', hs', u', e2, P2, h3⟩ := acts_spec P1 (by omega) (v1 &&& (255 : Int32)) v2
  have hinit : hf_X8_init v2 = some v2 := rfl
  have ht : nI (2 * i) + 2 = nI (2 * (i + 1)) := by
    have h : nI (2 * i) + nI 2 = nI (2 * i + 2) := nJ_add _ _
    exact h
  have h14 : ¬ (14 : Int32) ≤ nI i := nI_ge (b := 14) hi (by omega)
  rcases h3 with ⟨k1, ea, en, eh⟩ | ⟨k1, en, eh⟩
  · rw [ea, en, eh] at P2
    obtain ⟨f2, l2, e3, s2⟩ := told_spec P2.1.1 P2.1.2.1 P2.1.2.2 (by omega)
    have P3 := pz_line P2 l2
    have h7 := told_eq s1 s2 (toldT_len P.1.1 P.1.2.1 (by omega))
    obtain ⟨n4, hs4, u4, kc4, ks4, P4, y1, y2, y3⟩ := lw_409 (L := L) (xs := xs) P3 (by omega) hi (kc := kc + 1 + 2000 + 2000) (ks := ks + 1 + 12000 + 12000) (by omega) (by omega) b'
    refine ⟨_, n4, hs4, u4, kc4, ks4, P4, by omega, by omega, fun m x2 => ?_⟩
    have hk : ¬ (-100001 : Int32) < r := fun z => by
      rw [Int32.lt_iff_toInt_lt] at z
      rw [Int32.le_iff_toInt_le] at k1
      omega
    rw [hf_L_law_262, if_neg h14, c1, Option.bind_some, bdE, if_pos (by omega)]
    simp only [bdE]
    rw [c2', Option.bind_some, hinit, Option.bind_some, h10.2, obp_some, if_pos (by omega), e1, Option.bind_some]
    try dsimp only
    rw [e2, Option.bind_some]
    try dsimp only
    rw [if_neg hk, if_pos (by omega), e3, Option.bind_some]
    try dsimp only
    rw [h7, Option.bind_some, if_neg k_10]
    unfold hf_L_law_344
    rw [if_neg hk]
    unfold hf_L_law_365
    rw [if_pos k1, y3, ht]
  · rw [en, eh] at P2
    have hk : (-100001 : Int32) < r := by
      rw [Int32.le_iff_toInt_le] at k1
      rw [Int32.lt_iff_toInt_lt]
      omega
    have hn8 := h10.1
    have hmin : fJ9_min_7cf53 (8 : Int32) (nI n + (1 : Int32)) = some (nI (pushN n)) := by
      rw [nI_1]
      refine (min_nI (x := 8) (by omega) (by omega)).trans ?_
      unfold pushN
      by_cases c : n = 8
      · rw [if_pos c, if_neg (by omega)]
      · rw [if_neg c]
        by_cases c2 : n + 1 < 8
        · rw [if_pos c2]
        · rw [if_neg c2, show n + 1 = 8 by omega]
    obtain ⟨v4, b4, h4⟩ := nx_l (x := (4 : Int32)) (by decide) b'
    by_cases c : v4 = 0
    · obtain ⟨m5, hm5⟩ : ∃ m5, pushN n = m5 + 1 := ⟨pushN n - 1, by unfold pushN; split <;> omega⟩
      rw [hm5] at P2
      obtain ⟨u5, e5, P5⟩ := pz_undo P2
      have e0 : pushH a hs 0 = a := if_pos rfl
      rw [e0] at P5
      obtain ⟨f6, l6, e6, s6⟩ := told_spec P5.1.1 P5.1.2.1 P5.1.2.2 (by omega)
      have P6 := pz_line P5 l6
      have h7 := told_eq s1 s6 (toldT_len P.1.1 P.1.2.1 (by omega))
      obtain ⟨n4, hs4, u4, kc4, ks4, P4, y1, y2, y3⟩ := lw_409 (L := L) (xs := xs) P6 (by omega) hi (kc := kc + 1 + 2000 + 2000) (ks := ks + 1 + 12000 + 12000) (by omega) (by omega) b4
      have hdec : nI (m5 + 1) + (-1) = nI m5 := by
        rw [gc_dec (by omega), Nat.add_sub_cancel]
      refine ⟨_, n4, hs4, u4, kc4, ks4, P4, by omega, by omega, fun m x2 => ?_⟩
      rw [hf_L_law_262, if_neg h14, c1, Option.bind_some, bdE, if_pos (by omega)]
      simp only [bdE]
      rw [c2', Option.bind_some, hinit, Option.bind_some, h10.2, obp_some, if_pos (by omega), e1, Option.bind_some]
      try dsimp only
      rw [e2, Option.bind_some]
      try dsimp only
      rw [if_pos hk]
      unfold hf_L_law_344
      rw [if_pos hk, hmin, Option.bind_some]
      unfold hf_L_law_365
      rw [if_neg k1, h4, Option.bind_some]
      simp only [bdE]
      rw [if_pos c, hm5, hdec, e5, obp_some, if_pos rfl, if_pos (by omega), e6, Option.bind_some]
      try dsimp only
      rw [h7, Option.bind_some, if_neg k_10, y3, ht]
    · obtain ⟨n4, hs4, u4, kc4, ks4, P4, y1, y2, y3⟩ := lw_409 (L := L) (xs := xs) P2 (by omega) hi (kc := kc + 1 + 2000) (ks := ks + 1 + 12000) (by omega) (by omega) b4
      refine ⟨_, n4, hs4, u4, kc4, ks4, P4, by omega, by omega, fun m x2 => ?_⟩
      rw [hf_L_law_262, if_neg h14, c1, Option.bind_some, bdE, if_pos (by omega)]
      simp only [bdE]
      rw [c2', Option.bind_some, hinit, Option.bind_some, h10.2, obp_some, if_pos (by omega), e1, Option.bind_some]
      try dsimp only
      rw [e2, Option.bind_some]
      try dsimp only
      rw [if_pos hk]
      unfold hf_L_law_344
      rw [if_pos hk, hmin, Option.bind_some]
      unfold hf_L_law_365
      rw [if_neg k1, h4, Option.bind_some]
      try dsimp only
      rw [if_neg c, y3, ht]
end
theorem lw_loop {L : Nat} {xs : Nat → Int32} (hL : L ≤ 260) {v : Int32} (hv : 0 < v) : ∀ d i n a k hs u kc ks, i + d = 14 → d < n → PZ (13 + i) a k hs u → kc ≤ 1000 + 15000 * i → ks ≤ 2000 + 100000 * i → ∃ u', hf_L_law_262 600000 7302250 L xs n (nI (2 * i)) v (nI i) u kc ks = some (1, u') := by
  intro d
  induction d with
  | zero =>
    intro i n a k hs u kc ks hi hd P hkc hks
    obtain ⟨n, rfl⟩ : ∃ j, n = j + 1 := ⟨n - 1, by omega⟩
    have hv0 : ¬ v ≤ 0 := fun z => by
      rw [Int32.le_iff_toInt_le] at z
      rw [Int32.lt_iff_toInt_lt] at hv
      omega
    refine ⟨u, ?_⟩
    rw [hf_L_law_262, if_pos (show (14 : Int32) ≤ nI i from nI_le (a := 14) (by omega) (by omega)), if_neg hv0]
  | succ d ih =>
    intro i n a k hs u kc ks hi hd P hkc hks
    obtain ⟨n, rfl⟩ : ∃ j, n = j + 1 := ⟨n - 1, by omega⟩
    obtain ⟨a', n', hs', u1, kc', ks', P', h1, h2, h3⟩ := lw_round (xs := xs) hL P (by omega) (i := i) (by omega) (kc := kc) (ks := ks) (by omega) (by omega)
    have g1 : kc' ≤ 1000 + 15000 * (i + 1) := Nat.le_trans h1 (Nat.le_trans (Nat.add_le_add_right hkc 15000) (Nat.le_of_eq (by rw [Nat.mul_add, Nat.mul_one, Nat.add_assoc])))
    have g2 : ks' ≤ 2000 + 100000 * (i + 1) := Nat.le_trans h2 (Nat.le_trans (Nat.add_le_add_right hks 100000) (Nat.le_of_eq (by rw [Nat.mul_add, Nat.mul_one, Nat.add_assoc])))
    have g3 : PZ (13 + (i + 1)) a' n' hs' u1 := P'
    rw [h3]
    exact ih (i + 1) n a' n' hs' u1 kc' ks' (by omega) (by omega) g3 g1 g2
theorem law_pure {L : Nat} {xs : Nat → Int32} (hL : L ≤ 260) : ∃ u0, hf_L_law 600000 7302250 L xs vZ0 = some (1, u0) := by
  obtain ⟨v, a, n, hs, u, h1, h2, h3⟩ := stock_F
  obtain ⟨u', h⟩ := lw_loop (xs := xs) hL h2 14 0 vF a n hs u 101 1084 (by omega) (by unfold vF; omega) h3 (by omega) (by omega)
  refine ⟨u', ?_⟩
  rw [law_open h1]
  exact h
