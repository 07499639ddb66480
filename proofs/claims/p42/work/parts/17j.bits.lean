/-! BITS: what is drawn lies below its bound -/
theorem nI_any (y : Int32) : ∃ n, n < 2 ^ 32 ∧ y = nI n := by
  refine ⟨y.toBitVec.toNat, y.toBitVec.isLt, ?_⟩
  apply Int32.toBitVec_inj.mp
  apply BitVec.eq_of_toNat_eq
  show y.toBitVec.toNat = (BitVec.ofNat 32 y.toBitVec.toNat).toNat
  rw [BitVec.toNat_ofNat, Nat.mod_eq_of_lt y.toBitVec.isLt]
theorem hi16 (y : Int32) : ∃ v, v < 65536 ∧ (Int32.toUInt32 y >>> (Int32.toUInt32 (16 : Int32) &&& Int32.toUInt32 31)).toInt32 = nI v := by
  obtain ⟨n, h1, rfl⟩ := nI_any y
  exact ⟨n / 2 ^ 16, by omega, pk_ushrN h1 (16 : Int32) 16 (by decide)⟩
theorem nx {m : Nat} (hm : 0 < m) (h2 : m < 2147483648) (b : Int32) : ∃ k b', k < m ∧ hf_X8_next (nI m) b = some (nI k, b') := by
  obtain ⟨v, h1, h3⟩ := hi16 (b * (1103515245 : Int32) + (12345 : Int32))
  have hn0 : ¬ nI m = 0 := fun z => by
    have := (nJ_eq (b := 0) h2 (by omega)).mp z
    omega
  refine ⟨v % m, b * (1103515245 : Int32) + (12345 : Int32), Nat.mod_lt _ hm, ?_⟩
  unfold hf_X8_next
  simp only [bdE]
  rw [if_neg hn0, h3, nI_mod (by omega) h2]
/-- some draw, whatever it is -/
theorem nx_l {x : Int32} (hx : x ≠ 0) (b : Int32) : ∃ v b', hf_X8_next x b = some (v, b') := by
  unfold hf_X8_next
  simp only [bdE]
  rw [if_neg hx]
  exact ⟨_, _, rfl⟩
theorem max_1 (n : Nat) (hn : n < 2147483648) : fJ9_max_7cf53 (1 : Int32) (nI n) = some (nI (if 1 < n then n else 1)) := by
  unfold fJ9_max_7cf53
  by_cases c : 1 < n
  · rw [if_pos (show (1 : Int32) < nI n from nI_lt (a := 1) c (by omega)), if_pos c]
  · rw [if_neg (show ¬ (1 : Int32) < nI n from nI_nlt (a := 1) (by omega) (by omega)), if_neg c]
    rfl
theorem some_l {n : Nat} (hn : n < 2147483648) (b : Int32) : ∃ v b', hf_L_some (nI n) b = some (v, b') := by
  obtain ⟨v1, b1, h1⟩ := nx_l (x := (25 : Int32)) (by decide) b
  unfold hf_L_some
  rw [h1, Option.bind_some]
  by_cases c : v1 = 0
  · rw [if_pos c]
    exact ⟨_, _, rfl⟩
  · have h0 : nI (if 1 < n then n else 1) ≠ 0 := fun z => by
      have h := (nJ_eq (b := 0) (by split <;> omega) (by omega)).mp z
      split at h <;> omega
    obtain ⟨v2, b2, h2⟩ := nx_l h0 b1
    rw [if_neg c, max_1 n hn, Option.bind_some]
    show ∃ v b', (hf_X8_next (nI (if 1 < n then n else 1)) b1).bind _ = some (v, b')
    rw [h2, Option.bind_some]
    exact ⟨_, _, rfl⟩
theorem any_l (b : Int32) : ∃ v b', hf_L_anyMood b = some (v, b') := by
  obtain ⟨v1, b1, h1⟩ := nx_l (x := (256 : Int32)) (by decide) b
  obtain ⟨v2, b2, h2⟩ := nx_l (x := (256 : Int32)) (by decide) b1
  obtain ⟨v3, b3, h3⟩ := nx_l (x := (20 : Int32)) (by decide) b2
  obtain ⟨v4, b4, h4⟩ := nx_l (x := (2 : Int32)) (by decide) b3
  obtain ⟨v5, b5, h5⟩ := nx_l (x := (9 : Int32)) (by decide) b4
  unfold hf_L_anyMood
  rw [h1, Option.bind_some]
  try dsimp only
  rw [h2, Option.bind_some, bdE]
  try dsimp only
  rw [h3, Option.bind_some]
  try dsimp only
  by_cases d : v3 = 0
  · rw [if_pos d]
    exact ⟨65536, b3, rfl⟩
  · rw [if_neg d, h4, Option.bind_some]
    try dsimp only
    by_cases d2 : v4 = 0
    · rw [if_pos d2, h5, Option.bind_some]
      exact ⟨_, b5, rfl⟩
    · rw [if_neg d2]
      exact ⟨_, b4, rfl⟩
