/-! ACTS: each is one of the commands -/
/-- what one command leaves -/
def AP (B : Nat) (a : mA) (n : Nat) (hs : Nat → mA) (x : Option (Int32 × Int32 × vZ)) : Prop := ∃ r b' a' n' hs' u', x = some (r, b', u') ∧ PZ (B + 1) a' n' hs' u' ∧ ((r ≤ -100001 ∧ a' = a ∧ n' = n ∧ hs' = hs) ∨ (¬ r ≤ -100001 ∧ n' = pushN n ∧ hs' = pushH a hs))
section
variable {B : Nat} {a : mA} {n : Nat} {hs : Nat → mA} {u : vZ}
theorem ap_of {f : Nat} {y x : Int32} {g : vZ → Option (Int32 × vZ)} (P : PZ B a n hs u) (hB : B + 1 < 1000000000) (h : ∃ o, OX B a f y x g o) (b : Int32) : AP B a n hs (obp (g u) fun y10 u9 => some (y10, b, u9)) := by
  obtain ⟨o, ho⟩ := h
  obtain ⟨r, a', n', hs', u', h1, h2, h3⟩ := pz_cmd P hB ho
  refine ⟨r, b, a', n', hs', u', by rw [h1, obp_some], h2, ?_⟩
  rcases h3 with h3 | ⟨q1, q2, q3, -⟩
  · exact Or.inl h3
  · exact Or.inr ⟨q1, q2, q3⟩
theorem acts_spec (P : PZ B a n hs u) (hB : B + 1 < 1000000000) (x b : Int32) : AP B a n hs (hf_L_acts x b u) := by
  have w := P.1.1
  have r := P.1.2.2
  have hn := wf_n w
  obtain ⟨v1, b1, h1⟩ := some_l (n := a 0 0) (by omega) b
  unfold hf_L_acts
  rw [z_ac0 r, obp_some, h1, Option.bind_some]
  simp only [bdE]
  generalize x - x / (30 : Int32) * (30 : Int32) = z
  by_cases c0 : z = 0
  · rw [if_pos c0]
    obtain ⟨v2, b2, h2⟩ := any_l b1
    rw [h2, Option.bind_some]
    try dsimp only
    exact ap_of P hB (cx_0 w hB v2) b2
  rw [if_neg c0]
  by_cases c1 : z = 1
  · rw [if_pos c1]
    obtain ⟨v2, b2, h2⟩ := any_l b1
    rw [h2, Option.bind_some]
    try dsimp only
    exact ap_of P hB (cx_0 w hB v2) b2
  rw [if_neg c1]
  by_cases c2 : z = 2
  · rw [if_pos c2]
    obtain ⟨v2, b2, h2⟩ := any_l b1
    rw [h2, Option.bind_some]
    try dsimp only
    exact ap_of P hB (cx_0 w hB v2) b2
  rw [if_neg c2]
  by_cases c3 : z = 3
  · rw [if_pos c3]
    obtain ⟨v2, b2, h2⟩ := any_l b1
    rw [h2, Option.bind_some]
    try dsimp only
    exact ap_of P hB (cx_0 w hB v2) b2
  rw [if_neg c3]
  by_cases c4 : z = 4
  · rw [if_pos c4]
    exact ap_of P hB (cx_1 w hB v1) b1
  rw [if_neg c4]
  by_cases c5 : z = 5
  · rw [if_pos c5]
    obtain ⟨v2, b2, h2⟩ := any_l b1
    rw [h2, Option.bind_some]
    try dsimp only
    exact ap_of P hB (cx_3 w hB v1 v2) b2
  rw [if_neg c5]
  by_cases c6 : z = 6
  · rw [if_pos c6]
    obtain ⟨v2, b2, h2⟩ := any_l b1
    rw [h2, Option.bind_some]
    try dsimp only
    exact ap_of P hB (cx_3 w hB v1 v2) b2
  rw [if_neg c6]
  by_cases c7 : z = 7
  · rw [if_pos c7]
    obtain ⟨v2, b2, h2⟩ := any_l b1
    rw [h2, Option.bind_some]
    try dsimp only
    exact ap_of P hB (cx_3 w hB v1 v2) b2
  rw [if_neg c7]
  by_cases c8 : z = 8
  · rw [if_pos c8]
    obtain ⟨v2, b2, h2⟩ := nx_l (x := (20 : Int32)) (by decide) b1
    rw [h2, Option.bind_some]
    try dsimp only
    by_cases d : v2 = 0
    · rw [if_pos d]
      exact ap_of P hB (cx_4 w hB v1 _) b2
    · obtain ⟨v3, b3, h3⟩ := nx_l (x := (5 : Int32)) (by decide) b2
      rw [if_neg d, h3, Option.bind_some]
      exact ap_of P hB (cx_4 w hB v1 _) b3
  rw [if_neg c8]
  by_cases c9 : z = 9
  · rw [if_pos c9]
    obtain ⟨v2, b2, h2⟩ := nx_l (x := (20 : Int32)) (by decide) b1
    rw [h2, Option.bind_some]
    try dsimp only
    by_cases d : v2 = 0
    · rw [if_pos d]
      exact ap_of P hB (cx_4 w hB v1 _) b2
    · obtain ⟨v3, b3, h3⟩ := nx_l (x := (5 : Int32)) (by decide) b2
      rw [if_neg d, h3, Option.bind_some]
      exact ap_of P hB (cx_4 w hB v1 _) b3
  rw [if_neg c9]
  by_cases c10 : z = 10
  · rw [if_pos c10]
    obtain ⟨v2, b2, h2⟩ := nx_l (x := (20 : Int32)) (by decide) b1
    rw [h2, Option.bind_some]
    try dsimp only
    by_cases d : v2 = 0
    · rw [if_pos d]
      exact ap_of P hB (cx_4 w hB v1 _) b2
    · obtain ⟨v3, b3, h3⟩ := nx_l (x := (5 : Int32)) (by decide) b2
      rw [if_neg d, h3, Option.bind_some]
      exact ap_of P hB (cx_4 w hB v1 _) b3
  rw [if_neg c10]
  by_cases c11 : z = 11
  · rw [if_pos c11]
    obtain ⟨v2, b2, h2⟩ := some_l (n := 4) (by omega) b1
    have h2' : hf_L_some (4 : Int32) b1 = some (v2, b2) := h2
    rw [h2', Option.bind_some]
    exact ap_of P hB (cx_5 w hB v1 v2) b2
  rw [if_neg c11]
  by_cases c12 : z = 12
  · rw [if_pos c12]
    obtain ⟨v2, b2, h2⟩ := some_l (n := 4) (by omega) b1
    have h2' : hf_L_some (4 : Int32) b1 = some (v2, b2) := h2
    rw [h2', Option.bind_some]
    exact ap_of P hB (cx_5 w hB v1 v2) b2
  rw [if_neg c12]
  by_cases c13 : z = 13
  · rw [if_pos c13]
    obtain ⟨v2, b2, h2⟩ := some_l (n := 4) (by omega) b1
    have h2' : hf_L_some (4 : Int32) b1 = some (v2, b2) := h2
    rw [h2', Option.bind_some]
    obtain ⟨v3, b3, h3⟩ := nx_l (x := (20 : Int32)) (by decide) b2
    try dsimp only
    rw [h3, Option.bind_some]
    try dsimp only
    by_cases d : v3 = 0
    · rw [if_pos d]
      exact ap_of P hB (cx_6 w hB v2 _) b3
    · obtain ⟨v4, b4, h4⟩ := nx_l (x := (9 : Int32)) (by decide) b3
      rw [if_neg d, h4, Option.bind_some]
      exact ap_of P hB (cx_6 w hB v2 v4) b4
  rw [if_neg c13]
  by_cases c14 : z = 14
  · rw [if_pos c14]
    obtain ⟨v2, b2, h2⟩ := some_l (n := 4) (by omega) b1
    have h2' : hf_L_some (4 : Int32) b1 = some (v2, b2) := h2
    rw [h2', Option.bind_some]
    obtain ⟨v3, b3, h3⟩ := nx_l (x := (20 : Int32)) (by decide) b2
    try dsimp only
    rw [h3, Option.bind_some]
    try dsimp only
    by_cases d : v3 = 0
    · rw [if_pos d]
      exact ap_of P hB (cx_6 w hB v2 _) b3
    · obtain ⟨v4, b4, h4⟩ := nx_l (x := (9 : Int32)) (by decide) b3
      rw [if_neg d, h4, Option.bind_some]
      exact ap_of P hB (cx_6 w hB v2 v4) b4
  rw [if_neg c14]
  by_cases c15 : z = 15
  · rw [if_pos c15]
    obtain ⟨v2, b2, h2⟩ := nx_l (x := (20 : Int32)) (by decide) b1
    rw [h2, Option.bind_some]
    try dsimp only
    by_cases d : v2 = 0
    · rw [if_pos d]
      exact ap_of P hB (cx_7 w hB _) b2
    · obtain ⟨v3, b3, h3⟩ := nx_l (x := (7 : Int32)) (by decide) b2
      rw [if_neg d, h3, Option.bind_some]
      exact ap_of P hB (cx_7 w hB _) b3
  rw [if_neg c15]
  by_cases c16 : z = 16
  · rw [if_pos c16]
    obtain ⟨v2, b2, h2⟩ := nx_l (x := (20 : Int32)) (by decide) b1
    rw [h2, Option.bind_some]
    try dsimp only
    by_cases d : v2 = 0
    · rw [if_pos d]
      exact ap_of P hB (cx_7 w hB _) b2
    · obtain ⟨v3, b3, h3⟩ := nx_l (x := (7 : Int32)) (by decide) b2
      rw [if_neg d, h3, Option.bind_some]
      exact ap_of P hB (cx_7 w hB _) b3
  rw [if_neg c16]
  by_cases c17 : z = 17
  · rw [if_pos c17]
    exact ap_of P hB (cx_2 w hB v1) b1
  rw [if_neg c17]
  by_cases c18 : z = 18
  · rw [if_pos c18]
    exact ap_of P hB (cx_2 w hB v1) b1
  rw [if_neg c18]
  by_cases c19 : z = 19
  · rw [if_pos c19]
    exact ap_of P hB (cx_2 w hB v1) b1
  rw [if_neg c19]
  by_cases c20 : z = 20
  · rw [if_pos c20]
    exact ap_of P hB (cx_2 w hB v1) b1
  rw [if_neg c20]
  by_cases c21 : z = 21
  · rw [if_pos c21]
    exact ap_of P hB (cx_2 w hB v1) b1
  rw [if_neg c21]
  by_cases c22 : z = 22
  · rw [if_pos c22]
    exact ap_of P hB (cx_2 w hB v1) b1
  rw [if_neg c22]
  by_cases c23 : z = 23
  · rw [if_pos c23]
    exact ap_of P hB (cx_2 w hB v1) b1
  rw [if_neg c23]
  exact ap_of P hB ⟨_, cx_9 w hB⟩ b1
end
