theorem iI_z0 {z : Int} (h1 : -1000 ≤ z) (h2 : z ≤ 1000) : (iI z = nI 0) ↔ z = 0 := iI_eq (b := 0) (by omega) (by omega) (by omega) (by omega)
theorem iI_p0 {z : Int} (h1 : -1000 ≤ z) (h2 : z ≤ 1000) : (nI 0 < iI z) ↔ 0 < z := iI_lt (a := 0) (by omega) (by omega) (by omega) (by omega)
theorem iI_n0 {z : Int} (h1 : -1000 ≤ z) (h2 : z ≤ 1000) : (iI z ≤ nI 0) ↔ z ≤ 0 := iI_le (b := 0) (by omega) (by omega) (by omega) (by omega)
section
variable {B : Nat} {a : mA} {u : vZ} {v : vS}
theorem rq_hi64 (K2 : Int32 → Int32 → vS → Option (Int32 × vS)) (K17 : Int32 → Int32 → Int32 → Int32 → vS → Option (Int32 × vS)) (x : Int32) {s o c : Nat} {z : Int} (hs : s < 8) (ho : o < 8) (h1 : -1000 ≤ z) (h2 : z ≤ 1000) : fX8_highest_64 K2 K17 x (nI s) (nI c) (nI o) (iI z) v = K17 x (nI s) (nI (c + if o = s then 0 else if 0 < z then 1 else if z = 0 then (if o < s then 1 else 0) else 0)) (nI (o + 1)) v := by
  by_cases e1 : o = s
  · simp (disch := omega) only [fX8_highest_64, e1, peta, if_true, if_false, not_true, not_false_iff, lits, nJ_le, nJ_lt, nJ_eq, nJ_clamp, nJ_add, nI_mul, nI_sub, nI_and, nI_or, nI_xor, Nat.add_zero, Nat.not_lt_zero, leF, leT, ltF, ltT, eqF, eqT, bd, obp_some, Option.bind_some, reduceIte, reduceCtorEq, or_self, or_true, true_or, or_false, false_or]
  by_cases e2 : 0 < z
  · simp (disch := omega) only [fX8_highest_64, e1, e2, iI_p0, peta, if_true, if_false, not_true, not_false_iff, lits, nJ_le, nJ_lt, nJ_eq, nJ_clamp, nJ_add, nI_mul, nI_sub, nI_and, nI_or, nI_xor, Nat.add_zero, Nat.not_lt_zero, leF, leT, ltF, ltT, eqF, eqT, bd, obp_some, Option.bind_some, reduceIte, reduceCtorEq, or_self, or_true, true_or, or_false, false_or]
  by_cases e3 : z = 0
  · by_cases e4 : o < s
    · simp (disch := omega) only [fX8_highest_64, e1, e2, e3, e4, iI_p0, iI_z0, Int.lt_irrefl, peta, if_true, if_false, not_true, not_false_iff, lits, nJ_le, nJ_lt, nJ_eq, nJ_clamp, nJ_add, nI_mul, nI_sub, nI_and, nI_or, nI_xor, Nat.add_zero, Nat.not_lt_zero, leF, leT, ltF, ltT, eqF, eqT, bd, obp_some, Option.bind_some, reduceIte, reduceCtorEq, or_self, or_true, true_or, or_false, false_or]
    · simp (disch := omega) only [fX8_highest_64, e1, e2, e3, e4, iI_p0, iI_z0, Int.lt_irrefl, peta, if_true, if_false, not_true, not_false_iff, lits, nJ_le, nJ_lt, nJ_eq, nJ_clamp, nJ_add, nI_mul, nI_sub, nI_and, nI_or, nI_xor, Nat.add_zero, Nat.not_lt_zero, leF, leT, ltF, ltT, eqF, eqT, bd, obp_some, Option.bind_some, reduceIte, reduceCtorEq, or_self, or_true, true_or, or_false, false_or]
  · simp (disch := omega) only [fX8_highest_64, e1, e2, e3, iI_p0, iI_z0, peta, if_true, if_false, not_true, not_false_iff, lits, nJ_le, nJ_lt, nJ_eq, nJ_clamp, nJ_add, nI_mul, nI_sub, nI_and, nI_or, nI_xor, Nat.add_zero, Nat.not_lt_zero, leF, leT, ltF, ltT, eqF, eqT, bd, obp_some, Option.bind_some, reduceIte, reduceCtorEq, or_self, or_true, true_or, or_false, false_or]
theorem rq_hiStep (w : WF B a) (q : RR a (v 1)) (K2 : Int32 → Int32 → vS → Option (Int32 × vS)) (x : Int32) {s o : Nat} (c n : Nat) (hs : s < a 0 0) (ho : o < a 0 0) : fX8_highest_17 (n + 1) K2 x (nI s) (nI c) (nI o) v = fX8_highest_17 n K2 x (nI s) (nI (c + if hiP a o s then 1 else 0)) (nI (o + 1)) v := by
  have hn := wf_n w
  have b1 := ang_b w hs
  have b2 := ang_b w ho
  have c1 := chr_le (a 1 s)
  have c2 := chr_le (a 1 o)
  have i1 : ¬ v 1 0 ≤ nI o := by
    rw [rr_n q, nJ_le (by omega) (by omega)]
    omega
  have e1 : nI (chr (a 1 o)) - nI (chr (a 1 s)) = iI ((chr (a 1 o) : Int) - (chr (a 1 s) : Int)) := by
    rw [nI_iI, nI_iI, iI_sub]
  have e64 : ∀ (K17 : Int32 → Int32 → Int32 → Int32 → vS → Option (Int32 × vS)) (z : Int), -1000 ≤ z → z ≤ 1000 → fX8_highest_64 K2 K17 x (nI s) (nI c) (nI o) (iI z) v = K17 x (nI s) (nI (c + if o = s then 0 else if 0 < z then 1 else if z = 0 then (if o < s then 1 else 0) else 0)) (nI (o + 1)) v := fun K17 z h1 h2 => rq_hi64 K2 K17 x (by omega) (by omega) h1 h2
  have z1 : -1000 ≤ (chr (a 1 o) : Int) - (chr (a 1 s) : Int) := by omega
  have z2 : (chr (a 1 o) : Int) - (chr (a 1 s) : Int) ≤ 1000 := by omega
  have z3 : -1000 ≤ ang a o - ang a s := by omega
  have z4 : ang a o - ang a s ≤ 1000 := by omega
  rw [fX8_highest_17, if_neg i1, rq_angled w q ho, obp_some, rq_angled w q hs, obp_some, iI_sub]
  dsimp only [bd]
  rw [rq_cheer w q ho, obp_some, rq_cheer w q hs, obp_some, e1]
  have H : hiP a o s ↔ (if ang a o = ang a s then (if chr (a 1 o) = chr (a 1 s) then o < s else chr (a 1 s) < chr (a 1 o)) else ang a s < ang a o) := Iff.rfl
  generalize hy : ang a o - ang a s = za at *
  generalize hz : (chr (a 1 o) : Int) - (chr (a 1 s) : Int) = zc at *
  rw [e64 _ zc z1 z2, e64 _ za z3 z4, l32_0]
  by_cases d1 : ang a o = ang a s
  · have d2 : za = 0 := by omega
    rw [if_pos d1] at H
    rw [d2, if_pos (show iI 0 = nI 0 from rfl)]
    by_cases d3 : o = s
    · have H2 : ¬ hiP a o s := by
        rw [H, d3, if_pos rfl]
        omega
      rw [if_pos d3, if_neg H2]
    · rw [if_neg d3]
      by_cases d4 : chr (a 1 o) = chr (a 1 s)
      · rw [if_pos d4] at H
        have d5 : ¬ (0 : Int) < zc := by omega
        have d6 : zc = 0 := by omega
        rw [if_neg d5, if_pos d6]
        by_cases d7 : o < s
        · rw [if_pos d7, if_pos (H.mpr d7)]
        · rw [if_neg d7, if_neg (fun h => d7 (H.mp h))]
      · rw [if_neg d4] at H
        have d6 : ¬ zc = 0 := by omega
        by_cases d5 : (0 : Int) < zc
        · rw [if_pos d5, if_pos (H.mpr (by omega))]
        · rw [if_neg d5, if_neg d6, if_neg (fun h => d5 (by have := H.mp h; omega))]
  · have d2 : ¬ iI za = nI 0 := by rw [iI_z0 (by omega) (by omega)]; omega
    have d3 : ¬ o = s := fun e => d1 (by rw [e])
    have d6 : ¬ za = 0 := by omega
    rw [if_neg d1] at H
    rw [if_neg d2, if_neg d3]
    by_cases d5 : 0 < za
    · rw [if_pos d5, if_pos (H.mpr (by omega))]
    · rw [if_neg d5, if_neg d6, if_neg (fun h => d5 (by have := H.mp h; omega))]
theorem rq_hi2 (w : WF B a) (q : RR a (v 1)) (x : Int32) {s : Nat} (n : Nat) (hs : s < a 0 0) : fX8_highest_2 (n + 1) x (nI s) v = if nI (plS a s) = x then some (nI s, v) else fX8_highest_2 n x (nI (s + 1)) v := by
  have hn := wf_n w
  have i1 : ¬ v 1 0 ≤ nI s := by
    rw [rr_n q, nJ_le (by omega) (by omega)]
    omega
  rw [fX8_highest_2, if_neg i1]
  refine loop_to (F := fun m i => fX8_highest_17 m (fun a0 a1 a2 => fX8_highest_2 n a0 a1 a2) x (nI s) (nI (sumN i (fun o => if hiP a o s then 1 else 0))) (nI i) v) (a 0 0) (by omega) (fun m i hi => ?_) (fun m => ?_)
  · exact rq_hiStep w q _ x _ m hs hi
  · have i2 : v 1 0 ≤ nI (a 0 0) := by
      rw [rr_n q, nJ_le (by omega) (by omega)]
      omega
    rw [fX8_highest_17, if_pos i2]
    dsimp only [bd]
    rw [l32_1, nJ_add]
    rfl
theorem q_highest (w : WF B a) (r : RX a u.2.1.1) (q : RR a (v 1)) (x : Int32) : QS (fX7_highest x u) (fX8_highest x v) u v := by
  have hn := wf_n w
  have st7 : ∀ n s, s < a 0 0 → fX7_highest_2 (n + 1) x (nI s) u = if nI (plS a s) = x then some (nI s, u) else fX7_highest_2 n x (nI (s + 1)) u := by
    intro n s hs
    have i1 : ¬ u.2.1.1.1 0 0 ≤ nI s := by
      rw [rx_n r, nJ_le (by omega) (by omega)]
      omega
    rw [fX7_highest_2, if_neg i1, xq_placeS w r hs, obp_some]
    dsimp only [bd]
    rw [l32_1, nJ_add]
  rcases first_or (fun s => nI (plS a s) = x) 0 (a 0 0) with ⟨k, -, h2, h3, h4⟩ | h5
  · refine ⟨nI k, ?_, ?_⟩
    · rw [fX7_highest]
      refine loop_ft (F := fun n i => fX7_highest_2 n x (nI i) u) 0 k (by omega) (by omega) (fun n i h6 h7 => ?_) (fun n => ?_)
      · show fX7_highest_2 (n + 1) x (nI i) u = _
        rw [st7 n i (by omega), if_neg (h4 i (by omega) h7)]
      · show fX7_highest_2 (n + 1) x (nI k) u = _
        rw [st7 n k (by omega), if_pos h3]
    · rw [fX8_highest]
      refine loop_ft (F := fun n i => fX8_highest_2 n x (nI i) v) 0 k (by omega) (by omega) (fun n i h6 h7 => ?_) (fun n => ?_)
      · show fX8_highest_2 (n + 1) x (nI i) v = _
        rw [rq_hi2 w q x n (by omega), if_neg (h4 i (by omega) h7)]
      · show fX8_highest_2 (n + 1) x (nI k) v = _
        rw [rq_hi2 w q x n (by omega), if_pos h3]
  · refine ⟨-100001, ?_, ?_⟩
    · rw [fX7_highest]
      refine loop_ft (F := fun n i => fX7_highest_2 n x (nI i) u) 0 (a 0 0) (by omega) (by omega) (fun n i h6 h7 => ?_) (fun n => ?_)
      · show fX7_highest_2 (n + 1) x (nI i) u = _
        rw [st7 n i (by omega), if_neg (h5 i (by omega) h7)]
      · show fX7_highest_2 (n + 1) x (nI (a 0 0)) u = _
        rw [fX7_highest_2, rx_n r]
        exact if_pos ((nJ_le (by omega) (by omega)).mpr (by omega))
    · rw [fX8_highest]
      refine loop_ft (F := fun n i => fX8_highest_2 n x (nI i) v) 0 (a 0 0) (by omega) (by omega) (fun n i h6 h7 => ?_) (fun n => ?_)
      · show fX8_highest_2 (n + 1) x (nI i) v = _
        rw [rq_hi2 w q x n (by omega), if_neg (h5 i (by omega) h7)]
      · show fX8_highest_2 (n + 1) x (nI (a 0 0)) v = _
        rw [fX8_highest_2, rr_n q]
        exact if_pos ((nJ_le (by omega) (by omega)).mpr (by omega))
theorem rq_shStep (w : WF B a) (q : RR a (v 1)) (K2 : Int32 → Int32 → vS → Option (Int32 × vS)) (x : Int32) {s o : Nat} (c n : Nat) (hs : s < a 0 3) (ho : o < a 0 3) : fX8_ranked_17 (n + 1) K2 x (nI s) (nI c) (nI o) v = fX8_ranked_17 n K2 x (nI s) (nI (c + if shP a o s then 1 else 0)) (nI (o + 1)) v := by
  have hl := wf_l w
  have i1 : ¬ v 1 3 ≤ nI o := by
    rw [rr_l q, nJ_le (by omega) (by omega)]
    omega
  have e0 : Op.cmpValue (FP.fcmp (fe (a 7 o)) (fe (a 7 s))) CmpOp.l = lcm a o s := rfl
  rw [fX8_ranked_17, if_neg i1]
  simp only [rq_value w q ho, rq_value w q hs, obp_some, e0, bd, l32_1, l32_0, nJ_add, Nat.add_zero]
  have H : shP a o s ↔ (if lcm a o s = 0 then o < s else ¬ lcm a o s ≤ 0) := Iff.rfl
  rw [l32_0] at H
  have t : ∀ z : Int32, (¬ z ≤ nI 0) ↔ nI 0 < z := by
    intro z
    rw [Int32.not_le]
  rw [t] at H
  by_cases d1 : nI 0 < lcm a o s
  · have d2 : ¬ lcm a o s = nI 0 := fun e => by rw [e] at d1; exact Int32.lt_irrefl d1
    rw [if_neg d2] at H
    rw [if_pos d1, if_pos (H.mpr d1)]
  · rw [if_neg d1]
    by_cases d2 : lcm a o s = nI 0
    · rw [if_pos d2] at H
      rw [if_pos d2]
      by_cases d3 : o < s
      · have d4 : ¬ nI s ≤ nI o := by rw [nJ_le (by omega) (by omega)]; omega
        rw [if_neg d4, if_pos (H.mpr d3)]
      · have d4 : nI s ≤ nI o := by rw [nJ_le (by omega) (by omega)]; omega
        rw [if_pos d4, if_neg (fun h => d3 (H.mp h)), Nat.add_zero c]
    · rw [if_neg d2] at H
      rw [if_neg d2, if_neg (fun h => d1 (H.mp h)), Nat.add_zero c]
theorem rq_sh2 (w : WF B a) (q : RR a (v 1)) (x : Int32) {s : Nat} (n : Nat) (hs : s < a 0 3) : fX8_ranked_2 (n + 1) x (nI s) v = if nI (plL a s) = x then some (nI s, v) else fX8_ranked_2 n x (nI (s + 1)) v := by
  have hl := wf_l w
  have i1 : ¬ v 1 3 ≤ nI s := by
    rw [rr_l q, nJ_le (by omega) (by omega)]
    omega
  rw [fX8_ranked_2, if_neg i1]
  refine loop_to (F := fun m i => fX8_ranked_17 m (fun a0 a1 a2 => fX8_ranked_2 n a0 a1 a2) x (nI s) (nI (sumN i (fun o => if shP a o s then 1 else 0))) (nI i) v) (a 0 3) (by omega) (fun m i hi => ?_) (fun m => ?_)
  · exact rq_shStep w q _ x _ m hs hi
  · have i2 : v 1 3 ≤ nI (a 0 3) := by
      rw [rr_l q, nJ_le (by omega) (by omega)]
      omega
    rw [fX8_ranked_17, if_pos i2]
    dsimp only [bd]
    rw [l32_1, nJ_add]
    rfl
theorem q_ranked (w : WF B a) (r : RX a u.2.1.1) (q : RR a (v 1)) (x : Int32) : QS (fX7_ranked x u) (fX8_ranked x v) u v := by
  have hl := wf_l w
  have st7 : ∀ n s, s < a 0 3 → fX7_ranked_2 (n + 1) x (nI s) u = if nI (plL a s) = x then some (nI s, u) else fX7_ranked_2 n x (nI (s + 1)) u := by
    intro n s hs
    have i1 : ¬ u.2.1.1.1 0 7 ≤ nI s := by
      rw [rx_l r, nJ_le (by omega) (by omega)]
      omega
    rw [fX7_ranked_2, if_neg i1, xq_placeL w r hs, obp_some]
    dsimp only [bd]
    rw [l32_1, nJ_add]
  rcases first_or (fun s => nI (plL a s) = x) 0 (a 0 3) with ⟨k, -, h2, h3, h4⟩ | h5
  · refine ⟨nI k, ?_, ?_⟩
    · rw [fX7_ranked]
      refine loop_ft (F := fun n i => fX7_ranked_2 n x (nI i) u) 0 k (by omega) (by omega) (fun n i h6 h7 => ?_) (fun n => ?_)
      · show fX7_ranked_2 (n + 1) x (nI i) u = _
        rw [st7 n i (by omega), if_neg (h4 i (by omega) h7)]
      · show fX7_ranked_2 (n + 1) x (nI k) u = _
        rw [st7 n k (by omega), if_pos h3]
    · rw [fX8_ranked]
      refine loop_ft (F := fun n i => fX8_ranked_2 n x (nI i) v) 0 k (by omega) (by omega) (fun n i h6 h7 => ?_) (fun n => ?_)
      · show fX8_ranked_2 (n + 1) x (nI i) v = _
        rw [rq_sh2 w q x n (by omega), if_neg (h4 i (by omega) h7)]
      · show fX8_ranked_2 (n + 1) x (nI k) v = _
        rw [rq_sh2 w q x n (by omega), if_pos h3]
  · refine ⟨-100001, ?_, ?_⟩
    · rw [fX7_ranked]
      refine loop_ft (F := fun n i => fX7_ranked_2 n x (nI i) u) 0 (a 0 3) (by omega) (by omega) (fun n i h6 h7 => ?_) (fun n => ?_)
      · show fX7_ranked_2 (n + 1) x (nI i) u = _
        rw [st7 n i (by omega), if_neg (h5 i (by omega) h7)]
      · show fX7_ranked_2 (n + 1) x (nI (a 0 3)) u = _
        rw [fX7_ranked_2, rx_l r]
        exact if_pos ((nJ_le (by omega) (by omega)).mpr (by omega))
    · rw [fX8_ranked]
      refine loop_ft (F := fun n i => fX8_ranked_2 n x (nI i) v) 0 (a 0 3) (by omega) (by omega) (fun n i h6 h7 => ?_) (fun n => ?_)
      · show fX8_ranked_2 (n + 1) x (nI i) v = _
        rw [rq_sh2 w q x n (by omega), if_neg (h5 i (by omega) h7)]
      · show fX8_ranked_2 (n + 1) x (nI (a 0 3)) v = _
        rw [fX8_ranked_2, rr_l q]
        exact if_pos ((nJ_le (by omega) (by omega)).mpr (by omega))
end
