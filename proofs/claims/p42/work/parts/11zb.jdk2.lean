/-! THE BUILDER: what its methods do to a text T, held in n places g -/
def sbT (T : List Nat) (n : Nat) (g : Nat → Int32) : Prop := T.length ≤ n ∧ n ≤ 2 * T.length + 16 ∧ sb_Fit g ∧ ∀ i, i < T.length → T.getD i 0 < 256 ∧ g i = sb_b (T.getD i 0)
theorem oN (n : Nat) : Int32.ofNat n = nI n := by
  have h : Int32.ofNat n = nI n := rfl
  exact h.trans rfl
theorem gc1_nI {y n : Nat} (hy : y < 2147483648) (hn : n < 2147483648) : gc1 (nI y) n = if y ≤ n then 0 else 1 := by
  unfold gc1
  rw [oN]
  by_cases h : y ≤ n
  · rw [if_pos h, if_pos ((nJ_le hy hn).mpr h)]
  · rw [if_neg h, if_neg (fun z => h ((nJ_le hy hn).mp z))]
def gnw (y n : Nat) : Nat := if y ≤ n then n else if y - n < n + 2 then n + (n + 2) else y
theorem gc2_nI {y n : Nat} (hy : y < 2147483648) (hn : n < 2147483648) : gc2 (nI y) n = if y ≤ n then 0 else gnw y n := by
  unfold gc2 gcap gnw
  rw [oN, nI_clamp hy]
  by_cases h : y ≤ n
  · rw [if_pos h, if_pos ((nJ_le hy hn).mpr h)]
  · rw [if_neg h, if_neg (fun z => h ((nJ_le hy hn).mp z)), if_neg h]
    by_cases h2 : y - n < n + 2
    · rw [if_pos h2, if_pos h2]
    · rw [if_neg h2, if_neg h2]; omega
theorem lg_up {n m : Nat} (h : 2 * n + 2 ≤ m) : Nat.log2 n + 1 ≤ Nat.log2 m := by
  rw [Nat.le_log2 (by omega), Nat.pow_succ]
  by_cases h0 : n = 0
  · subst h0
    show 1 * 2 ≤ m
    omega
  · have := Nat.log2_self_le h0
    omega
theorem nc_spec {y n : Nat} (q : Int32) (g : Nat → Int32) (hy : n < y) (h2 : y ≤ 40000) : hf_J5_newCapacity_0f7a4 q n g (nI y) = some (nI (gnw y n)) := by
  unfold hf_J5_newCapacity_0f7a4 hf_J8_newLength_cabcc fJ9_max_7cf53
  simp only [bdE, oN, sb_shl0]
  rw [nI_sub (by omega), show nI n + 2 = nI (n + 2) from nJ_add n 2]
  have hg : gnw y n = (if y - n < n + 2 then n + (n + 2) else y) := by
    unfold gnw
    exact if_neg (by omega)
  rw [hg]
  by_cases h : y - n < n + 2
  · rw [if_pos ((nJ_lt (by omega) (by omega)).mpr h), if_pos h]
    simp only [Option.bind_some]
    rw [nJ_add, if_neg (nI_nle (by omega) (by omega)), if_neg (show ¬ (2147483639 : Int32) < nI _ from nI_nlt (a := 2147483639) (by omega) (by omega))]
    simp only [Option.bind_some]
    rw [if_neg (show ¬ nI _ = (2147483647 : Int32) from fun z => by have := (nJ_eq (b := 2147483647) (by omega) (by omega)).mp z; omega), sb_shr0]
  · rw [if_neg (fun z => h ((nJ_lt (by omega) (by omega)).mp z)), if_neg h]
    simp only [Option.bind_some]
    rw [nJ_add, show n + (y - n) = y by omega, if_neg (nI_nle (by omega) (by omega)), if_neg (show ¬ (2147483639 : Int32) < nI _ from nI_nlt (a := 2147483639) (by omega) (by omega))]
    simp only [Option.bind_some]
    rw [if_neg (show ¬ nI _ = (2147483647 : Int32) from fun z => by have := (nJ_eq (b := 2147483647) (by omega) (by omega)).mp z; omega), sb_shr0]
theorem co_spec {n m : Nat} {g : Nat → Int32} (hg : sb_Fit g) (h : n < m) (hm : m ≤ 90000) : hf_J7_copyOf_9075b 1 m n g (nI m) = some (m, va_cpy g (fun _ => 0) 0 0 n) := by
  unfold hf_J7_copyOf_9075b fJ9_min_7cf53
  simp only [bdE, oN]
  rw [if_neg (fun z => by have := (nJ_eq (by omega) (by omega)).mp z; omega), nI_clamp (n := m) (by omega), if_neg (fun z => by
    rcases z with z | z
    · exact nI_neg0 (a := m) (by omega) z
    · omega), if_pos (by omega), if_neg (fun z => by have := (nJ_lt (by omega) (by omega)).mp z; omega)]
  simp only [Option.bind_some]
  rw [nI_clamp (n := n) (by omega), sb_cl0, if_pos ⟨⟨by decide, by decide, nI_neg0 (by omega)⟩, by omega, by omega, fun i _ => hg _⟩]
theorem ec_spec {T : List Nat} {n w : Nat} {g : Nat → Int32} (h : T.length ≤ n ∧ n ≤ 2 * (T.length + w) + 16 ∧ sb_Fit g ∧ ∀ i, i < T.length → T.getD i 0 < 256 ∧ g i = sb_b (T.getD i 0)) (hw : T.length + w ≤ 20000) : ∃ n' g', hf_J5_ensureCapacityInternal_d00df (gc1 (nI (T.length + w)) n) (gc2 (nI (T.length + w)) n) (nI (T.length + w)) (nI T.length) n g = some (nI T.length, n', g') ∧ T.length + w ≤ n' ∧ n' ≤ 2 * (T.length + w) + 16 ∧ sb_Fit g' ∧ (∀ i, i < T.length → T.getD i 0 < 256 ∧ g' i = sb_b (T.getD i 0)) ∧ Nat.log2 n + gc1 (nI (T.length + w)) n ≤ Nat.log2 n' ∧ 2 * n + gc2 (nI (T.length + w)) n ≤ 2 * n' := by
  obtain ⟨h1, h2, h3, h4⟩ := h
  have e1 := gc1_nI (y := T.length + w) (n := n) (by omega) (by omega)
  have e2 := gc2_nI (y := T.length + w) (n := n) (by omega) (by omega)
  unfold hf_J5_ensureCapacityInternal_d00df
  simp only [bdE, oN, sb_shr0, sb_shl0]
  by_cases hc : T.length + w ≤ n
  · rw [if_pos hc] at e1 e2
    rw [nI_iI, nI_iI n, iI_sub, if_pos (show iI _ ≤ (0 : Int32) from (iI_le (b := 0) (by omega) (by omega) (by decide) (by decide)).mpr (by omega))]
    exact ⟨n, g, by rw [nI_iI], hc, by omega, h3, h4, by rw [← nI_iI, e1]; omega, by rw [← nI_iI, e2]; omega⟩
  · rw [if_neg hc] at e1 e2
    have hb : gnw (T.length + w) n = (if T.length + w - n < n + 2 then n + (n + 2) else T.length + w) := by rw [gnw, if_neg hc]
    have hb1 : T.length + w ≤ gnw (T.length + w) n ∧ gnw (T.length + w) n ≤ 2 * (T.length + w) ∧ 2 * n + 2 ≤ gnw (T.length + w) n := by
      rw [hb]; split <;> omega
    rw [if_neg (show ¬ nI (T.length + w) - nI n ≤ 0 by
      rw [nI_sub (by omega)]
      exact nI_nle (by omega) (by omega)), nc_spec _ _ (by omega) (by omega)]
    simp only [Option.bind_some]
    rw [nI_clamp (by omega), if_pos (by rw [e1, e2]; omega), co_spec h3 (by omega) (by omega)]
    refine ⟨_, _, rfl, hb1.1, by omega, sb_fitC h3 sb_fit0, fun i hi => ⟨(h4 i hi).1, by show va_cpy g (fun _ => 0) 0 0 n i = _; rw [sb_cpy0 (by omega)]; exact (h4 i hi).2⟩, by rw [e1]; exact lg_up hb1.2.2, by rw [e2]; omega⟩
theorem sb_put {T W : List Nat} {n' : Nat} {g g' : Nat → Int32} (h1 : T.length + W.length ≤ n') (h2 : n' ≤ 2 * (T.length + W.length) + 16) (hf : sb_Fit g) (h3 : ∀ i, i < T.length → T.getD i 0 < 256 ∧ g i = sb_b (T.getD i 0)) (hp : gPut g g' T.length W) (hW : ∀ i, i < W.length → W.getD i 0 < 256) : sbT (T ++ W) n' g' := by
  refine ⟨by rw [List.length_append]; exact h1, by rw [List.length_append]; exact h2, fun j => ?_, fun i hi => ?_⟩
  · by_cases hj : j < T.length ∨ T.length + W.length ≤ j
    · rw [hp.2 j hj]; exact hf j
    · have := hp.1 (j - T.length) (by omega)
      rw [show T.length + (j - T.length) = j by omega] at this
      rw [this]; exact sb_fitB _
  · rw [List.length_append] at hi
    by_cases hj : i < T.length
    · rw [gD_l hj, hp.2 i (Or.inl hj)]
      exact h3 i hj
    · rw [gD_r (by omega)]
      have := hp.1 (i - T.length) (by omega)
      rw [show T.length + (i - T.length) = i by omega] at this
      exact ⟨hW _ (by omega), this⟩
theorem sbT_w {T : List Nat} {n : Nat} {g : Nat → Int32} (h : sbT T n g) (w : Nat) : T.length ≤ n ∧ n ≤ 2 * (T.length + w) + 16 ∧ sb_Fit g ∧ ∀ i, i < T.length → T.getD i 0 < 256 ∧ g i = sb_b (T.getD i 0) := ⟨h.1, by have := h.2.1; omega, h.2.2⟩
theorem iT_lt (z : Int) : ∀ i, i < (iT z).length → (iT z).getD i 0 < 256 := by
  have h0 : ∀ n v, ∀ x ∈ dTf n v, x < 256 := by
    intro n
    induction n with
    | zero => intro v x hx; simp [dTf] at hx
    | succ n ih =>
      intro v x hx
      rw [dTf] at hx
      by_cases h : v < 10
      · rw [if_pos h] at hx
        simp at hx; omega
      · rw [if_neg h] at hx
        simp at hx
        rcases hx with hx | hx
        · exact ih _ _ hx
        · omega
  have h1 : ∀ x ∈ iT z, x < 256 := by
    intro x hx
    rw [iT, List.mem_append] at hx
    rcases hx with hx | hx
    · by_cases h : z < 0
      · rw [if_pos h] at hx; simp at hx; omega
      · rw [if_neg h] at hx; simp at hx
    · exact h0 _ _ x hx
  intro i hi
  rw [gD_e hi]
  exact h1 _ (List.getElem_mem hi)
/-- append(char) -/
theorem ap_char {T : List Nat} {n c : Nat} {g : Nat → Int32} (h : sbT T n g) (hw : T.length + 1 ≤ 20000) (hc : c < 256) : ∃ n' g', hf_J4_append_cf468 (gc1 (nI (T.length) + 1) n) (gc2 (nI (T.length) + 1) n) (nI c) (nI T.length) n g = some (nI (T ++ [c]).length, n', g') ∧ sbT (T ++ [c]) n' g' ∧ Nat.log2 n + gc1 (nI T.length + 1) n ≤ Nat.log2 n' ∧ 2 * n + gc2 (nI T.length + 1) n ≤ 2 * n' := by
  obtain ⟨n', g', e1, e2, e3, e4, e5, e6, e7⟩ := ec_spec (sbT_w h _) hw
  have ey : nI T.length + 1 = nI (T.length + 1) := nJ_add _ 1
  unfold hf_J4_append_cf468 hf_J5_append_3fe6f fJ1_canEncode_fc78d hf_J5_isLatin1_aae02
  simp only [bdE]
  rw [ey, if_pos ⟨by omega, by omega⟩, if_pos ⟨by omega, by omega⟩, e1]
  simp only [Option.bind_some]
  rw [if_neg (show ¬ (255 : Int32) < nI c from nI_nlt (a := 255) (by omega) (by omega))]
  simp only [Option.bind_some]
  rw [if_neg (by decide), if_neg (nI_in (by omega) (by omega)), nI_clamp (by omega), ey]
  simp only [Option.bind_some]
  refine ⟨n', _, by rw [List.length_append]; rfl, sb_put (W := [c]) e2 e3 e4 e5 ?_ ?_, e6, e7⟩
  · rw [pk_vb, show (nI c).toInt8.toInt32 = sb_b c from rfl]
    exact gPut_one g' T.length c
  · intro i hi
    have : i = 0 := by simp at hi; omega
    subst this; exact hc
/-- append(int) -/
theorem ap_int {T : List Nat} {n : Nat} {z : Int} {g : Nat → Int32} (h : sbT T n g) (h1 : -2147483648 ≤ z) (h2 : z < 2147483648) (hw : T.length + (iT z).length ≤ 20000) : ∃ n' g', hf_J4_append_bf812 (gc1 (nI T.length + nI (iT z).length) n) (gc2 (nI T.length + nI (iT z).length) n) (iI z) (nI T.length) n g = some (nI (T ++ iT z).length, n', g') ∧ sbT (T ++ iT z) n' g' ∧ Nat.log2 n + gc1 (nI T.length + nI (iT z).length) n ≤ Nat.log2 n' ∧ 2 * n + gc2 (nI T.length + nI (iT z).length) n ≤ 2 * n' := by
  obtain ⟨n', g', e1, e2, e3, e4, e5, e6, e7⟩ := ec_spec (sbT_w h _) hw
  obtain ⟨g'', f1, f2⟩ := gc_spec h1 h2 (q := T.length) (n := n') (by omega) (g := g') e2
  unfold hf_J4_append_bf812 hf_J5_append_c97b9 hf_J5_isLatin1_aae02
  simp only [bdE]
  rw [ss_spec h1 h2]
  simp only [Option.getD_some, Option.bind_some]
  rw [nJ_add, if_pos ⟨by omega, by omega⟩, if_pos ⟨by omega, by omega⟩, e1]
  simp only [Option.bind_some]
  rw [f1]
  simp only [Option.bind_some]
  exact ⟨n', g'', by rw [List.length_append], sb_put e2 e3 e4 e5 f2 (iT_lt z), e6, e7⟩
/-- String.equals -/
theorem eq_loop {n0 n1 : Nat} {f g : Nat → Int32} (h0 : n0 < 900) (h1 : n1 = n0) (he : ∀ i, i < n0 → f i = g i) : ∀ d i n, i + d = n0 → d < n → hf_J1_equals_b5fdf_9 n0 f n1 g n (nI i) = some 1
  | d, i, 0, _, h => absurd h (by omega)
  | 0, i, n + 1, hi, _ => by
    rw [hf_J1_equals_b5fdf_9, oN, if_pos (nI_le (by omega) (by omega))]
  | d + 1, i, n + 1, hi, hn => by
    subst h1
    rw [hf_J1_equals_b5fdf_9, oN, if_neg (nI_ge (by omega) (by omega)), if_neg (nI_in (by omega) (by omega)), if_neg (nI_in (by omega) (by omega)), nI_clamp (by omega), if_pos (he i (by omega))]
    simp only [bdE]
    rw [nI_1]
    exact eq_loop h0 rfl he d (i + 1) n (by omega) (by omega)
theorem eq_spec {n : Nat} {f g : Nat → Int32} (h0 : n < 900) (he : ∀ i, i < n → f i = g i) : hf_J0_equals_9ea2d n f n g = some 1 := by
  unfold hf_J0_equals_9ea2d hf_J0_equals_9ea2d_36 hf_J1_equals_b5fdf
  rw [if_pos rfl, show (0 : Int32) = nI 0 from rfl, eq_loop h0 rfl he n 0 vF (by omega) (by show n < 1000; omega)]
  simp only [Option.bind_some]
  rw [if_neg (by decide)]
