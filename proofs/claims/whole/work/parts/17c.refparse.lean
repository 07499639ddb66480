/-- the text as the reference holds it -/
def CT (c : Nat → Nat) (n : Nat) (v : vS) : Prop := n ≤ 60 ∧ v 0 20 = nI n ∧ (∀ i, i < n → v 6 i = nI (c i) ∧ c i < 127) ∧ RC v
def PF (v v' : vS) : Prop := (∀ b, b ≠ 0 → b ≠ 8 → v' b = v b) ∧ ∀ k, k ≠ 19 → k ≠ 22 → v' 0 k = v 0 k
def ST (v : vS) (h w : Nat) : Prop := v 0 19 = nI h ∧ v 0 22 = nI w
theorem pf_refl (v : vS) : PF v v := ⟨fun _ _ _ => rfl, fun _ _ _ => rfl⟩
theorem pf_trans {v1 v2 v3 : vS} (h : PF v1 v2) (g : PF v2 v3) : PF v1 v3 := ⟨fun b h0 h8 => (g.1 b h0 h8).trans (h.1 b h0 h8), fun k h1 h2 => (g.2 k h1 h2).trans (h.2 k h1 h2)⟩
theorem ct_pf {c : Nat → Nat} {n : Nat} {v v' : vS} (C : CT c n v) (f : PF v v') : CT c n v' := by
  obtain ⟨h1, h2, h3, h4⟩ := C
  refine ⟨h1, by rw [f.2 20 (by omega) (by omega)]; exact h2, fun i hi => by rw [f.1 6 (by omega) (by omega)]; exact h3 i hi, ?_⟩
  unfold RC at h4 ⊢
  rw [f.1 9 (by omega) (by omega), f.1 10 (by omega) (by omega)]
  exact h4
section
variable {c : Nat → Nat} {n : Nat}
theorem one_ne (v : vS) : ¬ up2 v 0 22 1 0 22 = 0 := fun h => absurd (show (1 : Int32) = 0 from h) (by decide)
theorem nI_nn {m : Nat} (h : m < 2147483648) : (0 : Int32) ≤ nI m := (nJ_le (a := 0) (by omega) h).mpr (by omega)
/-- the state with a sign read, or found wrong -/
def rdS (v : vS) (w h : Nat) : vS := up2 (up2 v 0 22 (nI w)) 0 19 (nI h)
theorem rd_pf (v : vS) (w h : Nat) : PF v (rdS v w h) := by
  refine ⟨fun b h0 h8 => ?_, fun k h1 h2 => ?_⟩
  · unfold rdS
    rw [up2_o h0, up2_o h0]
  · show upd (upd (v 0) 22 (nI w)) 19 (nI h) k = _
    rw [upd_ne h1, upd_ne h2]
theorem rd_st (v : vS) (w h : Nat) : ST (rdS v w h) h w := ⟨rfl, rfl⟩
theorem sign_in {v : vS} (C : CT c n v) {h : Nat} (hh : v 0 19 = nI h) (hn : h < n) : fX8_sign v = some (nI (c h), v) := by
  obtain ⟨h1, h2, h3, h4⟩ := C
  rw [fX8_sign, h2, hh, if_neg (by rw [nJ_le (by omega) (by omega)]; omega), if_neg ((nJ_in (n := 60) (by omega) (by omega)).mp), nJ_clamp (by omega), (h3 h hn).1]
theorem sign_out {v : vS} (C : CT c n v) {h : Nat} (hh : v 0 19 = nI h) (hn : ¬ h < n) (hb : h ≤ 60) : fX8_sign v = some (-1, v) := by
  obtain ⟨h1, h2, h3, h4⟩ := C
  rw [fX8_sign, h2, hh, if_pos (by rw [nJ_le (by omega) (by omega)]; omega)]
theorem in_dig : ∀ d, d < 127 → fX8_isIn (nI d) 48 57 = some (if 48 ≤ d ∧ d ≤ 57 then nI 1 else nI 0) := by decide +kernel
theorem in_hex : ∀ d, d < 127 → fX8_isIn (nI d) 97 102 = some (if 97 ≤ d ∧ d ≤ 102 then nI 1 else nI 0) := by decide +kernel
theorem neg1_ne : ∀ d, d < 127 → ¬ (-1 : Int32) = nI d := by decide +kernel
theorem m1_dig : fX8_isIn (-1) 48 57 = some (nI 0) := by decide +kernel
theorem m1_hex : fX8_isIn (-1) 97 102 = some (nI 0) := by decide +kernel
theorem m1_nn : ¬ (0 : Int32) ≤ -1 := by decide +kernel
/-- what a reader of some signs does -/
def FINS (c : Nat → Nat) (n : Nat) (S : List Nat) (h : Nat) (v' : vS) : Prop := ST v' (h + mm c n S h) (if mm c n S h = S.length then 0 else 1)
theorem mm_one {y h : Nat} : mm c n [y] h = if h < n ∧ okc y (c h) then 1 else 0 := by
  show (if h < n ∧ okc y (c h) then 1 + 0 else 0) = _
  rfl
theorem mark_ok {v : vS} (C : CT c n v) {h y : Nat} (hy : y < 127) (hl : y ≠ 86 ∧ y ≠ 87 ∧ y ≠ 88) (S : ST v h 0) (hh : h ≤ n) : ∃ v', fX8_mark (nI y) v = some v' ∧ PF v v' ∧ FINS c n [y] h v' := by
  have hn := C.1
  rw [fX8_mark, if_pos (by rw [S.2]; rfl)]
  unfold FINS
  rw [mm_one]
  by_cases h1 : h < n
  · rw [sign_in C S.1 h1, obp_some]
    have hc := (C.2.2.1 h h1).2
    by_cases h2 : c h = y
    · have ho : h < n ∧ okc y (c h) := ⟨h1, (okc_let hl).mpr h2⟩
      rw [if_pos (by rw [h2]), if_pos ho]
      refine ⟨rdS v 0 (h + 1), ?_, rd_pf _ _ _, rd_st _ _ _⟩
      rw [fX8_mark_22, if_pos (by decide)]
      dsimp only [bd]
      rw [if_pos (by rfl), show up2 v 0 22 0 0 19 = nI h from S.1, l32_1, nJ_add]
      rfl
    · have ho : ¬ (h < n ∧ okc y (c h)) := fun ⟨_, h3⟩ => h2 ((okc_let hl).mp h3)
      rw [if_neg (fit_ne hc hy h2), if_neg ho]
      refine ⟨rdS v 1 h, ?_, rd_pf _ _ _, rd_st _ _ _⟩
      rw [fX8_mark_22, if_pos (by decide)]
      dsimp only [bd]
      rw [if_neg (one_ne v), show up2 v 0 22 1 0 19 = nI h from S.1, l32_0, nJ_add]
      rfl
  · have ho : ¬ (h < n ∧ okc y (c h)) := fun ⟨h3, _⟩ => h1 h3
    rw [sign_out C S.1 h1 (by omega), obp_some, if_neg (neg1_ne y hy), if_neg ho]
    refine ⟨rdS v 1 h, ?_, rd_pf _ _ _, rd_st _ _ _⟩
    rw [fX8_mark_22, if_pos (by decide)]
    dsimp only [bd]
    rw [if_neg (one_ne v), show up2 v 0 22 1 0 19 = nI h from S.1, l32_0, nJ_add]
    rfl
theorem mark_wrong {v : vS} {h : Nat} (y : Int32) (S : ST v h 1) : fX8_mark y v = some v := by
  rw [fX8_mark, if_neg (by rw [S.2]; decide)]
theorem digit_ok {v : vS} (C : CT c n v) {h y : Nat} (hy : y = 86 ∨ y = 87) (S : ST v h 0) (hh : h ≤ n) : ∃ r v', fX8_digit v = some (r, v') ∧ PF v v' ∧ FINS c n [y] h v' ∧ (mm c n [y] h = 1 → r = nI (hexv (c h))) := by
  have hn := C.1
  rw [fX8_digit, if_pos (by rw [S.2]; rfl)]
  unfold FINS
  rw [mm_one]
  have hok : ∀ d, okc y d ↔ (48 ≤ d ∧ d ≤ 57) := fun d => by
    unfold okc
    rw [if_pos hy]
  have bad : ∀ (x : Int32), ∃ r, fX8_digit_31 x 1 v = some (r, rdS v 1 h) := by
    intro x
    rw [fX8_digit_31, if_pos (by decide)]
    dsimp only [bd]
    rw [if_neg (one_ne v), show up2 v 0 22 1 0 19 = nI h from S.1, l32_0, nJ_add]
    exact ⟨_, rfl⟩
  by_cases h1 : h < n
  · rw [sign_in C S.1 h1, obp_some]
    have hc := (C.2.2.1 h h1).2
    rw [in_dig _ hc, Option.bind_some]
    by_cases h2 : 48 ≤ c h ∧ c h ≤ 57
    · have ho : h < n ∧ okc y (c h) := ⟨h1, (hok _).mpr h2⟩
      rw [if_pos h2, if_neg (by decide), if_pos ho]
      refine ⟨nI (hexv (c h)), rdS v 0 (h + 1), ?_, rd_pf _ _ _, rd_st _ _ _, fun _ => rfl⟩
      have ev : hexv (c h) = c h - 48 := if_pos h2
      rw [fX8_digit_31, if_pos (by decide)]
      dsimp only [bd]
      rw [if_pos (by rfl), show up2 v 0 22 0 0 19 = nI h from S.1, l32_1, nJ_add, show (48 : Int32) = nI 48 from rfl, nI_sub h2.1, ev]
      rfl
    · have ho : ¬ (h < n ∧ okc y (c h)) := fun ⟨_, h3⟩ => h2 ((hok _).mp h3)
      rw [if_neg h2, if_pos l32_0.symm, if_neg ho]
      obtain ⟨r, e⟩ := bad (nI (c h))
      exact ⟨r, rdS v 1 h, e, rd_pf _ _ _, rd_st _ _ _, fun h => by omega⟩
  · have ho : ¬ (h < n ∧ okc y (c h)) := fun ⟨h3, _⟩ => h1 h3
    obtain ⟨r, e⟩ := bad (-1)
    rw [sign_out C S.1 h1 (by omega), obp_some, m1_dig, Option.bind_some, if_pos l32_0.symm, if_neg ho]
    exact ⟨r, rdS v 1 h, e, rd_pf _ _ _, rd_st _ _ _, fun h => by omega⟩
theorem digit_wrong {v : vS} {h : Nat} (S : ST v h 1) : ∃ r, fX8_digit v = some (r, v) := by
  rw [fX8_digit, if_neg (by rw [S.2]; decide)]
  exact ⟨_, rfl⟩
/-- hexes -/
def hx (c : Nat → Nat) (h : Nat) : Nat → Nat
  | 0 => 0
  | j + 1 => hx c h j * 16 + hexv (c (h + j))
theorem hexes_wrong {v : vS} {h : Nat} (S : ST v h 1) (x : Int32) (j N : Nat) (hj : j ≤ 4) : fX8_hexes_4 (N + 1) x (nI j) v = some (x, v) := by
  rw [fX8_hexes_4]
  by_cases e : j = 4
  · rw [if_pos (by rw [e]; decide)]
  · rw [if_neg (by rw [show (4 : Int32) = nI 4 from rfl, nJ_le (by omega) (by omega)]; omega), if_neg (by rw [S.2]; decide)]
theorem hexes_hit {v : vS} (C : CT c n v) {h x j N : Nat} (S : ST v h 0) (hj : j < 4) (h1 : h < n) (h2 : okc 88 (c h)) : fX8_hexes_4 (N + 1) (nI x) (nI j) v = fX8_hexes_4 N (nI (x * 16 + hexv (c h))) (nI (j + 1)) (rdS v 0 (h + 1)) := by
  have hc := (C.2.2.1 h h1).2
  have hr : (48 ≤ c h ∧ c h ≤ 57) ∨ (97 ≤ c h ∧ c h ≤ 102) := h2
  have k74 : ∀ y : Nat, fX8_hexes_74 (fun a0 a1 a2 => fX8_hexes_4 N a0 a1 a2) (nI x) (nI j) (nI y) (0 : Int32) v = fX8_hexes_4 N (nI (x * 16 + y)) (nI (j + 1)) (rdS v 0 (h + 1)) := by
    intro y
    rw [fX8_hexes_74, if_pos (by decide)]
    dsimp only [bd]
    rw [if_pos (by rfl), show up2 v 0 22 0 0 19 = nI h from S.1, fX8_hexes_94, l32_1, nJ_add, show (16 : Int32) = nI 16 from rfl, nI_mul, nJ_add, nJ_add, Nat.mul_comm 16 x]
    rfl
  rw [fX8_hexes_4, if_neg (by rw [show (4 : Int32) = nI 4 from rfl, nJ_le (by omega) (by omega)]; omega), if_pos (by rw [S.2]; rfl), sign_in C S.1 h1, obp_some, in_dig _ hc, Option.bind_some]
  unfold hexv
  by_cases d : 48 ≤ c h ∧ c h ≤ 57
  · rw [if_pos d, if_neg (by decide), if_pos d]
    dsimp only [bd]
    rw [show (48 : Int32) = nI 48 from rfl, nI_sub d.1, if_pos (nI_nn (by omega : c h - 48 < 2147483648))]
    exact k74 _
  · have d2 : 97 ≤ c h ∧ c h ≤ 102 := by omega
    rw [if_neg d, if_pos l32_0.symm, if_neg d, in_hex _ hc, Option.bind_some, if_pos d2, if_neg (by decide)]
    dsimp only [bd]
    rw [show (97 : Int32) = nI 97 from rfl, nI_sub d2.1, show (10 : Int32) = nI 10 from rfl, nJ_add, if_pos (nI_nn (by omega : c h - 97 + 10 < 2147483648))]
    exact k74 _
theorem hexes_74w {v : vS} {h j : Nat} (K : Int32 → Int32 → vS → Option (Int32 × vS)) (x z : Int32) (S : ST v h 0) : ∃ y, fX8_hexes_74 K x (nI j) z (1 : Int32) v = K y (nI (j + 1)) (rdS v 1 h) := by
  refine ⟨16 * x + z, ?_⟩
  have e : up2 v 0 22 1 0 19 = nI h := S.1
  rw [fX8_hexes_74, if_pos (Or.inr rfl)]
  dsimp only [bd]
  rw [if_neg (one_ne v), fX8_hexes_94, e]
  dsimp only [bd]
  rw [l32_0, nJ_add, Nat.add_zero, l32_1, nJ_add]
  rfl
theorem hexes_o1 {v : vS} (C : CT c n v) {h j N : Nat} (x : Int32) (S : ST v h 0) (hj : j < 4) (h1 : h < n) (h2 : ¬ okc 88 (c h)) : ∃ y, fX8_hexes_4 (N + 1) x (nI j) v = fX8_hexes_4 N y (nI (j + 1)) (rdS v 1 h) := by
  have c4 : ¬ (4 : Int32) ≤ nI j := by rw [show (4 : Int32) = nI 4 from rfl, nJ_le (by omega) (by omega)]; omega
  have c5 : v 0 22 = 0 := S.2
  have hc := (C.2.2.1 h h1).2
  have hr : ¬ ((48 ≤ c h ∧ c h ≤ 57) ∨ (97 ≤ c h ∧ c h ≤ 102)) := h2
  have n1 : ¬ (48 ≤ c h ∧ c h ≤ 57) := by omega
  have n2 : ¬ (97 ≤ c h ∧ c h ≤ 102) := by omega
  have k74 := hexes_74w (j := j) (fun a0 a1 a2 => fX8_hexes_4 N a0 a1 a2) x (-1) S
  rw [fX8_hexes_4, if_neg c4, if_pos c5, sign_in C S.1 h1, obp_some, in_dig _ hc, Option.bind_some, if_neg n1, if_pos l32_0.symm, in_hex _ hc, Option.bind_some, if_neg n2, if_pos l32_0.symm, if_neg m1_nn]
  exact k74
theorem hexes_o2 {v : vS} (C : CT c n v) {h j N : Nat} (x : Int32) (S : ST v h 0) (hj : j < 4) (h1 : ¬ h < n) (hb : h ≤ 60) : ∃ y, fX8_hexes_4 (N + 1) x (nI j) v = fX8_hexes_4 N y (nI (j + 1)) (rdS v 1 h) := by
  have c4 : ¬ (4 : Int32) ≤ nI j := by rw [show (4 : Int32) = nI 4 from rfl, nJ_le (by omega) (by omega)]; omega
  have c5 : v 0 22 = 0 := S.2
  have k74 := hexes_74w (j := j) (fun a0 a1 a2 => fX8_hexes_4 N a0 a1 a2) x (-1) S
  rw [fX8_hexes_4, if_neg c4, if_pos c5, sign_out C S.1 h1 hb, obp_some, m1_dig, Option.bind_some, if_pos l32_0.symm, m1_hex, Option.bind_some, if_pos l32_0.symm, if_neg m1_nn]
  exact k74
theorem hexes_miss {v : vS} (C : CT c n v) {h j N : Nat} (x : Int32) (S : ST v h 0) (hj : j < 4) (hh : h ≤ n) (h2 : ¬ (h < n ∧ okc 88 (c h))) : ∃ y, fX8_hexes_4 (N + 1) x (nI j) v = fX8_hexes_4 N y (nI (j + 1)) (rdS v 1 h) := by
  have hn := C.1
  by_cases h1 : h < n
  · exact hexes_o1 C x S hj h1 (fun h3 => h2 ⟨h1, h3⟩)
  · exact hexes_o2 C x S hj h1 (by omega)
theorem hexes_ok {v : vS} (C : CT c n v) {h : Nat} (S : ST v h 0) (hh : h ≤ n) : ∃ r v', fX8_hexes v = some (r, v') ∧ PF v v' ∧ FINS c n [88, 88, 88, 88] h v' ∧ (mm c n [88, 88, 88, 88] h = 4 → r = nI (hx c h 4)) := by
  have gen : ∀ d j N v, d + j = 4 → d < N → CT c n v → ST v (h + j) 0 → h + j ≤ n → ∃ r v', fX8_hexes_4 N (nI (hx c h j)) (nI j) v = some (r, v') ∧ PF v v' ∧ FINS c n (List.replicate d 88) (h + j) v' ∧ (mm c n (List.replicate d 88) (h + j) = d → r = nI (hx c h 4)) := by
    intro d
    induction d with
    | zero =>
      intro j N v h1 h2 C S h3
      obtain ⟨N, rfl⟩ : ∃ m, N = m + 1 := ⟨N - 1, by omega⟩
      have hj : j = 4 := by omega
      subst hj
      refine ⟨nI (hx c h 4), v, ?_, pf_refl v, S, fun _ => rfl⟩
      rw [fX8_hexes_4, if_pos (by decide)]
    | succ d ih =>
      intro j N v h1 h2 C S h3
      obtain ⟨N, rfl⟩ : ∃ m, N = m + 1 := ⟨N - 1, by omega⟩
      have e : mm c n (List.replicate (d + 1) 88) (h + j) = if h + j < n ∧ okc 88 (c (h + j)) then 1 + mm c n (List.replicate d 88) (h + j + 1) else 0 := rfl
      unfold FINS
      rw [e]
      by_cases g : h + j < n ∧ okc 88 (c (h + j))
      · rw [if_pos g]
        obtain ⟨r, v', e1, f1, F1, r1⟩ := ih (j + 1) N (rdS v 0 (h + j + 1)) (by omega) (by omega) (ct_pf C (rd_pf _ _ _)) (rd_st _ _ _) (by omega)
        refine ⟨r, v', ?_, pf_trans (rd_pf _ _ _) f1, ?_, fun hq => r1 (by
          show mm c n (List.replicate d 88) (h + j + 1) = d
          omega)⟩
        · rw [hexes_hit C S (by omega) g.1 g.2]
          exact e1
        · unfold FINS at F1
          rw [List.length_replicate] at F1 ⊢
          rw [show h + j + (1 + mm c n (List.replicate d 88) (h + j + 1)) = h + (j + 1) + mm c n (List.replicate d 88) (h + (j + 1)) from by
            show _ = h + j + 1 + mm c n (List.replicate d 88) (h + j + 1)
            omega]
          have e3 : (if 1 + mm c n (List.replicate d 88) (h + j + 1) = d + 1 then 0 else 1) = if mm c n (List.replicate d 88) (h + (j + 1)) = d then 0 else 1 := by
            show _ = if mm c n (List.replicate d 88) (h + j + 1) = d then 0 else 1
            by_cases e4 : mm c n (List.replicate d 88) (h + j + 1) = d
            · rw [if_pos e4, if_pos (by omega)]
            · rw [if_neg e4, if_neg (by omega)]
          rw [e3]
          exact F1
      · rw [if_neg g]
        obtain ⟨y, e1⟩ := hexes_miss C (N := N) (nI (hx c h j)) S (by omega : j < 4) h3 g
        obtain ⟨N, rfl⟩ : ∃ m, N = m + 1 := ⟨N - 1, by omega⟩
        refine ⟨y, rdS v 1 (h + j), ?_, rd_pf _ _ _, ?_, fun h => by omega⟩
        · rw [e1, hexes_wrong (rd_st _ _ _) _ _ _ (by omega)]
        · rw [List.length_replicate, if_neg (by omega)]
          exact rd_st _ _ _
  exact gen 4 0 vF v rfl (by unfold vF; omega) C S hh
end
