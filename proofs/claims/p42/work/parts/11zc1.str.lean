/-- a String: its letters W, in m places f -/
def stT (W : List Nat) (m : Nat) (f : Nat → Int32) : Prop := m = W.length ∧ sb_Fit f ∧ ∀ i, i < W.length → W.getD i 0 < 256 ∧ f i = sb_b (W.getD i 0)
theorem gPut_cpy {W : List Nat} {f g : Nat → Int32} {q : Nat} (hf : ∀ i, i < W.length → f i = sb_b (W.getD i 0)) : gPut g (va_cpy f g 0 q W.length) q W := by
  refine ⟨fun i hi => ?_, fun j hj => ?_⟩
  · rw [pk_cpy_in (by omega) (by omega), show 0 + (q + i - q) = i by omega]
    exact hf i hi
  · rw [pk_cpy_out (by omega)]
/-- append(String) -/
theorem ap_str5 {T W : List Nat} {n m : Nat} {f g : Nat → Int32} (h : T.length ≤ n ∧ n ≤ 2 * (T.length + W.length) + 16 ∧ sb_Fit g ∧ ∀ i, i < T.length → T.getD i 0 < 256 ∧ g i = sb_b (T.getD i 0)) (hs : stT W m f) (hw : T.length + W.length ≤ 20000) : ∃ n' g', hf_J5_append_cf1ce (gc1 (nI T.length + nI m) n) (gc2 (nI T.length + nI m) n) m f (nI T.length) n g = some (nI (T ++ W).length, n', g') ∧ sbT (T ++ W) n' g' ∧ Nat.log2 n + gc1 (nI T.length + nI m) n ≤ Nat.log2 n' ∧ 2 * n + gc2 (nI T.length + nI m) n ≤ 2 * n' := by
  obtain ⟨rfl, hf, hl⟩ := hs
  obtain ⟨n', g', e1, e2, e3, e4, e5, e6, e7⟩ := ec_spec h hw
  unfold hf_J5_append_cf1ce hf_J0_length_8abf5 hf_J0_coder_7d493 hf_J5_putStringAt_47b60 hf_J5_inflateIfNeededFor_a7421 hf_J0_getBytes_840e7 hf_J0_coder_7d493
  simp only [bdE, Option.bind_some, oN, sb_shr0, sb_shl0, sb_cl0]
  rw [nJ_add, if_pos ⟨by omega, by omega⟩, e1]
  simp only [Option.bind_some]
  rw [nI_clamp (n := T.length) (by omega), nI_clamp (n := W.length) (by omega), if_pos ⟨⟨by decide, nI_neg0 (by omega), nI_neg0 (by omega)⟩, by omega, by omega, fun i _ => hf _⟩]
  simp only [Option.bind_some]
  exact ⟨n', _, by rw [nJ_add, List.length_append], sb_put e2 e3 e4 e5 (gPut_cpy (fun i hi => (hl i hi).2)) (fun i hi => (hl i hi).1), e6, e7⟩
theorem ap_str {T W : List Nat} {n m : Nat} {f g : Nat → Int32} (h : sbT T n g) (hs : stT W m f) (hw : T.length + W.length ≤ 20000) : ∃ n' g', hf_J4_append_15ec4 (gc1 (nI T.length + nI m) n) (gc2 (nI T.length + nI m) n) m f (nI T.length) n g = some (nI (T ++ W).length, n', g') ∧ sbT (T ++ W) n' g' ∧ Nat.log2 n + gc1 (nI T.length + nI m) n ≤ Nat.log2 n' ∧ 2 * n + gc2 (nI T.length + nI m) n ≤ 2 * n' := by
  obtain ⟨n', g', e1, e2, e3, e4⟩ := ap_str5 (sbT_w h _) hs hw
  refine ⟨n', g', ?_, e2, e3, e4⟩
  unfold hf_J4_append_15ec4
  simp only [bdE, oN]
  rw [if_pos ⟨by omega, by omega⟩, e1]
  rfl
/-- append of one of the law's own texts -/
def kT (ki : Nat) : List Nat := if ki = 0 then [42] else if ki = 1 then [] else [32]
theorem kT_len : ∀ ki, ki < 3 → vLlen.getD ki 0 = (kT ki).length ∧ ∀ i, i < (kT ki).length → (kT ki).getD i 0 < 256 ∧ (vLbyt.getD ki []).getD i 0 = sb_b ((kT ki).getD i 0) ∧ fits .byte (.int ((vLbyt.getD ki []).getD i 0)) = true := by decide +kernel
theorem ap_k {T : List Nat} {n ki : Nat} {g : Nat → Int32} (h : sbT T n g) (hk : ki < 3) (hw : T.length + 1 ≤ 20000) : ∃ n' g', hf_J4_append_15ec4_K (gc1 (nI T.length + nI (vLlen.getD ki 0)) n) (gc2 (nI T.length + nI (vLlen.getD ki 0)) n) ki (nI T.length) n g = some (nI (T ++ kT ki).length, n', g') ∧ sbT (T ++ kT ki) n' g' ∧ Nat.log2 n + gc1 (nI T.length + nI (vLlen.getD ki 0)) n ≤ Nat.log2 n' ∧ 2 * n + gc2 (nI T.length + nI (vLlen.getD ki 0)) n ≤ 2 * n' := by
  obtain ⟨k1, k2⟩ := kT_len ki hk
  have k3 : (kT ki).length ≤ 1 := by
    unfold kT
    split
    · exact Nat.le_refl 1
    · split <;> simp
  obtain ⟨n', g', e1, e2, e3, e4, e5, e6, e7⟩ := ec_spec (w := (kT ki).length) (sbT_w h _) (by omega)
  rw [k1]
  unfold hf_J4_append_15ec4_K hf_J5_append_cf1ce_K hf_J0_length_8abf5_K hf_J0_coder_7d493_K hf_J5_putStringAt_47b60_K hf_J5_inflateIfNeededFor_a7421_K hf_J0_getBytes_840e7_K hf_J0_coder_7d493_K
  simp only [bdE, Option.bind_some, oN, sb_shr0, sb_shl0, sb_cl0, k1, if_pos hk]
  rw [nJ_add, if_pos ⟨by omega, by omega⟩, if_pos ⟨by omega, by omega⟩, e1]
  simp only [Option.bind_some]
  rw [nI_clamp (n := T.length) (by omega), nI_clamp (n := (kT ki).length) (by omega), if_pos ⟨⟨by decide, nI_neg0 (by omega), nI_neg0 (by omega)⟩, by omega, by omega, fun i hi => by rw [Nat.zero_add]; exact (k2 i hi).2.2⟩]
  simp only [Option.bind_some]
  exact ⟨n', _, by rw [nJ_add, List.length_append], sb_put e2 e3 e4 e5 (gPut_cpy (fun i hi => (k2 i hi).2.1)) (fun i hi => (k2 i hi).1), e6, e7⟩
/-- new StringBuilder() -/
theorem in_0 : hf_J4_init_da8c8 1 16 = some (16, fun _ => 0) ∧ sbT [] 16 (fun _ => 0) := by
  refine ⟨?_, by decide, by decide, sb_fit0, fun i hi => absurd hi (Nat.not_lt_zero i)⟩
  unfold hf_J4_init_da8c8 hf_J5_init_d00df
  simp only [bdE]
  rfl
/-- toString -/
theorem cr_spec {T : List Nat} {n : Nat} {g : Nat → Int32} (h : sbT T n g) (hw : T.length ≤ 20000) : ∃ f, hf_J7_copyOfRange_39247 1 T.length n g 0 (nI T.length) = some (T.length, f) ∧ stT T T.length f := by
  obtain ⟨h1, h2, h3, h4⟩ := h
  unfold hf_J7_copyOfRange_39247 hf_J7_copyOfRangeByte_39247 hf_J7_checkLength_df160 fJ9_min_7cf53
  simp only [bdE, oN]
  rw [if_pos trivial]
  by_cases hc : T.length = n
  · rw [if_pos (by rw [hc]), if_pos (fun i _ => h3 i), if_pos (by omega), ← hc]
    exact ⟨g, rfl, rfl, h3, h4⟩
  · rw [if_neg (fun z => hc ((nJ_eq (by omega) (by omega)).mp z)), show nI T.length - 0 = nI T.length from Int32.sub_zero _, nI_clamp (n := T.length) (by omega), if_pos (by omega), if_pos (show (0 : Int32) ≤ nI T.length from nI_pos' (by omega))]
    simp only [Option.bind_some]
    rw [if_neg (fun z => by
      rcases z with z | z
      · exact nI_neg0 (a := T.length) (by omega) z
      · omega), if_pos (by omega), show nI n - 0 = nI n from Int32.sub_zero _, if_pos (nI_lt (by omega) (by omega))]
    simp only [Option.bind_some]
    rw [nI_clamp (n := T.length) (by omega), sb_cl0, if_pos ⟨⟨by decide, by decide, nI_neg0 (by omega)⟩, by omega, by omega, fun i _ => h3 _⟩]
    simp only [Option.bind_some]
    exact ⟨_, rfl, rfl, sb_fitC h3 sb_fit0, fun i hi => ⟨(h4 i hi).1, by rw [sb_cpy0 hi]; exact (h4 i hi).2⟩⟩
theorem ts_spec {T : List Nat} {n : Nat} {g : Nat → Int32} (h : sbT T n g) (hw : T.length ≤ 20000) : ∃ f, hf_J4_toString_0e30d 2 (Int32.toNatClampNeg (nI T.length) + 4) (nI T.length) n g = some (T.length, f) ∧ stT T T.length f := by
  obtain ⟨f, e1, e2⟩ := cr_spec h hw
  refine ⟨f, ?_, e2⟩
  unfold hf_J4_toString_0e30d hf_J0_init_81219 hf_J0_init_db425 hf_J5_getValue_6d5f1 hf_J4_length_8abf5 hf_J5_length_8abf5 hf_J5_isLatin1_aae02
  simp only [bdE, Option.bind_some]
  rw [nI_clamp (n := T.length) (by omega), if_pos (by omega), if_pos (by omega), if_pos (by omega), show nI T.length - 0 = nI T.length from Int32.sub_zero _, nI_clamp (n := T.length) (by omega), if_pos (by omega), e1]
  rfl
/-- new StringBuilder(String) -/
theorem in_s {W : List Nat} {m : Nat} {f : Nat → Int32} (hs : stT W m f) (hw : W.length ≤ 20000) : ∃ n' g', hf_J4_init_a7421 1 (m + 16) m f = some (nI W.length, n', g') ∧ sbT W n' g' ∧ m + 16 ≤ n' := by
  have hm : m = W.length := hs.1
  obtain ⟨n', g', e1, e2, e3, e4⟩ := ap_str5 (T := []) (n := m + 16) (g := fun _ => 0) ⟨Nat.zero_le _, by rw [hm]; show _ ≤ 2 * (0 + _) + 16; omega, sb_fit0, fun i hi => absurd hi (Nat.not_lt_zero i)⟩ hs (by simpa using hw)
  have g1 : gc1 ((0 : Int32) + nI m) (m + 16) = 0 := by
    rw [show (0 : Int32) = nI 0 from rfl, nJ_add, gc1_nI (by omega) (by omega), if_pos (by omega)]
  have g2 : gc2 ((0 : Int32) + nI m) (m + 16) = 0 := by
    rw [show (0 : Int32) = nI 0 from rfl, nJ_add, gc2_nI (by omega) (by omega), if_pos (by omega)]
  have e1 : hf_J5_append_cf1ce (gc1 ((0 : Int32) + nI m) (m + 16)) (gc2 ((0 : Int32) + nI m) (m + 16)) m f (0 : Int32) (m + 16) (fun _ => 0) = some (nI W.length, n', g') := e1
  refine ⟨n', g', ?_, e2, by omega⟩
  unfold hf_J4_init_a7421 hf_J5_init_a7421 hf_J5_init_a7421_24 hf_J0_length_8abf5 hf_J0_coder_7d493 hf_J4_append_cf1ce hf_J4_append_15ec4
  simp only [bdE, Option.bind_some, oN, sb_shr0]
  rw [if_pos (by omega), if_neg (show ¬ (2147483631 : Int32) ≤ nI m from nI_ge (b := 2147483631) (by omega) (by omega)), show nI m + 16 = nI (m + 16) from nJ_add m 16, nI_clamp (n := m + 16) (by omega), if_neg (fun z => by
    rcases z with z | z
    · exact nI_neg0 (a := m + 16) (by omega) z
    · omega), if_pos (by omega), if_pos (by rw [g1, g2]; omega), if_pos (by omega), if_pos (by omega), e1]
  rfl
