/-- a String: its letters W, in m places f -/
def stT (W : List Nat) (m : Nat) (f : Nat → Int32) : Prop := m = W.length ∧ sb_Fit f ∧ ∀ i, i < W.length → W.getD i 0 < 256 ∧ f i = sb_b (W.getD i 0)
theorem gPut_cpy {W : List Nat} {f g : Nat → Int32} {q : Nat} (hf : ∀ i, i < W.length → f i = sb_b (W.getD i 0)) : gPut g (va_cpy f g 0 q W.length) q W := by
  refine ⟨fun i hi => ?_, fun j hj => ?_⟩
  · rw [pk_cpy_in (by omega) (by omega), show 0 + (q + i - q) = i by omega]
    exact hf i hi
  · rw [pk_cpy_out (by omega)]
/-- append(String) -/
theorem ap_str5 {T W : List Nat} {n m : Nat} {f g : Nat → Int32} (h : T.length ≤ n ∧ n ≤ 2 * (T.length + W.length) + 16 ∧ sb_Fit g ∧ ∀ i, i < T.length → T.getD i 0 < 256 ∧ g i = sb_b (T.getD i 0)) (hs : stT W m f) (hw : T.length + W.length ≤ 20000) : ∃ n' g', hf_J5_append_cf1ce (gc1 (nI T.length + nI m) n) (gc2 (nI T.length + nI m) n) m f (nI T.length) n g = some (nI (T ++ W).length, n', g') ∧ sbT (T ++ W) n' g' ∧ Nat.log2 n + gc1 (nI T.length + nI m) n ≤ Nat.log2 n' ∧ 2 * n + gc2 (nI T.length + nI m) n ≤ 2 * n' := by
  obtain ⟨rfl, hf, hl⟩ := hs
  obtain ⟨n', g', e1, e2, e3, e4, e5, e6, e7⟩ := ec_spec h hw
  unfold hf_J5_append_cf1ce hf_J0_length_8abf5 hf_J0_coder_7d493 hf_J5_putStringAt_47b60 hf_J5_inflateIfNeededFor_a7421 hf_J0_getBytes_840e7 hf_J0_coder_7d493
  simp only [bd, Option.bind_some, oN, sb_shr0, sb_shl0, sb_cl0]
  rw [nJ_add, if_pos ⟨by omega, by omega⟩, e1]
  simp only [Option.bind_some]
  rw [nI_clamp (n := T.length) (by omega), nI_clamp (n := W.length) (by omega), if_pos ⟨⟨by decide, nI_neg0 (by omega), nI_neg0 (by omega)⟩, by omega, by omega, fun i _ => hf _⟩]
  simp only [Option.bind_some]
  exact ⟨n', _, by rw [nJ_add, List.length_append], sb_put e2 e3 e4 e5 (gPut_cpy (fun i hi => (hl i hi).2)) (fun i hi => (hl i hi).1), e6, e7⟩
theorem ap_str {T W : List Nat} {n m : Nat} {f g : Nat → Int32} (h : sbT T n g) (hs : stT W m f) (hw : T.length + W.length ≤ 20000) : ∃ n' g', hf_J4_append_15ec4 (gc1 (nI T.length + nI m) n) (gc2 (nI T.length + nI m) n) m f (nI T.length) n g = some (nI (T ++ W).length, n', g') ∧ sbT (T ++ W) n' g' ∧ Nat.log2 n + gc1 (nI T.length + nI m) n ≤ Nat.log2 n' ∧ 2 * n + gc2 (nI T.length + nI m) n ≤ 2 * n' := by
  obtain ⟨n', g', e1, e2, e3, e4⟩ := ap_str5 (sbT_w h _) hs hw
  refine ⟨n', g', ?_, e2, e3, e4⟩
  unfold hf_J4_append_15ec4
  simp only [bd, oN]
  rw [if_pos ⟨by omega, by omega⟩, e1]
  rfl
/-- append of one of the law's own texts -/
def kT (ki : Nat) : List Nat := if ki = 0 then [42] else if ki = 1 then [] else [32]
theorem kT_len : ∀ ki, ki < 3 → vLlen.getD ki 0 = (kT ki).length ∧ ∀ i, i < (kT ki).length → (kT ki).getD i 0 < 256 ∧ (vLbyt.getD ki []).getD i 0 = sb_b ((kT ki).getD i 0) ∧ fits .byte (.int ((vLbyt.getD ki []).getD i 0)) = true := by decide +kernel
theorem ap_k {T : List Nat} {n ki : Nat} {g : Nat → Int32} (h : sbT T n g) (hk : ki < 3) (hw : T.length + 1 ≤ 20000) : ∃ n' g', hf_J4_append_15ec4_K (gc1 (nI T.length + nI (vLlen.getD ki 0)) n) (gc2 (nI T.length + nI (vLlen.getD ki 0)) n) ki (nI T.length) n g = some (nI (T ++ kT ki).length, n', g') ∧ sbT (T ++ kT ki) n' g' ∧ Nat.log2 n + gc1 (nI T.length + nI (vLlen.getD ki 0)) n ≤ Nat.log2 n' ∧ 2 * n + gc2 (nI T.length + nI (vLlen.getD ki 0)) n ≤ 2 * n' := by
  obtain ⟨k1, k2⟩ := kT_len ki hk
  have k3 : (kT ki).length ≤ 1 := by
    unfold kT
    split
    · exact Nat.le_refl 1
    · split <;> simp
  obtain ⟨n', g', e1, e2, e3, e4, e5, e6, e7⟩ := ec_spec (w := (kT ki).length) (sbT_w h _) (by omega)
  rw [k1]
  unfold hf_J4_append_15ec4_K hf_J5_append_cf1ce_K hf_J0_length_8abf5_K hf_J0_coder_7d493_K hf_J5_putStringAt_47b60_K hf_J5_inflateIfNeededFor_a7421_K hf_J0_getBytes_840e7_K hf_J0_coder_7d493_K
  simp only [bd, Option.bind_some, oN, sb_shr0, sb_shl0, sb_cl0, k1, if_pos hk]
  rw [nJ_add, if_pos ⟨by omega, by omega⟩, if_pos ⟨by omega, by omega⟩, e1]
  simp only [Option.bind_some]
  rw [nI_clamp (n := T.length) (by omega), nI_clamp (n := (kT ki).length) (by omega), if_pos ⟨⟨by decide, nI_neg0 (by omega), nI_neg0 (by omega)⟩, by omega, by omega, fun i hi => by rw [Nat.zero_add]; exact (k2 i hi).2.2⟩]
  simp only [Option.bind_some]
  exact ⟨n', _, by rw [nJ_add, List.length_append], sb_put e2 e3 e4 e5 (gPut_cpy (fun i hi => (k2 i hi).2.1)) (fun i hi => (k2 i hi).1), e6, e7⟩
/-- new StringBuilder() -/
theorem in_0 : hf_J4_init_da8c8 1 16 = some (16, fun _ => 0) ∧ sbT [] 16 (fun _ => 0) := by
  refine ⟨?_, by decide, by decide, sb_fit0, fun i hi => absurd hi (Nat.not_lt_zero i)⟩
  unfold hf_J4_init_da8c8 hf_J5_init_d00df
  simp only [bd]
  rfl
/-- toString -/
theorem cr_spec {T : List Nat} {n : Nat} {g : Nat → Int32} (h : sbT T n g) (hw : T.length ≤ 20000) : ∃ f, hf_J7_copyOfRange_39247 1 T.length n g 0 (nI T.length) = some (T.length, f) ∧ stT T T.length f := by
  obtain ⟨h1, h2, h3, h4⟩ := h
  unfold hf_J7_copyOfRange_39247 hf_J7_copyOfRangeByte_39247 hf_J7_checkLength_df160 fJ9_min_7cf53
  simp only [bd, oN]
  rw [if_pos rfl]
  by_cases hc : T.length = n
  · rw [if_pos (by rw [hc]), if_pos (fun i _ => h3 i), if_pos (by omega), ← hc]
    exact ⟨g, rfl, rfl, h3, h4⟩
  · rw [if_neg (fun z => hc ((nJ_eq (by omega) (by omega)).mp z)), show nI T.length - 0 = nI T.length from Int32.sub_zero _, nI_clamp (n := T.length) (by omega), if_pos (by omega), if_pos (show (0 : Int32) ≤ nI T.length from nI_pos' (by omega))]
    simp only [Option.bind_some]
    rw [show nI T.length - 0 = nI T.length from Int32.sub_zero _, nI_clamp (n := T.length) (by omega), if_neg (fun z => by
      rcases z with z | z
      · exact nI_neg0 (a := T.length) (by omega) z
      · omega), if_pos (by omega), show nI n - 0 = nI n from Int32.sub_zero _, if_pos (nI_lt (by omega) (by omega))]
    simp only [Option.bind_some]
    rw [nI_clamp (n := T.length) (by omega), sb_cl0, if_pos ⟨⟨by decide, by decide, nI_neg0 (by omega)⟩, by omega, by omega, fun i _ => h3 _⟩]
    simp only [Option.bind_some]
    exact ⟨_, rfl, rfl, sb_fitC h3 sb_fit0, fun i hi => ⟨(h4 i hi).1, by rw [sb_cpy0 hi]; exact (h4 i hi).2⟩⟩
theorem ts_spec {T : List Nat} {n : Nat} {g : Nat → Int32} (h : sbT T n g) (hw : T.length ≤ 20000) : ∃ f, hf_J4_toString_0e30d 2 (Int32.toNatClampNeg (nI T.length) + 4) (nI T.length) n g = some (T.length, f) ∧ stT T T.length f := by
  obtain ⟨f, e1, e2⟩ := cr_spec h hw
  refine ⟨f, ?_, e2⟩
  unfold hf_J4_toString_0e30d hf_J0_init_81219 hf_J0_init_db425 hf_J5_getValue_6d5f1 hf_J4_length_8abf5 hf_J5_length_8abf5 hf_J5_isLatin1_aae02
  simp only [bd, Option.bind_some]
  rw [nI_clamp (n := T.length) (by omega), if_pos (by omega), if_pos (by omega), if_pos (by omega), show nI T.length - 0 = nI T.length from Int32.sub_zero _, nI_clamp (n := T.length) (by omega), if_pos (by omega), e1]
  rfl
/-- new StringBuilder(String) -/
theorem in_s {W : List Nat} {m : Nat} {f : Nat → Int32} (hs : stT W m f) (hw : W.length ≤ 20000) : ∃ n' g', hf_J4_init_a7421 1 (m + 16) m f = some (nI W.length, n', g') ∧ sbT W n' g' ∧ m + 16 ≤ n' := by
  have hm : m = W.length := hs.1
  obtain ⟨n', g', e1, e2, e3, e4⟩ := ap_str5 (T := []) (n := m + 16) (g := fun _ => 0) ⟨Nat.zero_le _, by rw [hm]; show _ ≤ 2 * (0 + _) + 16; omega, sb_fit0, fun i hi => absurd hi (Nat.not_lt_zero i)⟩ hs (by simpa using hw)
  have g1 : gc1 ((0 : Int32) + nI m) (m + 16) = 0 := by
    rw [show (0 : Int32) = nI 0 from rfl, nJ_add, gc1_nI (by omega) (by omega), if_pos (by omega)]
  have g2 : gc2 ((0 : Int32) + nI m) (m + 16) = 0 := by
    rw [show (0 : Int32) = nI 0 from rfl, nJ_add, gc2_nI (by omega) (by omega), if_pos (by omega)]
  have e1 : hf_J5_append_cf1ce (gc1 ((0 : Int32) + nI m) (m + 16)) (gc2 ((0 : Int32) + nI m) (m + 16)) m f (0 : Int32) (m + 16) (fun _ => 0) = some (nI W.length, n', g') := e1
  refine ⟨n', g', ?_, e2, by omega⟩
  unfold hf_J4_init_a7421 hf_J5_init_a7421 hf_J5_init_a7421_24 hf_J0_length_8abf5 hf_J0_coder_7d493 hf_J4_append_cf1ce hf_J4_append_15ec4
  simp only [bd, Option.bind_some, oN, sb_shr0]
  rw [if_pos (by omega), if_neg (show ¬ (2147483631 : Int32) ≤ nI m from nI_ge (b := 2147483631) (by omega) (by omega)), show nI m + 16 = nI (m + 16) from nJ_add m 16, nI_clamp (n := m + 16) (by omega), if_neg (fun z => by
    rcases z with z | z
    · exact nI_neg0 (a := m + 16) (by omega) z
    · omega), if_pos (by omega), if_pos (by rw [g1, g2]; omega), if_pos (by omega), if_pos (by omega), e1]
  rfl
/-- hex digits -/
def hD (d : Nat) : Nat := if d < 10 then 48 + d else 87 + d
def hT (m : Nat) : List Nat := [hD (m / 4096 % 16), hD (m / 256 % 16), hD (m / 16 % 16), hD (m % 16)]
theorem hD_dig : ∀ d, d < 16 → (Int32.toInt8 (vdig.getD d 0)).toInt32 = nI (hD d) ∧ hD d < 256 := by decide +kernel
theorem hx_and (m : Nat) : nI m &&& 15 = nI (m % 16) := by
  show nI m &&& nI 15 = _
  rw [nI_and]
  exact congrArg nI (Nat.and_two_pow_sub_one_eq_mod m 4)
theorem fu_step {x p n n5 : Nat} {g : Nat → Int32} (hx : x < 2147483648) (hp : p < n5) (hn : n5 ≤ 100) : hf_J6_formatUnsignedInt_567d9_14 (n + 1) (nI x) 4 (nI (p + 1)) 15 n5 g = if 0 < p then hf_J6_formatUnsignedInt_567d9_14 n (nI (x / 16)) 4 (nI p) 15 n5 (upd g p (sb_b (hD (x % 16)))) else some (n5, upd g p (sb_b (hD (x % 16)))) := by
  have h16 : x % 16 < 16 := Nat.mod_lt _ (by decide)
  rw [hf_J6_formatUnsignedInt_567d9_14]
  simp only [bd]
  rw [hx_and, gc_dec (by omega), Nat.add_sub_cancel, if_neg (nI_in (by omega) (by omega)), if_neg (nI_in (by omega) (by omega)), nI_clamp (n := x % 16) (by omega), nI_clamp (n := p) (by omega), (hD_dig _ h16).1, vn_sb, pk_ushrN (by omega) (4 : Int32) 4 (by decide)]
  by_cases h : 0 < p
  · rw [if_pos h, if_pos (show (0 : Int32) < nI p from nI_lt (a := 0) h (by omega))]
  · rw [if_neg h, if_neg (show ¬ (0 : Int32) < nI p from nI_nlt (a := 0) (by omega) (by omega))]
theorem lz_spec {m : Nat} (hm : m < 65536) : fJ6_numberOfLeadingZeros_0f7a4 (nI (65536 + m)) = some (nI 15) := by
  unfold fJ6_numberOfLeadingZeros_0f7a4
  simp only [bd]
  rw [if_pos (show (0 : Int32) < nI _ from nI_lt (a := 0) (by omega) (by omega)), if_neg (show ¬ nI _ < (65536 : Int32) from nI_nlt (b := 65536) (by omega) (by omega)), pk_ushrN (by omega) (16 : Int32) 16 (by decide), show (65536 + m) / 2 ^ 16 = 1 by omega]
  decide +kernel
theorem th_spec {m : Nat} (hm : m < 65536) : ∃ f, hf_J6_toHexString_b52d3 2 12 (nI (65536 + m)) = some (5, f) ∧ stT (49 :: hT m) 5 f := by
  refine ⟨upd (upd (upd (upd (upd (fun _ => 0) 4 (sb_b (hD ((65536 + m) % 16)))) 3 (sb_b (hD ((65536 + m) / 16 % 16)))) 2 (sb_b (hD ((65536 + m) / 16 / 16 % 16)))) 1 (sb_b (hD ((65536 + m) / 16 / 16 / 16 % 16)))) 0 (sb_b (hD ((65536 + m) / 16 / 16 / 16 / 16 % 16))), ?_, rfl, ?_, ?_⟩
  · unfold hf_J6_toHexString_b52d3 hf_J6_toUnsignedString0_37a41 hf_J6_formatUnsignedInt_567d9 hf_J0_init_031fb
    simp only [bd]
    rw [lz_spec hm]
    have e1 : fJ9_max_7cf53 ((32 - nI 15 + (4 - 1)) / 4) 1 = some (nI 5) := by decide +kernel
    simp only [Option.bind_some]
    rw [if_pos (by decide), if_neg (by decide), e1]
    simp only [Option.bind_some]
    have e2 : (nI 5).toNatClampNeg = 5 := by decide
    have e3 : ((1 : Int32) <<< ((4 : Int32) &&& 31)) - 1 = 15 := by decide
    have n4 : ∀ p : Nat, p < 4 → 0 < p + 1 := fun p _ => Nat.succ_pos p
    have s5 := (fu_step (x := (65536 + m) / 16 / 16 / 16 / 16) (p := 0) (n := 995) (n5 := 5) (g := upd (upd (upd (upd (fun _ => 0) 4 (sb_b (hD ((65536 + m) % 16)))) 3 (sb_b (hD ((65536 + m) / 16 % 16)))) 2 (sb_b (hD ((65536 + m) / 16 / 16 % 16)))) 1 (sb_b (hD ((65536 + m) / 16 / 16 / 16 % 16)))) (by omega) (by omega) (by omega)).trans (if_neg (by decide))
    have s4 := (fu_step (x := (65536 + m) / 16 / 16 / 16) (p := 1) (n := 996) (n5 := 5) (g := upd (upd (upd (fun _ => 0) 4 (sb_b (hD ((65536 + m) % 16)))) 3 (sb_b (hD ((65536 + m) / 16 % 16)))) 2 (sb_b (hD ((65536 + m) / 16 / 16 % 16)))) (by omega) (by omega) (by omega)).trans ((if_pos (by decide)).trans s5)
    have s3 := (fu_step (x := (65536 + m) / 16 / 16) (p := 2) (n := 997) (n5 := 5) (g := upd (upd (fun _ => 0) 4 (sb_b (hD ((65536 + m) % 16)))) 3 (sb_b (hD ((65536 + m) / 16 % 16)))) (by omega) (by omega) (by omega)).trans ((if_pos (by decide)).trans s4)
    have s2 := (fu_step (x := (65536 + m) / 16) (p := 3) (n := 998) (n5 := 5) (g := upd (fun _ => 0) 4 (sb_b (hD ((65536 + m) % 16)))) (by omega) (by omega) (by omega)).trans ((if_pos (by decide)).trans s3)
    have s1 := (fu_step (x := 65536 + m) (p := 4) (n := 999) (n5 := 5) (g := fun _ => 0) (by omega) (by omega) (by omega)).trans ((if_pos (by decide)).trans s2)
    have s0 : hf_J6_formatUnsignedInt_567d9_14 vF (nI (65536 + m)) 4 (nI 5) 15 5 (fun _ => 0) = _ := s1
    rw [e2, e3, if_neg (by decide), if_pos (by decide), s0]
    simp only [Option.bind_some]
    rw [if_pos (by decide)]
  · exact sb_fitU (sb_fitU (sb_fitU (sb_fitU (sb_fitU sb_fit0 (sb_fitB _)) (sb_fitB _)) (sb_fitB _)) (sb_fitB _)) (sb_fitB _)
  · intro i hi
    match i, hi with
    | 0, _ =>
      refine ⟨by show 49 < 256; decide, ?_⟩
      rw [pk_us, show (65536 + m) / 16 / 16 / 16 / 16 % 16 = 1 by omega]; rfl
    | 1, _ =>
      refine ⟨(hD_dig _ (Nat.mod_lt _ (by decide))).2, ?_⟩
      rw [pk_un (by decide), pk_us, show (65536 + m) / 16 / 16 / 16 % 16 = m / 4096 % 16 by omega]; rfl
    | 2, _ =>
      refine ⟨(hD_dig _ (Nat.mod_lt _ (by decide))).2, ?_⟩
      rw [pk_un (by decide), pk_un (by decide), pk_us, show (65536 + m) / 16 / 16 % 16 = m / 256 % 16 by omega]; rfl
    | 3, _ =>
      refine ⟨(hD_dig _ (Nat.mod_lt _ (by decide))).2, ?_⟩
      rw [pk_un (by decide), pk_un (by decide), pk_un (by decide), pk_us, show (65536 + m) / 16 % 16 = m / 16 % 16 by omega]; rfl
    | 4, _ =>
      refine ⟨(hD_dig _ (Nat.mod_lt _ (by decide))).2, ?_⟩
      rw [pk_un (by decide), pk_un (by decide), pk_un (by decide), pk_un (by decide), pk_us, show (65536 + m) % 16 = m % 16 by omega]; rfl
    | i + 5, hi => exact absurd hi (by show ¬ i + 5 < 5; omega)
theorem sb_cpy1 {f g : Nat → Int32} {n j : Nat} (h : j < n) : va_cpy f g 1 0 n j = f (j + 1) := (pk_cpy_in (Nat.zero_le j) (by omega)).trans (congrArg f (by omega))
/-- toHexString(65536 + m).substring(1) -/
theorem sub_spec {W : List Nat} {c m : Nat} {f : Nat → Int32} (hs : stT (c :: W) m f) (hm : m = 5) : ∃ f', hf_J0_substring_b52d3 2 (m + 4) m f 1 = some (4, f') ∧ stT W 4 f' := by
  obtain ⟨h1, h2, h3⟩ := hs
  subst hm
  have hl : W.length = 4 := by simp at h1; omega
  refine ⟨va_cpy f (fun _ => 0) 1 0 4, ?_, hl.symm, sb_fitC h2 sb_fit0, fun i hi => ?_⟩
  · unfold hf_J0_substring_b52d3 hf_J0_substring_37a41 hf_J0_substring_37a41_22 hf_J0_length_8abf5 hf_J0_coder_7d493 hf_J0_isLatin1_aae02 hf_J1_newString_b4f7a hf_J7_copyOfRange_39247 hf_J7_copyOfRangeByte_39247 hf_J7_checkLength_df160 hf_J0_init_031fb
    simp only [bd, Option.bind_some, oN, sb_shr0]
    have k1 : fJ0_checkBoundsBeginEnd_23922 1 (nI 5) (nI 5) = some () := by decide +kernel
    have k2 : nI 5 - 1 = nI 4 := by decide
    have k3 : (1 : Int32) + nI 4 = nI 5 := by decide
    have k4 : (nI 4).toNatClampNeg = 4 := by decide
    have k5 : fJ9_min_7cf53 (nI 4) (nI 4) = some (nI 4) := by decide +kernel
    have k6 : (1 : Int32).toNatClampNeg = 1 := by decide
    rw [k2, k4, if_pos (by decide), k1]
    simp only [Option.bind_some, k2, k4, k3]
    rw [if_neg (by decide), if_pos (by decide), if_neg (by decide), if_pos (by decide), if_pos (by decide), if_neg (by decide), if_pos (by decide), if_pos (by decide)]
    simp only [Option.bind_some, k2, k4, k5, k6, sb_cl0]
    rw [if_neg (by decide), if_pos (by decide), if_pos ⟨⟨by decide, by decide, by decide⟩, by decide, by decide, fun i _ => h2 _⟩]
    rfl
  · have := h3 (i + 1) (by simp; omega)
    rw [sb_cpy1 (by omega)]
    exact this
/-! STEPS WITH A BUDGET: kb, sb what was used elsewhere -/
section
variable {T : List Nat} {n kc ks kb sb mc ms : Nat} {g : Nat → Int32}
def bOk (kb sb kc ks n : Nat) : Prop := kc ≤ kb + Nat.log2 n ∧ ks ≤ sb + 2 * n
theorem lg_le {n : Nat} (h : n < 65536) : Nat.log2 n ≤ 15 := by
  by_cases h0 : n = 0
  · subst h0; decide
  · have := (Nat.log2_lt h0 (k := 16)).mpr (by omega)
    omega
theorem bud {g1 g2 n' L : Nat} (hb : bOk kb sb kc ks n) (h1 : Nat.log2 n + g1 ≤ Nat.log2 n') (h2 : 2 * n + g2 ≤ 2 * n') (h3 : n' ≤ 2 * L + 16) (hL : L ≤ 20000) (hm : kb + 15 ≤ mc) (hs : sb + 4 * L + 32 ≤ ms) : (kc + g1 ≤ mc ∧ ks + g2 ≤ ms) ∧ bOk kb sb (kc + g1) (ks + g2) n' := by
  have h4 := lg_le (n := n') (by omega)
  obtain ⟨b1, b2⟩ := hb
  exact ⟨⟨by omega, by omega⟩, by omega, by omega⟩
theorem c_char {c : Nat} (h : sbT T n g) (hc : c < 256) (hb : bOk kb sb kc ks n) (hw : T.length + 1 ≤ 20000) (hm : kb + 15 ≤ mc) (hs : sb + 4 * (T.length + 1) + 32 ≤ ms) : ∃ n' g', (∀ {β : Type} (F : Int32 × Nat × (Nat → Int32) → Option β), (if kc + gc1 (nI T.length + 1) n ≤ mc ∧ ks + gc2 (nI T.length + 1) n ≤ ms then (hf_J4_append_cf468 (gc1 (nI T.length + 1) n) (gc2 (nI T.length + 1) n) (nI c) (nI T.length) n g).bind F else none) = F (nI (T ++ [c]).length, n', g')) ∧ sbT (T ++ [c]) n' g' ∧ bOk kb sb (kc + gc1 (nI T.length + 1) n) (ks + gc2 (nI T.length + 1) n) n' := by
  obtain ⟨n', g', e1, e2, e3, e4⟩ := ap_char h hw hc
  have h5 := e2.2.1
  rw [List.length_append, List.length_singleton] at h5
  obtain ⟨b1, b2⟩ := bud hb e3 e4 h5 hw hm hs
  exact ⟨n', g', fun F => by rw [if_pos b1, e1]; rfl, e2, b2⟩
theorem c_int {z : Int} (h : sbT T n g) (h1 : -2147483648 ≤ z) (h2 : z < 2147483648) (hb : bOk kb sb kc ks n) (hw : T.length + (iT z).length ≤ 20000) (hm : kb + 15 ≤ mc) (hs : sb + 4 * (T.length + (iT z).length) + 32 ≤ ms) : ∃ n' g', (∀ {β : Type} (F : Int32 × Nat × (Nat → Int32) → Option β), (if kc + gc1 (nI T.length + (fJ6_stringSize_0f7a4 (iI z)).getD 0) n ≤ mc ∧ ks + gc2 (nI T.length + (fJ6_stringSize_0f7a4 (iI z)).getD 0) n ≤ ms then (hf_J4_append_bf812 (gc1 (nI T.length + (fJ6_stringSize_0f7a4 (iI z)).getD 0) n) (gc2 (nI T.length + (fJ6_stringSize_0f7a4 (iI z)).getD 0) n) (iI z) (nI T.length) n g).bind F else none) = F (nI (T ++ iT z).length, n', g')) ∧ sbT (T ++ iT z) n' g' ∧ bOk kb sb (kc + gc1 (nI T.length + (fJ6_stringSize_0f7a4 (iI z)).getD 0) n) (ks + gc2 (nI T.length + (fJ6_stringSize_0f7a4 (iI z)).getD 0) n) n' := by
  rw [ss_spec h1 h2, Option.getD_some]
  obtain ⟨n', g', e1, e2, e3, e4⟩ := ap_int h h1 h2 hw
  have h5 := e2.2.1
  rw [List.length_append] at h5
  obtain ⟨b1, b2⟩ := bud hb e3 e4 h5 hw hm hs
  exact ⟨n', g', fun F => by rw [if_pos b1, e1]; rfl, e2, b2⟩
theorem c_str {W : List Nat} {m : Nat} {f : Nat → Int32} (h : sbT T n g) (hf : stT W m f) (hb : bOk kb sb kc ks n) (hw : T.length + W.length ≤ 20000) (hm : kb + 15 ≤ mc) (hs : sb + 4 * (T.length + W.length) + 32 ≤ ms) : ∃ n' g', (∀ {β : Type} (F : Int32 × Nat × (Nat → Int32) → Option β), (if kc + gc1 (nI T.length + Int32.ofNat m) n ≤ mc ∧ ks + gc2 (nI T.length + Int32.ofNat m) n ≤ ms then (hf_J4_append_15ec4 (gc1 (nI T.length + Int32.ofNat m) n) (gc2 (nI T.length + Int32.ofNat m) n) m f (nI T.length) n g).bind F else none) = F (nI (T ++ W).length, n', g')) ∧ sbT (T ++ W) n' g' ∧ bOk kb sb (kc + gc1 (nI T.length + Int32.ofNat m) n) (ks + gc2 (nI T.length + Int32.ofNat m) n) n' := by
  rw [oN]
  obtain ⟨n', g', e1, e2, e3, e4⟩ := ap_str h hf hw
  have h5 := e2.2.1
  rw [List.length_append] at h5
  obtain ⟨b1, b2⟩ := bud hb e3 e4 h5 hw hm hs
  exact ⟨n', g', fun F => by rw [if_pos b1, e1]; rfl, e2, b2⟩
theorem c_k {ki : Nat} (h : sbT T n g) (hk : ki < 3) (hb : bOk kb sb kc ks n) (hw : T.length + 1 ≤ 20000) (hm : kb + 15 ≤ mc) (hs : sb + 4 * (T.length + 1) + 32 ≤ ms) : ∃ n' g', (∀ {β : Type} (F : Int32 × Nat × (Nat → Int32) → Option β), (if kc + gc1 (nI T.length + Int32.ofNat (vLlen.getD ki 0)) n ≤ mc ∧ ks + gc2 (nI T.length + Int32.ofNat (vLlen.getD ki 0)) n ≤ ms then (hf_J4_append_15ec4_K (gc1 (nI T.length + Int32.ofNat (vLlen.getD ki 0)) n) (gc2 (nI T.length + Int32.ofNat (vLlen.getD ki 0)) n) ki (nI T.length) n g).bind F else none) = F (nI (T ++ kT ki).length, n', g')) ∧ sbT (T ++ kT ki) n' g' ∧ bOk kb sb (kc + gc1 (nI T.length + Int32.ofNat (vLlen.getD ki 0)) n) (ks + gc2 (nI T.length + Int32.ofNat (vLlen.getD ki 0)) n) n' := by
  rw [oN]
  obtain ⟨n', g', e1, e2, e3, e4⟩ := ap_k h hk hw
  have k3 : (kT ki).length ≤ 1 := by
    unfold kT
    split
    · exact Nat.le_refl 1
    · split <;> simp
  have h5 := e2.2.1
  rw [List.length_append] at h5
  obtain ⟨b1, b2⟩ := bud (L := T.length + 1) hb e3 e4 (by omega) hw hm hs
  exact ⟨n', g', fun F => by rw [if_pos b1, e1]; rfl, e2, b2⟩
/-- toString at the end of a budget -/
theorem c_ts (h : sbT T n g) (hb : bOk kb sb kc ks n) (hw : T.length ≤ 20000) (hm : kb + 17 ≤ mc) (hs : sb + 5 * T.length + 36 ≤ ms) : ∃ f, (∀ {β : Type} (F : Nat × (Nat → Int32) → Option β), (if kc + 2 ≤ mc ∧ ks + (Int32.toNatClampNeg (nI T.length) + 4) ≤ ms then (hf_J4_toString_0e30d 2 (Int32.toNatClampNeg (nI T.length) + 4) (nI T.length) n g).bind F else none) = F (T.length, f)) ∧ stT T T.length f := by
  obtain ⟨f, e1, e2⟩ := ts_spec h hw
  have h5 := h.2.1
  have h4 := lg_le (n := n) (by omega)
  obtain ⟨b1, b2⟩ := hb
  exact ⟨f, fun F => by rw [nI_clamp (n := T.length) (by omega), if_pos ⟨by omega, by omega⟩]; rw [nI_clamp (n := T.length) (by omega)] at e1; rw [e1]; rfl, e2⟩
end
