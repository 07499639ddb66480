/-- hex digits -/
def hD (d : Nat) : Nat := if d < 10 then 48 + d else 87 + d
def hT (m : Nat) : List Nat := [hD (m / 4096 % 16), hD (m / 256 % 16), hD (m / 16 % 16), hD (m % 16)]
theorem hD_dig : ∀ d, d < 16 → (Int32.toInt8 (vdig.getD d 0)).toInt32 = nI (hD d) ∧ hD d < 256 := by decide +kernel
theorem hx_and (m : Nat) : nI m &&& 15 = nI (m % 16) := by
  show nI m &&& nI 15 = _
  rw [nI_and]
  exact congrArg nI (Nat.and_two_pow_sub_one_eq_mod m 4)
theorem fu_step {x p n n5 : Nat} {g : Nat → Int32} (hx : x < 2147483648) (hp : p < n5) (hn : n5 ≤ 100) : hf_J6_formatUnsignedInt_567d9_14 (n + 1) (nI x) 4 (nI (p + 1)) 15 n5 g = if 0 < p then hf_J6_formatUnsignedInt_567d9_14 n (nI (x / 16)) 4 (nI p) 15 n5 (upd g p (sb_b (hD (x % 16)))) else some (n5, upd g p (sb_b (hD (x % 16)))) := by
  have h16 : x % 16 < 16 := Nat.mod_lt _ (by decide)
  rw [hf_J6_formatUnsignedInt_567d9_14]
  simp only [bdE]
  rw [hx_and, gc_dec (by omega), Nat.add_sub_cancel, if_neg (nI_in (by omega) (by omega)), if_neg (nI_in (by omega) (by omega)), nI_clamp (n := x % 16) (by omega), nI_clamp (n := p) (by omega), (hD_dig _ h16).1, vn_sb, pk_ushrN (by omega) (4 : Int32) 4 (by decide)]
  by_cases h : 0 < p
  · rw [if_pos h, if_pos (show (0 : Int32) < nI p from nI_lt (a := 0) h (by omega))]
  · rw [if_neg h, if_neg (show ¬ (0 : Int32) < nI p from nI_nlt (a := 0) (by omega) (by omega))]
theorem lz_spec {m : Nat} (hm : m < 65536) : fJ6_numberOfLeadingZeros_0f7a4 (nI (65536 + m)) = some (nI 15) := by
  unfold fJ6_numberOfLeadingZeros_0f7a4
  simp only [bdE]
  rw [if_pos (show (0 : Int32) < nI _ from nI_lt (a := 0) (by omega) (by omega)), if_neg (show ¬ nI _ < (65536 : Int32) from nI_nlt (b := 65536) (by omega) (by omega)), pk_ushrN (by omega) (16 : Int32) 16 (by decide), show (65536 + m) / 2 ^ 16 = 1 by omega]
  decide +kernel
theorem th_spec {m : Nat} (hm : m < 65536) : ∃ f, hf_J6_toHexString_b52d3 2 12 (nI (65536 + m)) = some (5, f) ∧ stT (49 :: hT m) 5 f := by
  refine ⟨upd (upd (upd (upd (upd (fun _ => 0) 4 (sb_b (hD ((65536 + m) % 16)))) 3 (sb_b (hD ((65536 + m) / 16 % 16)))) 2 (sb_b (hD ((65536 + m) / 16 / 16 % 16)))) 1 (sb_b (hD ((65536 + m) / 16 / 16 / 16 % 16)))) 0 (sb_b (hD ((65536 + m) / 16 / 16 / 16 / 16 % 16))), ?_, rfl, ?_, ?_⟩
  · unfold hf_J6_toHexString_b52d3 hf_J6_toUnsignedString0_37a41 hf_J6_formatUnsignedInt_567d9 hf_J0_init_031fb
    simp only [bdE]
    rw [lz_spec hm]
    have e1 : fJ9_max_7cf53 ((32 - nI 15 + (4 - 1)) / 4) 1 = some (nI 5) := by decide +kernel
    simp only [Option.bind_some]
    rw [if_pos (by decide), if_neg (by decide), e1]
    simp only [Option.bind_some]
    have e2 : (nI 5).toNatClampNeg = 5 := by decide
    have e3 : ((1 : Int32) <<< ((4 : Int32) &&& 31)) - 1 = 15 := by decide
    have n4 : ∀ p : Nat, p < 4 → 0 < p + 1 := fun p _ => Nat.succ_pos p
    have s5 := (fu_step (x := (65536 + m) / 16 / 16 / 16 / 16) (p := 0) (n := 995) (n5 := 5) (g := upd (upd (upd (upd (fun _ => 0) 4 (sb_b (hD ((65536 + m) % 16)))) 3 (sb_b (hD ((65536 + m) / 16 % 16)))) 2 (sb_b (hD ((65536 + m) / 16 / 16 % 16)))) 1 (sb_b (hD ((65536 + m) / 16 / 16 / 16 % 16)))) (by omega) (by omega) (by omega)).trans (if_neg (by decide))
    have s4 := (fu_step (x := (65536 + m) / 16 / 16 / 16) (p := 1) (n := 996) (n5 := 5) (g := upd (upd (upd (fun _ => 0) 4 (sb_b (hD ((65536 + m) % 16)))) 3 (sb_b (hD ((65536 + m) / 16 % 16)))) 2 (sb_b (hD ((65536 + m) / 16 / 16 % 16)))) (by omega) (by omega) (by omega)).trans ((if_pos (by decide)).trans s5)
    have s3 := (fu_step (x := (65536 + m) / 16 / 16) (p := 2) (n := 997) (n5 := 5) (g := upd (upd (fun _ => 0) 4 (sb_b (hD ((65536 + m) % 16)))) 3 (sb_b (hD ((65536 + m) / 16 % 16)))) (by omega) (by omega) (by omega)).trans ((if_pos (by decide)).trans s4)
    have s2 := (fu_step (x := (65536 + m) / 16) (p := 3) (n := 998) (n5 := 5) (g := upd (fun _ => 0) 4 (sb_b (hD ((65536 + m) % 16)))) (by omega) (by omega) (by omega)).trans ((if_pos (by decide)).trans s3)
    have s1 := (fu_step (x := 65536 + m) (p := 4) (n := 999) (n5 := 5) (g := fun _ => 0) (by omega) (by omega) (by omega)).trans ((if_pos (by decide)).trans s2)
    have s0 : hf_J6_formatUnsignedInt_567d9_14 vF (nI (65536 + m)) 4 (nI 5) 15 5 (fun _ => 0) = _ := s1
    rw [e2, e3, if_neg (by decide), if_pos (by decide), s0]
    simp only [Option.bind_some]
    rw [if_pos (by decide)]
    rfl
  · exact sb_fitU (sb_fitU (sb_fitU (sb_fitU (sb_fitU sb_fit0 (sb_fitB _)) (sb_fitB _)) (sb_fitB _)) (sb_fitB _)) (sb_fitB _)
  · intro i hi
    match i, hi with
    | 0, _ =>
      refine ⟨by show 49 < 256; decide, ?_⟩
      rw [pk_us, show (65536 + m) / 16 / 16 / 16 / 16 % 16 = 1 by omega]; rfl
    | 1, _ =>
      refine ⟨(hD_dig _ (Nat.mod_lt _ (by decide))).2, ?_⟩
      rw [pk_un (by decide), pk_us, show (65536 + m) / 16 / 16 / 16 % 16 = m / 4096 % 16 by omega]; rfl
    | 2, _ =>
      refine ⟨(hD_dig _ (Nat.mod_lt _ (by decide))).2, ?_⟩
      rw [pk_un (by decide), pk_un (by decide), pk_us, show (65536 + m) / 16 / 16 % 16 = m / 256 % 16 by omega]; rfl
    | 3, _ =>
      refine ⟨(hD_dig _ (Nat.mod_lt _ (by decide))).2, ?_⟩
      rw [pk_un (by decide), pk_un (by decide), pk_un (by decide), pk_us, show (65536 + m) / 16 % 16 = m / 16 % 16 by omega]; rfl
    | 4, _ =>
      refine ⟨(hD_dig _ (Nat.mod_lt _ (by decide))).2, ?_⟩
      rw [pk_un (by decide), pk_un (by decide), pk_un (by decide), pk_un (by decide), pk_us, show (65536 + m) % 16 = m % 16 by omega]; rfl
    | i + 5, hi => exact absurd hi (by show ¬ i + 5 < 5; omega)
theorem sb_cpy1 {f g : Nat → Int32} {n j : Nat} (h : j < n) : va_cpy f g 1 0 n j = f (j + 1) := (pk_cpy_in (Nat.zero_le j) (by omega)).trans (congrArg f (by omega))
/-- toHexString(65536 + m).substring(1) -/
theorem sub_spec {W : List Nat} {c m : Nat} {f : Nat → Int32} (hs : stT (c :: W) m f) (hm : m = 5) : ∃ f', hf_J0_substring_b52d3 2 (m + 4) m f 1 = some (4, f') ∧ stT W 4 f' := by
  obtain ⟨h1, h2, h3⟩ := hs
  subst hm
  have hl : W.length = 4 := by simp at h1; omega
  refine ⟨va_cpy f (fun _ => 0) 1 0 4, ?_, hl.symm, sb_fitC h2 sb_fit0, fun i hi => ?_⟩
  · unfold hf_J0_substring_b52d3 hf_J0_substring_37a41 hf_J0_substring_37a41_22 hf_J0_length_8abf5 hf_J0_coder_7d493 hf_J0_isLatin1_aae02 hf_J1_newString_b4f7a hf_J7_copyOfRange_39247 hf_J7_copyOfRangeByte_39247 hf_J7_checkLength_df160 hf_J0_init_031fb
    simp only [bdE, Option.bind_some, oN, sb_shr0]
    have k1 : fJ0_checkBoundsBeginEnd_23922 1 (nI 5) (nI 5) = some () := by decide +kernel
    have k2 : nI 5 - 1 = nI 4 := by decide
    have k3 : (1 : Int32) + nI 4 = nI 5 := by decide
    have k4 : (nI 4).toNatClampNeg = 4 := by decide
    have k5 : fJ9_min_7cf53 (nI 4) (nI 4) = some (nI 4) := by decide +kernel
    have k6 : (1 : Int32).toNatClampNeg = 1 := by decide
    rw [k2, k4, if_pos (by decide), k1]
    simp only [Option.bind_some, k2, k4, k3]
    rw [if_neg (by decide), if_pos (by decide), if_neg (by decide), if_pos (by decide), if_pos (by decide), if_neg (by decide), if_pos (by decide), if_pos (by decide)]
    simp only [Option.bind_some, k2, k4, k5, k6, sb_cl0]
    rw [if_neg (by decide), if_pos (by decide), if_pos ⟨⟨by decide, by decide, by decide⟩, by decide, by decide, fun i _ => h2 _⟩]
    rfl
  · have := h3 (i + 1) (by simp; omega)
    rw [sb_cpy1 (by omega)]
    exact this
