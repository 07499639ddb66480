/-! STEPS WITH A BUDGET: kb, sb what was used elsewhere -/
section
variable {T : List Nat} {n kc ks kb sb mc ms : Nat} {g : Nat → Int32}
def bOk (kb sb kc ks n : Nat) : Prop := kc ≤ kb + Nat.log2 n ∧ ks ≤ sb + 2 * n
theorem lg_le {n : Nat} (h : n < 65536) : Nat.log2 n ≤ 15 := by
  by_cases h0 : n = 0
  · subst h0; decide
  · have := (Nat.log2_lt h0 (k := 16)).mpr (by omega)
    omega
theorem bud {g1 g2 n' L : Nat} (hb : bOk kb sb kc ks n) (h1 : Nat.log2 n + g1 ≤ Nat.log2 n') (h2 : 2 * n + g2 ≤ 2 * n') (h3 : n' ≤ 2 * L + 16) (hL : L ≤ 20000) (hm : kb + 15 ≤ mc) (hs : sb + 4 * L + 32 ≤ ms) : (kc + g1 ≤ mc ∧ ks + g2 ≤ ms) ∧ bOk kb sb (kc + g1) (ks + g2) n' := by
  have h4 := lg_le (n := n') (by omega)
  obtain ⟨b1, b2⟩ := hb
  exact ⟨⟨by omega, by omega⟩, by omega, by omega⟩
theorem c_char {c : Nat} (h : sbT T n g) (hc : c < 256) (hb : bOk kb sb kc ks n) (hw : T.length + 1 ≤ 20000) (hm : kb + 15 ≤ mc) (hs : sb + 4 * (T.length + 1) + 32 ≤ ms) : ∃ n' g', (∀ {β : Type} (F : Int32 × Nat × (Nat → Int32) → Option β), (if kc + gc1 (nI T.length + 1) n ≤ mc ∧ ks + gc2 (nI T.length + 1) n ≤ ms then (hf_J4_append_cf468 (gc1 (nI T.length + 1) n) (gc2 (nI T.length + 1) n) (nI c) (nI T.length) n g).bind F else none) = F (nI (T ++ [c]).length, n', g')) ∧ sbT (T ++ [c]) n' g' ∧ bOk kb sb (kc + gc1 (nI T.length + 1) n) (ks + gc2 (nI T.length + 1) n) n' := by
  obtain ⟨n', g', e1, e2, e3, e4⟩ := ap_char h hw hc
  have h5 := e2.2.1
  rw [List.length_append, List.length_singleton] at h5
  obtain ⟨b1, b2⟩ := bud hb e3 e4 h5 hw hm hs
  exact ⟨n', g', fun F => by rw [if_pos b1, e1]; rfl, e2, b2⟩
theorem c_int {z : Int} (h : sbT T n g) (h1 : -2147483648 ≤ z) (h2 : z < 2147483648) (hb : bOk kb sb kc ks n) (hw : T.length + (iT z).length ≤ 20000) (hm : kb + 15 ≤ mc) (hs : sb + 4 * (T.length + (iT z).length) + 32 ≤ ms) : ∃ n' g', (∀ {β : Type} (F : Int32 × Nat × (Nat → Int32) → Option β), (if kc + gc1 (nI T.length + (fJ6_stringSize_0f7a4 (iI z)).getD 0) n ≤ mc ∧ ks + gc2 (nI T.length + (fJ6_stringSize_0f7a4 (iI z)).getD 0) n ≤ ms then (hf_J4_append_bf812 (gc1 (nI T.length + (fJ6_stringSize_0f7a4 (iI z)).getD 0) n) (gc2 (nI T.length + (fJ6_stringSize_0f7a4 (iI z)).getD 0) n) (iI z) (nI T.length) n g).bind F else none) = F (nI (T ++ iT z).length, n', g')) ∧ sbT (T ++ iT z) n' g' ∧ bOk kb sb (kc + gc1 (nI T.length + (fJ6_stringSize_0f7a4 (iI z)).getD 0) n) (ks + gc2 (nI T.length + (fJ6_stringSize_0f7a4 (iI z)).getD 0) n) n' := by
  rw [ss_spec h1 h2, Option.getD_some]
  obtain ⟨n', g', e1, e2, e3, e4⟩ := ap_int h h1 h2 hw
  have h5 := e2.2.1
  rw [List.length_append] at h5
  obtain ⟨b1, b2⟩ := bud hb e3 e4 h5 hw hm hs
  exact ⟨n', g', fun F => by rw [if_pos b1, e1]; rfl, e2, b2⟩
theorem c_str {W : List Nat} {m : Nat} {f : Nat → Int32} (h : sbT T n g) (hf : stT W m f) (hb : bOk kb sb kc ks n) (hw : T.length + W.length ≤ 20000) (hm : kb + 15 ≤ mc) (hs : sb + 4 * (T.length + W.length) + 32 ≤ ms) : ∃ n' g', (∀ {β : Type} (F : Int32 × Nat × (Nat → Int32) → Option β), (if kc + gc1 (nI T.length + Int32.ofNat m) n ≤ mc ∧ ks + gc2 (nI T.length + Int32.ofNat m) n ≤ ms then (hf_J4_append_15ec4 (gc1 (nI T.length + Int32.ofNat m) n) (gc2 (nI T.length + Int32.ofNat m) n) m f (nI T.length) n g).bind F else none) = F (nI (T ++ W).length, n', g')) ∧ sbT (T ++ W) n' g' ∧ bOk kb sb (kc + gc1 (nI T.length + Int32.ofNat m) n) (ks + gc2 (nI T.length + Int32.ofNat m) n) n' := by
  rw [oN]
  obtain ⟨n', g', e1, e2, e3, e4⟩ := ap_str h hf hw
  have h5 := e2.2.1
  rw [List.length_append] at h5
  obtain ⟨b1, b2⟩ := bud hb e3 e4 h5 hw hm hs
  exact ⟨n', g', fun F => by rw [if_pos b1, e1]; rfl, e2, b2⟩
theorem c_k {ki : Nat} (h : sbT T n g) (hk : ki < 3) (hb : bOk kb sb kc ks n) (hw : T.length + 1 ≤ 20000) (hm : kb + 15 ≤ mc) (hs : sb + 4 * (T.length + 1) + 32 ≤ ms) : ∃ n' g', (∀ {β : Type} (F : Int32 × Nat × (Nat → Int32) → Option β), (if kc + gc1 (nI T.length + Int32.ofNat (vLlen.getD ki 0)) n ≤ mc ∧ ks + gc2 (nI T.length + Int32.ofNat (vLlen.getD ki 0)) n ≤ ms then (hf_J4_append_15ec4_K (gc1 (nI T.length + Int32.ofNat (vLlen.getD ki 0)) n) (gc2 (nI T.length + Int32.ofNat (vLlen.getD ki 0)) n) ki (nI T.length) n g).bind F else none) = F (nI (T ++ kT ki).length, n', g')) ∧ sbT (T ++ kT ki) n' g' ∧ bOk kb sb (kc + gc1 (nI T.length + Int32.ofNat (vLlen.getD ki 0)) n) (ks + gc2 (nI T.length + Int32.ofNat (vLlen.getD ki 0)) n) n' := by
  rw [oN]
  obtain ⟨n', g', e1, e2, e3, e4⟩ := ap_k h hk hw
  have k3 : (kT ki).length ≤ 1 := by
    unfold kT
    split
    · exact Nat.le_refl 1
    · split <;> simp
  have h5 := e2.2.1
  rw [List.length_append] at h5
  obtain ⟨b1, b2⟩ := bud (L := T.length + 1) hb e3 e4 (by omega) hw hm hs
  exact ⟨n', g', fun F => by rw [if_pos b1, e1]; rfl, e2, b2⟩
/-- toString at the end of a budget -/
theorem c_ts (h : sbT T n g) (hb : bOk kb sb kc ks n) (hw : T.length ≤ 20000) (hm : kb + 17 ≤ mc) (hs : sb + 5 * T.length + 36 ≤ ms) : ∃ f, (∀ {β : Type} (F : Nat × (Nat → Int32) → Option β), (if kc + 2 ≤ mc ∧ ks + (Int32.toNatClampNeg (nI T.length) + 4) ≤ ms then (hf_J4_toString_0e30d 2 (Int32.toNatClampNeg (nI T.length) + 4) (nI T.length) n g).bind F else none) = F (T.length, f)) ∧ stT T T.length f := by
  obtain ⟨f, e1, e2⟩ := ts_spec h hw
  have h5 := h.2.1
  have h4 := lg_le (n := n) (by omega)
  obtain ⟨b1, b2⟩ := hb
  exact ⟨f, fun F => by rw [nI_clamp (n := T.length) (by omega), if_pos ⟨by omega, by omega⟩]; rw [nI_clamp (n := T.length) (by omega)] at e1; rw [e1]; rfl, e2⟩
end
