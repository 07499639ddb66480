/-! PACKED, AND THE LOG'S TEXT -/
def pkN (a : mA) : Nat → Nat
  | 0 => 0
  | k + 1 => pkN a k ||| (if k < 4 then a 1 k <<< (16 * k) else 0)
theorem pk_sh (i : Nat) (h : i < 4) (m : Nat) : nL m <<< (Int32.toInt64 (nI (16 * i)) &&& 63) = nL (m <<< (16 * i)) := by
  have : i = 0 ∨ i = 1 ∨ i = 2 ∨ i = 3 := by omega
  rcases this with rfl | rfl | rfl | rfl
  · exact sh_0 m
  · exact sh_16 m
  · exact sh_32 m
  · exact sh_48 m
theorem iT_u {z : Int} (h1 : 0 ≤ z) (h2 : z < 100) : (iT z).length ≤ 2 := by
  rw [iT, if_neg (by omega), List.nil_append]
  by_cases h : z.natAbs < 10
  · rw [dT_lt h]; simp
  · rw [dT_99 (by omega) (by omega)]; simp
section
variable {B : Nat} {a : mA}
theorem z_packed {u : vZ} (w : WF B a) (r : RX a u.2.1.1) : fX7_packed u = some (nL (pkN a (a 0 0)), u) := by
  have hn := wf_n w
  have hstop : ∀ d, pkN a (4 + d) = pkN a 4 := by
    intro d
    induction d with
    | zero => rfl
    | succ d ih =>
      show pkN a (4 + d) ||| (if 4 + d < 4 then a 1 (4 + d) <<< (16 * (4 + d)) else 0) = _
      rw [if_neg (by omega), ih, Nat.or_zero]
  have key : ∀ d i n, i + d = 8 → d < n → i ≤ a 0 0 → i ≤ 4 → fX7_packed_4 n (nL (pkN a i)) (nI i) u = some (nL (pkN a (a 0 0)), u) := by
    intro d
    induction d with
    | zero =>
      intro i n h1 h2 h3 h4
      omega
    | succ d ih =>
      intro i n h1 h2 h3 h4
      obtain ⟨n, rfl⟩ : ∃ m, n = m + 1 := ⟨n - 1, by omega⟩
      by_cases hi : i < a 0 0
      · by_cases h5 : i < 4
        · rw [xq_pk w r (pkN a i) n hi rfl h5 (pk_sh i h5)]
          have e : pkN a (i + 1) = pkN a i ||| (a 1 i <<< (16 * i)) := by rw [pkN, if_pos h5]
          rw [← e]
          exact ih (i + 1) n (by omega) (by omega) (by omega) (by omega)
        · rw [xq_pkE w r _ n (by omega) (Or.inl (by omega))]
          have e4 : i = 4 := by omega
          have e : pkN a (a 0 0) = pkN a 4 := by
            have := hstop (a 0 0 - 4)
            rw [show 4 + (a 0 0 - 4) = a 0 0 by omega] at this
            exact this
          rw [e, e4]
      · rw [xq_pkE w r _ n (by omega) (Or.inr (by omega)), show i = a 0 0 by omega]
  have h0 := key 8 0 vF (by omega) (by unfold vF; omega) (by omega) (by omega)
  rw [fX7_packed, show (0 : Int64) = nL 0 from rfl, show (0 : Int32) = nI 0 from rfl]
  exact h0
theorem logT_len (w : WF B a) (hB : B < 100) : ∀ k, k ≤ a 0 3 → (logT a k).length ≤ 5 * k
  | 0, _ => Nat.le_refl 0
  | k + 1, hk => by
    have h1 := logT_len w hB k (by omega)
    have h2 := wf_g w k (by omega)
    have h3 := w.1
    have l1 := iT_d (z := (a 5 k : Int)) (by omega) (by omega)
    have l2 := iT_u (z := (a 6 k : Int)) (by omega) (by omega)
    have l3 : (if k = 0 then ([] : List Nat) else [32]).length ≤ 1 := by split <;> simp
    rw [logT]
    simp only [List.length_append, List.length_singleton]
    omega
theorem z_log33 {u : vZ} (w : WF B a) (hB : B < 100) (r : RX a u.2.1.1) {k : Nat} (hk : k < a 0 3) {T : List Nat} (h : lnT u.2.2.2.2.2.2 T) (hT : T.length ≤ 100) : ∃ l', (∀ rec : Int32 → vZ → Option (Int32 × vZ), fX7_writeLog_33 rec (nI k) u = rec (nI (k + 1)) (wLine u l')) ∧ lnT l' (T ++ (iT (a 5 k : Int) ++ ([58] ++ iT (a 6 k : Int)))) := by
  have hl := wf_l w
  have h2 := wf_g w k hk
  have h3 := w.1
  have l1 := iT_d (z := (a 5 k : Int)) (by omega) (by omega)
  have l2 := iT_u (z := (a 6 k : Int)) (by omega) (by omega)
  obtain ⟨m1, f1, g1⟩ := ln_int (z := (a 5 k : Int)) (by omega) (by omega) h (by omega)
  obtain ⟨m2, f2, g2⟩ := ln_put (c := 58) g1 (by omega) (by rw [List.length_append]; omega)
  obtain ⟨m3, f3, g3⟩ := ln_int (z := (a 6 k : Int)) (by omega) (by omega) g2 (by rw [List.length_append, List.length_append, List.length_singleton]; omega)
  have hin : ¬ (nI k < 0 ∨ 10 ≤ Int32.toNatClampNeg (nI k)) := nI_in (by omega) (by omega)
  have hin2 : ¬ (nI k < 0 ∨ 10 ≤ k) := fun z => by
    rcases z with z | z
    · exact nI_neg0 (a := k) (by omega) z
    · omega
  have e5 : u.2.1.1.1 5 k = iI (a 5 k : Int) := by rw [rx_s r k hk]; exact nI_iI _
  have e6 : u.2.1.1.1 6 k = iI (a 6 k : Int) := by rw [rx_t r k hk]; exact nI_iI _
  simp only [List.append_assoc] at g3
  refine ⟨m3, fun rec => ?_, g3⟩
  unfold fX7_writeLog_33
  simp only [bdE]
  rw [if_neg hin, nI_clamp (n := k) (by omega), e5, f1]
  simp only [Option.bind_some]
  rw [show (58 : Int32) = nI 58 from rfl, f2]
  simp only [Option.bind_some]
  rw [if_neg hin2, e6, f3]
  simp only [Option.bind_some]
  rw [nI_1]
  rfl
theorem z_logL (w : WF B a) (hB : B < 100) : ∀ d k n (u : vZ) T, RX a u.2.1.1 → k + d = a 0 3 → d < n → T = logT a k → lnT u.2.2.2.2.2.2 T → ∃ l', fX7_writeLog_9 n (nI k) u = some (nI (logT a (a 0 3)).length, wLine u l') ∧ lnT l' (logT a (a 0 3)) := by
  have hl := wf_l w
  intro d
  induction d with
  | zero =>
    intro k n u T r hk hn hT h
    obtain ⟨n, rfl⟩ : ∃ j, n = j + 1 := ⟨n - 1, by omega⟩
    have e : k = a 0 3 := by omega
    rw [fX7_writeLog_9, rx_l r, if_pos (nI_le (by omega) (by omega)), ← e, ← hT]
    exact ⟨u.2.2.2.2.2.2, by rw [h.1]; rfl, h⟩
  | succ d ih =>
    intro k n u T r hk hn hT h
    obtain ⟨n, rfl⟩ : ∃ j, n = j + 1 := ⟨n - 1, by omega⟩
    have hT2 := logT_len w hB k (by omega)
    rw [← hT] at hT2
    rw [fX7_writeLog_9, rx_l r, if_neg (nI_ge (by omega) (by omega))]
    by_cases h0 : k = 0
    · subst h0
      obtain ⟨m, f1, f2⟩ := z_log33 w hB r (k := 0) (by omega) h (by omega)
      rw [if_pos (show nI 0 ≤ 0 by decide)]
      have e : T ++ (iT (a 5 0 : Int) ++ ([58] ++ iT (a 6 0 : Int))) = logT a 1 := by rw [hT]; rfl
      rw [e] at f2
      obtain ⟨l', p1, p2⟩ := ih 1 n (wLine u m) _ r (by omega) (by omega) rfl f2
      have f1' := f1 (fun a0 a1 => fX7_writeLog_9 n a0 a1)
      exact ⟨l', f1'.trans p1, p2⟩
    · obtain ⟨m0, q1, q2⟩ := ln_put (c := 32) h (by omega) (by omega)
      obtain ⟨m, f1, f2⟩ := z_log33 (u := wLine u m0) w hB r (k := k) (by omega) q2 (by rw [List.length_append, List.length_singleton]; omega)
      have e : T ++ [32] ++ (iT (a 5 k : Int) ++ ([58] ++ iT (a 6 k : Int))) = logT a (k + 1) := by rw [hT, logT, if_neg h0, List.append_assoc]
      rw [e] at f2
      obtain ⟨l', p1, p2⟩ := ih (k + 1) n (wLine (wLine u m0) m) _ r (by omega) (by omega) rfl f2
      have f1' := f1 (fun a0 a1 => fX7_writeLog_9 n a0 a1)
      rw [if_neg (nI_nle (n := k) (by omega) (by omega)), show (32 : Int32) = nI 32 from rfl, q1]
      simp only [Option.bind_some, bdE]
      exact ⟨l', f1'.trans p1, p2⟩
theorem z_writeLog {u : vZ} (w : WF B a) (hB : B < 100) (r : RX a u.2.1.1) : ∃ l', fX7_writeLog u = some (nI (logT a (a 0 3)).length, wLine u l') ∧ lnT l' (logT a (a 0 3)) := by
  have hl := wf_l w
  obtain ⟨l0, f0, b0⟩ := ln_clear u.2.2.2.2.2.2
  obtain ⟨l', p1, p2⟩ := z_logL w hB (a 0 3) 0 vF (wLine u l0) [] r (by omega) (by unfold vF; omega) rfl b0
  refine ⟨l', ?_, p2⟩
  unfold fX7_writeLog
  rw [f0]
  simp only [Option.bind_some, bdE]
  exact p1
theorem chs_log (a : mA) : ∀ k, chs (logT a k)
  | 0 => chs_nil
  | k + 1 => by
    rw [logT]
    refine chs_app (chs_log a k) (chs_app ?_ (chs_app (chs_iT _) (chs_app (chs_one (by decide)) (chs_iT _))))
    split
    · exact chs_nil
    · exact chs_one (by decide)
end
