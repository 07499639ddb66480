theorem law_lp {xs : Nat → Int32} {L : Nat} (hL : L ≤ 1536) : ∀ n k B a u v, L + 3 ≤ k + 3 * n → k ≤ L → B + 15 * n + 100 < 1000000000 → RLs B a u v → fL_law_18 xs L n (nI k) (u, v) = some () := by
  intro n
  induction n with
  | zero => intro k B a u v h1 h2; omega
  | succ n ih =>
    intro k B a u v h1 h2 h3 R
    rw [fL_law_18]
    have e3 : (Int32.ofNat L) - (3 : Int32) < nI k ↔ (L : Int) - 3 < k := by
      rw [show (Int32.ofNat L) - (3 : Int32) = iI ((L : Int) - 3) from by
        rw [show Int32.ofNat L = nI L from rfl, show (3 : Int32) = iI 3 from rfl, nI_iI, iI_sub], nI_iI, iI_lt (by omega) (by omega) (by omega) (by omega)]
    by_cases hc : (L : Int) - 3 < k
    · rw [if_pos (e3.mpr hc)]
    · have hk : k + 2 < L := by omega
      have hB : B + 100 < 1000000000 := by omega
      rw [if_neg (fun h => hc (e3.mp h)), if_neg ((nJ_in (a := k) (n := L) (by omega) (by omega)).mp)]
      have hrec : ∀ a u v, RLs (B + 15) a u v → (fun a0 a1 => fL_law_18 xs L n a0 a1) (nI (k + 3)) (u, v) = some () := fun a u v R => ih (k + 3) (B + 15) a u v (by omega) (by omega) (by omega) R
      generalize (fun a0 a1 => fL_law_18 xs L n a0 a1) = rec at hrec ⊢
      generalize (xs (Int32.toNatClampNeg (nI k))) &&& (63 : Int32) = z
      by_cases c0 : z = 0
      · rw [if_pos c0]
        exact lc_204 hk hL hB R hrec
      rw [if_neg c0]
      by_cases c1 : z = 1
      · rw [if_pos c1]
        exact lc_227 hk hL hB R hrec
      rw [if_neg c1]
      by_cases c2 : z = 2
      · rw [if_pos c2]
        exact lc_250 hk hL hB R hrec
      rw [if_neg c2]
      by_cases c3 : z = 3
      · rw [if_pos c3]
        exact lc_283 hk hL hB R hrec
      rw [if_neg c3]
      by_cases c4 : z = 4
      · rw [if_pos c4]
        exact lc_316 hk hL hB R hrec
      rw [if_neg c4]
      by_cases c5 : z = 5
      · rw [if_pos c5]
        exact lc_349 hk hL hB R hrec
      rw [if_neg c5]
      by_cases c6 : z = 6
      · rw [if_pos c6]
        exact lc_382 hk hL hB R hrec
      rw [if_neg c6]
      by_cases c7 : z = 7
      · rw [if_pos c7]
        exact lc_405 hk hL hB R hrec
      rw [if_neg c7]
      by_cases c8 : z = 8
      · rw [if_pos c8]
        exact lc_428 hk hL hB R hrec
      rw [if_neg c8]
      by_cases c9 : z = 9
      · rw [if_pos c9]
        exact lc_441 hk hL hB R hrec
      rw [if_neg c9]
      by_cases c10 : z = 10
      · rw [if_pos c10]
        exact lc_474 hk hL hB R hrec
      rw [if_neg c10]
      by_cases c11 : z = 11
      · rw [if_pos c11]
        exact lc_507 hk hL hB R hrec
      rw [if_neg c11]
      by_cases c12 : z = 12
      · rw [if_pos c12]
        exact lc_540 hk hL hB R hrec
      rw [if_neg c12]
      by_cases c13 : z = 13
      · rw [if_pos c13]
        exact lc_593 hk hL hB R hrec
      rw [if_neg c13]
      by_cases c14 : z = 14
      · rw [if_pos c14]
        exact lc_616 hk hL hB R hrec
      rw [if_neg c14]
      by_cases c15 : z = 15
      · rw [if_pos c15]
        exact lc_639 hk hL hB R hrec
      rw [if_neg c15]
      by_cases c16 : z = 16
      · rw [if_pos c16]
        exact lc_662 hk hL hB R hrec
      rw [if_neg c16]
      by_cases c17 : z = 17
      · rw [if_pos c17]
        exact lc_695 hk hL hB R hrec
      rw [if_neg c17]
      by_cases c18 : z = 18
      · rw [if_pos c18]
        exact lc_728 hk hL hB R hrec
      rw [if_neg c18]
      by_cases c19 : z = 19
      · rw [if_pos c19]
        exact lc_761 hk hL hB R hrec
      rw [if_neg c19]
      by_cases c20 : z = 20
      · rw [if_pos c20]
        exact lc_794 hk hL hB R hrec
      rw [if_neg c20]
      by_cases c21 : z = 21
      · rw [if_pos c21]
        exact lc_827 hk hL hB R hrec
      rw [if_neg c21]
      by_cases c22 : z = 22
      · rw [if_pos c22]
        exact lc_850 hk hL hB R hrec
      rw [if_neg c22]
      by_cases c23 : z = 23
      · rw [if_pos c23]
        exact lc_863 hk hL hB R hrec
      rw [if_neg c23]
      by_cases c24 : z = 24
      · rw [if_pos c24]
        exact lc_886 hk hL hB R hrec
      rw [if_neg c24]
      by_cases c25 : z = 25
      · rw [if_pos c25]
        exact lc_909 hk hL hB R hrec
      rw [if_neg c25]
      by_cases c26 : z = 26
      · rw [if_pos c26]
        exact lc_923 hk hL hB R hrec
      rw [if_neg c26]
      by_cases c27 : z = 27
      · rw [if_pos c27]
        exact lc_936 hk hL hB R hrec
      rw [if_neg c27]
      by_cases c28 : z = 28
      · rw [if_pos c28]
        exact lc_977 hk hL hB R hrec
      rw [if_neg c28]
      by_cases c29 : z = 29
      · rw [if_pos c29]
        exact lc_1000 hk hL hB R hrec
      rw [if_neg c29]
      by_cases c30 : z = 30
      · rw [if_pos c30]
        exact lc_1023 hk hL hB R hrec
      rw [if_neg c30]
      by_cases c31 : z = 31
      · rw [if_pos c31]
        exact lc_1036 hk hL hB R hrec
      rw [if_neg c31]
      by_cases c32 : z = 32
      · rw [if_pos c32]
        exact lc_1059 hk hL hB R hrec
      rw [if_neg c32]
      by_cases c33 : z = 33
      · rw [if_pos c33]
        exact lc_1084 hk hL hB R hrec
      rw [if_neg c33]
      by_cases c34 : z = 34
      · rw [if_pos c34]
        exact lc_1097 hk hL hB R hrec
      rw [if_neg c34]
      by_cases c35 : z = 35
      · rw [if_pos c35]
        exact lc_1110 hk hL hB R hrec
      rw [if_neg c35]
      by_cases c36 : z = 36
      · rw [if_pos c36]
        exact lc_1159 hk hL hB R hrec
      rw [if_neg c36]
      by_cases c37 : z = 37
      · rw [if_pos c37]
        exact lc_1172 hk hL hB R hrec
      rw [if_neg c37]
      by_cases c38 : z = 38
      · rw [if_pos c38]
        exact lc_1185 hk hL hB R hrec
      rw [if_neg c38]
      exact lf_go hrec (rl_up R (by omega) (by omega))
/-- what both hold at first -/
def mZ : mA := fun i j => if i = 4 then 4 else if i = 0 then (if j = 2 then 3 else 0) else 0
theorem wf_mZ : WF 0 mZ := ⟨⟨by decide, by decide, by decide, by decide, by decide⟩, fun i hi => absurd hi (Nat.not_lt_zero i), fun w _ => by show 4 ≤ 8; omega, fun k hk => absurd hk (Nat.not_lt_zero k), fun k hk => absurd hk (Nat.not_lt_zero (k + 1))⟩
theorem rx_mZ : RX mZ vH0 := by
  refine ⟨⟨rfl, rfl, rfl, rfl⟩, ⟨rfl, rfl, rfl, rfl⟩, fun i hi => absurd hi (Nat.not_lt_zero i), fun i hi => absurd hi (Nat.not_lt_zero i), fun i hi => absurd hi (Nat.not_lt_zero i), fun w hw => ?_, fun k hk => absurd hk (Nat.not_lt_zero k), fun k hk => absurd hk (Nat.not_lt_zero k), fun k hk => absurd hk (Nat.not_lt_zero k)⟩
  have : w = 0 ∨ w = 1 ∨ w = 2 ∨ w = 3 := by omega
  rcases this with e | e | e | e <;> subst e <;> rfl
theorem rr_mZ : RR mZ (vR0 1) := by
  refine ⟨⟨rfl, rfl, rfl, rfl⟩, ⟨rfl, rfl, rfl, rfl⟩, fun i hi => absurd hi (Nat.not_lt_zero i), fun i hi => absurd hi (Nat.not_lt_zero i), fun i hi => absurd hi (Nat.not_lt_zero i), fun w hw => ?_, fun k hk => absurd hk (Nat.not_lt_zero k), fun k hk => absurd hk (Nat.not_lt_zero k), fun k hk => absurd hk (Nat.not_lt_zero k)⟩
  have : w = 0 ∨ w = 1 ∨ w = 2 ∨ w = 3 := by omega
  rcases this with e | e | e | e <;> subst e <;> rfl
theorem rl_start : RLs 0 mZ vZ0 vR0 := by
  refine ⟨⟨wf_mZ, rx_mZ, rr_mZ⟩, ⟨0, fun _ => mZ, ⟨by omega, rfl, 0, by omega, rfl, fun j hj => absurd hj (Nat.not_lt_zero j)⟩, rfl, fun j hj => absurd hj (Nat.not_lt_zero j)⟩, Or.inl ⟨rfl, rfl⟩, Or.inl ⟨rfl, rfl⟩, ⟨0, by omega, rfl, rfl, fun i hi => absurd hi (Nat.not_lt_zero i)⟩, ⟨0, by omega, rfl, rfl, fun i hi => absurd hi (Nat.not_lt_zero i)⟩, Or.inl ⟨rfl, rfl⟩, fun i hi => ?_, fun i hi => ?_⟩
  · show vTab vtb9 50 i = _
    exact if_pos hi
  · show vTab vtb10 10 i = _
    exact if_pos hi
theorem law_pure {xs : Nat → Int32} {L : Nat} (hL : L ≤ 1536) : fL_law_18 xs L vF (0 : Int32) (vZ0, vR0) = some () :=
  law_lp hL vF 0 0 mZ vZ0 vR0 (by unfold vF; omega) (Nat.zero_le L) (by unfold vF; omega) rl_start
theorem whole_start {p : Program} {e : Env} {s : State} {m : MethodId} {below : List Frame} {meth : Method} {c : Code} (l : Launch) (_ : l.flags = flags0) {b L : Nat} {xs : Nat → Int32} (hL : L ≤ 1536) (C0 : lw_At p s m meth c b L xs) : W p l e room_1 s m #[Value.ref b] below meth c s.heap [] 0 0 (lw_Z below #[Value.ref b] s) (entryFrame m ([Value.ref b] : List Value).toArray 8) :=
  start_open l (law_pure hL) C0
