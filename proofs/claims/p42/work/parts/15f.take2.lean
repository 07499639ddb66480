/-- sighted in this hour -/
def sgP (a : mA) (s : Nat) : Prop := ∃ k, k < a 0 3 ∧ a 5 k = s ∧ a 6 k = a 0 1
theorem wf_mono {B : Nat} {a : mA} (w : WF B a) {i j : Nat} (hij : i ≤ j) (hj : j < a 0 3) : a 6 j ≤ a 6 i := by
  obtain ⟨d, rfl⟩ : ∃ d, j = i + d := ⟨j - i, by omega⟩
  clear hij
  induction d with
  | zero => exact Nat.le_refl _
  | succ d ih =>
    have h1 := ih (by omega)
    have h2 := wf_o w (i + d) (by omega)
    show a 6 (i + d + 1) ≤ a 6 i
    omega
section
variable {B : Nat} {a : mA}
theorem xq_sightedNow (w : WF B a) {u : vH} (r : RX a u) {s : Nat} (hs : s < a 0 0) : (sgP a s → fX5_isSightedNow (nI s) u = some (nI 1, u)) ∧ (¬ sgP a s → fX5_isSightedNow (nI s) u = some (nI 0, u)) := by
  have hn := wf_n w
  have hl := wf_l w
  have hh := wf_h w
  have hg := wf_g w
  rcases first_or (fun k => a 5 k = s) 0 (a 0 3) with ⟨k, -, h2, h3, h4⟩ | h5
  · have e := xq_sf_hit w r (s := s) (i := 0) (by omega) (by omega) h2 h3 (fun j h1 h2 => h4 j h1 h2)
    rw [← l32_0] at e
    have n1 : ∀ k : Nat, k < 10 → ¬ nI k = -1 := by decide
    have i1 : ¬ (nI k < 0 ∨ 10 ≤ Int32.toNatClampNeg (nI k)) := (nJ_in (n := 10) (by omega) (by omega)).mp
    have g := hg k h2
    constructor
    · intro ⟨j, j1, j2, j3⟩
      have j4 : k ≤ j := by
        by_cases e : k ≤ j
        · exact e
        · exact absurd j2 (h4 j (by omega) (by omega))
      have j5 := wf_mono w j4 j1
      have j6 : a 6 k = a 0 1 := by omega
      rw [fX5_isSightedNow, e, obp_some, if_neg (n1 k (by omega)), if_neg i1, nJ_clamp (by omega), rx_t r k h2, rx_h r, j6, if_pos rfl]
      rfl
    · intro hs
      have j6 : ¬ nI (a 6 k) = nI (a 0 1) := by
        rw [nJ_eq (by omega) (by omega)]
        exact fun e => hs ⟨k, h2, h3, e⟩
      rw [fX5_isSightedNow, e, obp_some, if_neg (n1 k (by omega)), if_neg i1, nJ_clamp (by omega), rx_t r k h2, rx_h r, if_neg j6]
      rfl
  · have e := xq_sf_none w r (s := s) (i := 0) (by omega) (by omega) (fun j h1 h2 => h5 j h1 h2)
    rw [← l32_0] at e
    constructor
    · intro ⟨j, j1, j2, j3⟩
      exact absurd j2 (h5 j (by omega) j1)
    · intro _
      rw [fX5_isSightedNow, e, obp_some, if_pos rfl]
      rfl
theorem sg_dec (a : mA) (s : Nat) : sgP a s ∨ ¬ sgP a s := Classical.em _
end


