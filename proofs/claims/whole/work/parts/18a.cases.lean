/-! the law's loop: what is called on both sides is answered alike, and it goes on -/
theorem lg_same (y : Int64) : lg_cmp y y = 0 := by
  unfold lg_cmp
  rw [if_neg, if_pos rfl]
  intro h
  rw [gt_iff_lt, Int64.lt_iff_toInt_lt] at h
  omega
theorem sim_up {R : Type} {B B' : Nat} {f : Option (R × vZ)} {g : Option (R × vS)} (S : SIM B f g) (h : B ≤ B') (h' : B' < 1000000000) : SIM B' f g := by
  obtain ⟨r, a, u, v, e1, e2, R⟩ := S
  exact ⟨r, a, u, v, e1, e2, rl_up R h h'⟩
theorem dn_same {y : UInt64} {A : Option Unit} : (if Op.cmpValue (FP.dcmp y y) CmpOp.l = 0 then A else (if Op.cmpValue (FP.dcmp y y) CmpOp.l = 0 then none else (if Op.cmpValue (FP.dcmp y y) CmpOp.l = 0 then none else A))) = A := by
  by_cases h : Op.cmpValue (FP.dcmp y y) CmpOp.l = 0
  · rw [if_pos h]
  · rw [if_neg h, if_neg h, if_neg h]
section
variable {B L k : Nat} {a : mA} {u : vZ} {v : vS} {xs : Nat → Int32} {rec : Int32 → vL → Option Unit}
theorem lf_go (hrec : ∀ a u v, RLs (B + 15) a u v → rec (nI (k + 3)) (u, v) = some ()) (R : RLs (B + 15) a u v) : fL_law_1198 xs L rec (nI k) (u, v) = some () := by
  rw [fL_law_1198]
  dsimp only [bd]
  rw [show nI k + 3 = nI (k + 3) from nJ_add k 3]
  exact hrec a u v R
theorem li_1 (hk : k + 2 < L) (hL : L ≤ 1536) : ¬ (nI k + (1 : Int32) < 0 ∨ L ≤ Int32.toNatClampNeg (nI k + (1 : Int32))) := by
  rw [show nI k + 1 = nI (k + 1) from nJ_add k 1]
  exact (nJ_in (by omega) (by omega)).mp
theorem li_2 (hk : k + 2 < L) (hL : L ≤ 1536) : ¬ (nI k + (2 : Int32) < 0 ∨ L ≤ Int32.toNatClampNeg (nI k + (2 : Int32))) := by
  rw [show nI k + 2 = nI (k + 2) from nJ_add k 2]
  exact (nJ_in (by omega) (by omega)).mp
theorem lc_204 (hk : k + 2 < L) (hL : L ≤ 1536) (hB : B + 100 < 1000000000) (R : RLs B a u v) (hrec : ∀ a u v, RLs (B + 15) a u v → rec (nI (k + 3)) (u, v) = some ()) : fL_law_204 xs L rec (nI k) (u, v) = some () := by
  obtain ⟨r, a2, u2, v2, e1, e2, R2⟩ : SIM (B + 15) (fX7_sail (xs (Int32.toNatClampNeg (nI k + (1 : Int32)))) u) (fX8_sail (xs (Int32.toNatClampNeg (nI k + (1 : Int32)))) v) := (sim_up (s_sail R (xs (Int32.toNatClampNeg (nI k + (1 : Int32))))) (by omega) (by omega))
  rw [fL_law_204]
  dsimp only [bd]
  rw [if_neg (li_1 hk hL), e1, obp_some, if_neg (li_1 hk hL), e2, obp_some, if_pos rfl]
  exact lf_go hrec R2
theorem lc_227 (hk : k + 2 < L) (hL : L ≤ 1536) (hB : B + 100 < 1000000000) (R : RLs B a u v) (hrec : ∀ a u v, RLs (B + 15) a u v → rec (nI (k + 3)) (u, v) = some ()) : fL_law_227 xs L rec (nI k) (u, v) = some () := by
  obtain ⟨r, a2, u2, v2, e1, e2, R2⟩ : SIM (B + 15) (fX7_shore (xs (Int32.toNatClampNeg (nI k + (1 : Int32)))) u) (fX8_shore (xs (Int32.toNatClampNeg (nI k + (1 : Int32)))) v) := (sim_up (s_shore R (xs (Int32.toNatClampNeg (nI k + (1 : Int32))))) (by omega) (by omega))
  rw [fL_law_227]
  dsimp only [bd]
  rw [if_neg (li_1 hk hL), e1, obp_some, if_neg (li_1 hk hL), e2, obp_some, if_pos rfl]
  exact lf_go hrec R2
theorem lc_250 (hk : k + 2 < L) (hL : L ≤ 1536) (hB : B + 100 < 1000000000) (R : RLs B a u v) (hrec : ∀ a u v, RLs (B + 15) a u v → rec (nI (k + 3)) (u, v) = some ()) : fL_law_250 xs L rec (nI k) (u, v) = some () := by
  obtain ⟨r, a2, u2, v2, e1, e2, R2⟩ : SIM (B + 15) (fX7_mood (xs (Int32.toNatClampNeg (nI k + (1 : Int32)))) (xs (Int32.toNatClampNeg (nI k + (2 : Int32)))) u) (fX8_mood (xs (Int32.toNatClampNeg (nI k + (1 : Int32)))) (xs (Int32.toNatClampNeg (nI k + (2 : Int32)))) v) := (sim_up (s_mood R (xs (Int32.toNatClampNeg (nI k + (1 : Int32)))) (xs (Int32.toNatClampNeg (nI k + (2 : Int32))))) (by omega) (by omega))
  rw [fL_law_250]
  dsimp only [bd]
  rw [if_neg (li_1 hk hL), if_neg (li_2 hk hL), e1, obp_some, if_neg (li_1 hk hL), if_neg (li_2 hk hL), e2, obp_some, if_pos rfl]
  exact lf_go hrec R2
theorem lc_283 (hk : k + 2 < L) (hL : L ≤ 1536) (hB : B + 100 < 1000000000) (R : RLs B a u v) (hrec : ∀ a u v, RLs (B + 15) a u v → rec (nI (k + 3)) (u, v) = some ()) : fL_law_283 xs L rec (nI k) (u, v) = some () := by
  obtain ⟨r, a2, u2, v2, e1, e2, R2⟩ : SIM (B + 15) (fX7_rum (xs (Int32.toNatClampNeg (nI k + (1 : Int32)))) (xs (Int32.toNatClampNeg (nI k + (2 : Int32)))) u) (fX8_rum (xs (Int32.toNatClampNeg (nI k + (1 : Int32)))) (xs (Int32.toNatClampNeg (nI k + (2 : Int32)))) v) := (sim_up (s_rum R (xs (Int32.toNatClampNeg (nI k + (1 : Int32)))) (xs (Int32.toNatClampNeg (nI k + (2 : Int32))))) (by omega) (by omega))
  rw [fL_law_283]
  dsimp only [bd]
  rw [if_neg (li_1 hk hL), if_neg (li_2 hk hL), e1, obp_some, if_neg (li_1 hk hL), if_neg (li_2 hk hL), e2, obp_some, if_pos rfl]
  exact lf_go hrec R2
theorem lc_316 (hk : k + 2 < L) (hL : L ≤ 1536) (hB : B + 100 < 1000000000) (R : RLs B a u v) (hrec : ∀ a u v, RLs (B + 15) a u v → rec (nI (k + 3)) (u, v) = some ()) : fL_law_316 xs L rec (nI k) (u, v) = some () := by
  obtain ⟨r, a2, u2, v2, e1, e2, R2⟩ : SIM (B + 15) (fX7_watch (xs (Int32.toNatClampNeg (nI k + (1 : Int32)))) (xs (Int32.toNatClampNeg (nI k + (2 : Int32)))) u) (fX8_watch (xs (Int32.toNatClampNeg (nI k + (1 : Int32)))) (xs (Int32.toNatClampNeg (nI k + (2 : Int32)))) v) := (sim_up (s_watch R (xs (Int32.toNatClampNeg (nI k + (1 : Int32)))) (xs (Int32.toNatClampNeg (nI k + (2 : Int32))))) (by omega) (by omega))
  rw [fL_law_316]
  dsimp only [bd]
  rw [if_neg (li_1 hk hL), if_neg (li_2 hk hL), e1, obp_some, if_neg (li_1 hk hL), if_neg (li_2 hk hL), e2, obp_some, if_pos rfl]
  exact lf_go hrec R2
theorem lc_349 (hk : k + 2 < L) (hL : L ≤ 1536) (hB : B + 100 < 1000000000) (R : RLs B a u v) (hrec : ∀ a u v, RLs (B + 15) a u v → rec (nI (k + 3)) (u, v) = some ()) : fL_law_349 xs L rec (nI k) (u, v) = some () := by
  obtain ⟨r, a2, u2, v2, e1, e2, R2⟩ : SIM (B + 15) (fX7_horizon (xs (Int32.toNatClampNeg (nI k + (1 : Int32)))) (xs (Int32.toNatClampNeg (nI k + (2 : Int32)))) u) (fX8_horizon (xs (Int32.toNatClampNeg (nI k + (1 : Int32)))) (xs (Int32.toNatClampNeg (nI k + (2 : Int32)))) v) := (sim_up (s_horizon R (xs (Int32.toNatClampNeg (nI k + (1 : Int32)))) (xs (Int32.toNatClampNeg (nI k + (2 : Int32))))) (by omega) (by omega))
  rw [fL_law_349]
  dsimp only [bd]
  rw [if_neg (li_1 hk hL), if_neg (li_2 hk hL), e1, obp_some, if_neg (li_1 hk hL), if_neg (li_2 hk hL), e2, obp_some, if_pos rfl]
  exact lf_go hrec R2
theorem lc_382 (hk : k + 2 < L) (hL : L ≤ 1536) (hB : B + 100 < 1000000000) (R : RLs B a u v) (hrec : ∀ a u v, RLs (B + 15) a u v → rec (nI (k + 3)) (u, v) = some ()) : fL_law_382 xs L rec (nI k) (u, v) = some () := by
  obtain ⟨r, a2, u2, v2, e1, e2, R2⟩ : SIM (B + 15) (fX7_error (xs (Int32.toNatClampNeg (nI k + (1 : Int32)))) u) (fX8_error (xs (Int32.toNatClampNeg (nI k + (1 : Int32)))) v) := (sim_up (s_error R (xs (Int32.toNatClampNeg (nI k + (1 : Int32))))) (by omega) (by omega))
  rw [fL_law_382]
  dsimp only [bd]
  rw [if_neg (li_1 hk hL), e1, obp_some, if_neg (li_1 hk hL), e2, obp_some, if_pos rfl]
  exact lf_go hrec R2
theorem lc_405 (hk : k + 2 < L) (hL : L ≤ 1536) (hB : B + 100 < 1000000000) (R : RLs B a u v) (hrec : ∀ a u v, RLs (B + 15) a u v → rec (nI (k + 3)) (u, v) = some ()) : fL_law_405 xs L rec (nI k) (u, v) = some () := by
  obtain ⟨r, a2, u2, v2, e1, e2, R2⟩ : SIM (B + 15) (fX7_sight (xs (Int32.toNatClampNeg (nI k + (1 : Int32)))) u) (fX8_sight (xs (Int32.toNatClampNeg (nI k + (1 : Int32)))) v) := (sim_up (s_sight R (xs (Int32.toNatClampNeg (nI k + (1 : Int32))))) (by omega) (by omega))
  rw [fL_law_405]
  dsimp only [bd]
  rw [if_neg (li_1 hk hL), e1, obp_some, if_neg (li_1 hk hL), e2, obp_some, if_pos rfl]
  exact lf_go hrec R2
theorem lc_428 (hk : k + 2 < L) (hL : L ≤ 1536) (hB : B + 100 < 1000000000) (R : RLs B a u v) (hrec : ∀ a u v, RLs (B + 15) a u v → rec (nI (k + 3)) (u, v) = some ()) : fL_law_428 xs L rec (nI k) (u, v) = some () := by
  obtain ⟨r, a2, u2, v2, e1, e2, R2⟩ : SIM (B + 15) (fX7_hour u) (fX8_hour v) := (sim_up (s_hour R (by omega)) (by omega) (by omega))
  rw [fL_law_428]
  dsimp only [bd]
  rw [e1, obp_some, e2, obp_some, if_pos rfl]
  exact lf_go hrec R2
theorem lc_441 (hk : k + 2 < L) (hL : L ≤ 1536) (hB : B + 100 < 1000000000) (R : RLs B a u v) (hrec : ∀ a u v, RLs (B + 15) a u v → rec (nI (k + 3)) (u, v) = some ()) : fL_law_441 xs L rec (nI k) (u, v) = some () := by
  obtain ⟨r, a2, u2, v2, e1, e2, R2⟩ : SIM (B + 15) (fX7_sailorOf (xs (Int32.toNatClampNeg (nI k + (1 : Int32)))) (xs (Int32.toNatClampNeg (nI k + (2 : Int32)))) u) (fX8_sailorOf (xs (Int32.toNatClampNeg (nI k + (1 : Int32)))) (xs (Int32.toNatClampNeg (nI k + (2 : Int32)))) v) := (sim_up (qs_sim R (q_sailorOf R.1.1 R.1.2.1 R.1.2.2 (xs (Int32.toNatClampNeg (nI k + (1 : Int32)))) (xs (Int32.toNatClampNeg (nI k + (2 : Int32)))))) (by omega) (by omega))
  rw [fL_law_441]
  dsimp only [bd]
  rw [if_neg (li_1 hk hL), if_neg (li_2 hk hL), e1, obp_some, if_neg (li_1 hk hL), if_neg (li_2 hk hL), e2, obp_some, if_pos rfl]
  exact lf_go hrec R2
theorem lc_474 (hk : k + 2 < L) (hL : L ≤ 1536) (hB : B + 100 < 1000000000) (R : RLs B a u v) (hrec : ∀ a u v, RLs (B + 15) a u v → rec (nI (k + 3)) (u, v) = some ()) : fL_law_474 xs L rec (nI k) (u, v) = some () := by
  obtain ⟨r, a2, u2, v2, e1, e2, R2⟩ : SIM (B + 15) (fX7_watchOf (xs (Int32.toNatClampNeg (nI k + (1 : Int32)))) (xs (Int32.toNatClampNeg (nI k + (2 : Int32)))) u) (fX8_watchOf (xs (Int32.toNatClampNeg (nI k + (1 : Int32)))) (xs (Int32.toNatClampNeg (nI k + (2 : Int32)))) v) := (sim_up (qs_sim R (q_watchOf R.1.1 R.1.2.1 R.1.2.2 (xs (Int32.toNatClampNeg (nI k + (1 : Int32)))) (xs (Int32.toNatClampNeg (nI k + (2 : Int32)))))) (by omega) (by omega))
  rw [fL_law_474]
  dsimp only [bd]
  rw [if_neg (li_1 hk hL), if_neg (li_2 hk hL), e1, obp_some, if_neg (li_1 hk hL), if_neg (li_2 hk hL), e2, obp_some, if_pos rfl]
  exact lf_go hrec R2
theorem lc_507 (hk : k + 2 < L) (hL : L ≤ 1536) (hB : B + 100 < 1000000000) (R : RLs B a u v) (hrec : ∀ a u v, RLs (B + 15) a u v → rec (nI (k + 3)) (u, v) = some ()) : fL_law_507 xs L rec (nI k) (u, v) = some () := by
  obtain ⟨r, a2, u2, v2, e1, e2, R2⟩ : SIM (B + 15) (fX7_sightOf (xs (Int32.toNatClampNeg (nI k + (1 : Int32)))) (xs (Int32.toNatClampNeg (nI k + (2 : Int32)))) u) (fX8_sightOf (xs (Int32.toNatClampNeg (nI k + (1 : Int32)))) (xs (Int32.toNatClampNeg (nI k + (2 : Int32)))) v) := (sim_up (qs_sim R (q_sightOf R.1.1 R.1.2.1 R.1.2.2 (xs (Int32.toNatClampNeg (nI k + (1 : Int32)))) (xs (Int32.toNatClampNeg (nI k + (2 : Int32)))))) (by omega) (by omega))
  rw [fL_law_507]
  dsimp only [bd]
  rw [if_neg (li_1 hk hL), if_neg (li_2 hk hL), e1, obp_some, if_neg (li_1 hk hL), if_neg (li_2 hk hL), e2, obp_some, if_pos rfl]
  exact lf_go hrec R2
theorem lc_540 (hk : k + 2 < L) (hL : L ≤ 1536) (hB : B + 100 < 1000000000) (R : RLs B a u v) (hrec : ∀ a u v, RLs (B + 15) a u v → rec (nI (k + 3)) (u, v) = some ()) : fL_law_540 xs L rec (nI k) (u, v) = some () := by
  obtain ⟨r, e1, e2, ho⟩ := q_angle R.1.1 R.1.2.1 R.1.2.2 (xs (Int32.toNatClampNeg (nI k + (1 : Int32))))
  unfold okD at ho
  rw [fL_law_540]
  dsimp only [bd]
  rw [if_neg (li_1 hk hL), e1, obp_some, if_pos ho, if_neg (li_1 hk hL), e2, obp_some, if_pos ho, dn_same]
  exact lf_go hrec (rl_up R (by omega) (by omega))
theorem lc_593 (hk : k + 2 < L) (hL : L ≤ 1536) (hB : B + 100 < 1000000000) (R : RLs B a u v) (hrec : ∀ a u v, RLs (B + 15) a u v → rec (nI (k + 3)) (u, v) = some ()) : fL_law_593 xs L rec (nI k) (u, v) = some () := by
  obtain ⟨r, a2, u2, v2, e1, e2, R2⟩ : SIM (B + 15) (fX7_readBits (xs (Int32.toNatClampNeg (nI k + (1 : Int32)))) u) (fX8_readBits (xs (Int32.toNatClampNeg (nI k + (1 : Int32)))) v) := (sim_up (qs_sim R (q_readBits R.1.1 R.1.2.1 R.1.2.2 (xs (Int32.toNatClampNeg (nI k + (1 : Int32)))))) (by omega) (by omega))
  rw [fL_law_593]
  dsimp only [bd]
  rw [if_neg (li_1 hk hL), e1, obp_some, if_neg (li_1 hk hL), e2, obp_some, if_pos rfl]
  exact lf_go hrec R2
theorem lc_616 (hk : k + 2 < L) (hL : L ≤ 1536) (hB : B + 100 < 1000000000) (R : RLs B a u v) (hrec : ∀ a u v, RLs (B + 15) a u v → rec (nI (k + 3)) (u, v) = some ()) : fL_law_616 xs L rec (nI k) (u, v) = some () := by
  obtain ⟨r, a2, u2, v2, e1, e2, R2⟩ : SIM (B + 15) (fX7_fixBits (xs (Int32.toNatClampNeg (nI k + (1 : Int32)))) u) (fX8_fixBits (xs (Int32.toNatClampNeg (nI k + (1 : Int32)))) v) := (sim_up (qs_sim R (q_fixBits R.1.1 R.1.2.1 R.1.2.2 (xs (Int32.toNatClampNeg (nI k + (1 : Int32)))))) (by omega) (by omega))
  rw [fL_law_616]
  dsimp only [bd]
  rw [if_neg (li_1 hk hL), e1, obp_some, if_neg (li_1 hk hL), e2, obp_some, if_pos rfl]
  exact lf_go hrec R2
theorem lc_639 (hk : k + 2 < L) (hL : L ≤ 1536) (hB : B + 100 < 1000000000) (R : RLs B a u v) (hrec : ∀ a u v, RLs (B + 15) a u v → rec (nI (k + 3)) (u, v) = some ()) : fL_law_639 xs L rec (nI k) (u, v) = some () := by
  obtain ⟨r, a2, u2, v2, e1, e2, R2⟩ : SIM (B + 15) (fX7_fixAgain (xs (Int32.toNatClampNeg (nI k + (1 : Int32)))) u) (fX8_fixAgain (xs (Int32.toNatClampNeg (nI k + (1 : Int32)))) v) := (sim_up (qs_sim R (q_fixAgain R.1.1 R.1.2.1 R.1.2.2 (xs (Int32.toNatClampNeg (nI k + (1 : Int32)))))) (by omega) (by omega))
  rw [fL_law_639]
  dsimp only [bd]
  rw [if_neg (li_1 hk hL), e1, obp_some, if_neg (li_1 hk hL), e2, obp_some, if_pos rfl]
  exact lf_go hrec R2
theorem lc_662 (hk : k + 2 < L) (hL : L ≤ 1536) (hB : B + 100 < 1000000000) (R : RLs B a u v) (hrec : ∀ a u v, RLs (B + 15) a u v → rec (nI (k + 3)) (u, v) = some ()) : fL_law_662 xs L rec (nI k) (u, v) = some () := by
  obtain ⟨r, a2, u2, v2, e1, e2, R2⟩ : SIM (B + 15) (fX7_meet (xs (Int32.toNatClampNeg (nI k + (1 : Int32)))) (xs (Int32.toNatClampNeg (nI k + (2 : Int32)))) u) (fX8_meet (xs (Int32.toNatClampNeg (nI k + (1 : Int32)))) (xs (Int32.toNatClampNeg (nI k + (2 : Int32)))) v) := (sim_up (qs_sim R (q_meet R.1.1 R.1.2.1 R.1.2.2 (xs (Int32.toNatClampNeg (nI k + (1 : Int32)))) (xs (Int32.toNatClampNeg (nI k + (2 : Int32)))))) (by omega) (by omega))
  rw [fL_law_662]
  dsimp only [bd]
  rw [if_neg (li_1 hk hL), if_neg (li_2 hk hL), e1, obp_some, if_neg (li_1 hk hL), if_neg (li_2 hk hL), e2, obp_some, if_pos rfl]
  exact lf_go hrec R2
theorem lc_695 (hk : k + 2 < L) (hL : L ≤ 1536) (hB : B + 100 < 1000000000) (R : RLs B a u v) (hrec : ∀ a u v, RLs (B + 15) a u v → rec (nI (k + 3)) (u, v) = some ()) : fL_law_695 xs L rec (nI k) (u, v) = some () := by
  obtain ⟨r, a2, u2, v2, e1, e2, R2⟩ : SIM (B + 15) (fX7_unlike (xs (Int32.toNatClampNeg (nI k + (1 : Int32)))) (xs (Int32.toNatClampNeg (nI k + (2 : Int32)))) u) (fX8_unlike (xs (Int32.toNatClampNeg (nI k + (1 : Int32)))) (xs (Int32.toNatClampNeg (nI k + (2 : Int32)))) v) := (sim_up (qs_sim R (q_unlike R.1.1 R.1.2.1 R.1.2.2 (xs (Int32.toNatClampNeg (nI k + (1 : Int32)))) (xs (Int32.toNatClampNeg (nI k + (2 : Int32)))))) (by omega) (by omega))
  rw [fL_law_695]
  dsimp only [bd]
  rw [if_neg (li_1 hk hL), if_neg (li_2 hk hL), e1, obp_some, if_neg (li_1 hk hL), if_neg (li_2 hk hL), e2, obp_some, if_pos rfl]
  exact lf_go hrec R2
theorem lc_728 (hk : k + 2 < L) (hL : L ≤ 1536) (hB : B + 100 < 1000000000) (R : RLs B a u v) (hrec : ∀ a u v, RLs (B + 15) a u v → rec (nI (k + 3)) (u, v) = some ()) : fL_law_728 xs L rec (nI k) (u, v) = some () := by
  obtain ⟨r, a2, u2, v2, e1, e2, R2⟩ : SIM (B + 15) (fX7_unlikeAgain (xs (Int32.toNatClampNeg (nI k + (1 : Int32)))) (xs (Int32.toNatClampNeg (nI k + (2 : Int32)))) u) (fX8_unlikeAgain (xs (Int32.toNatClampNeg (nI k + (1 : Int32)))) (xs (Int32.toNatClampNeg (nI k + (2 : Int32)))) v) := (sim_up (qs_sim R (q_unlikeAgain R.1.1 R.1.2.1 R.1.2.2 (xs (Int32.toNatClampNeg (nI k + (1 : Int32)))) (xs (Int32.toNatClampNeg (nI k + (2 : Int32)))))) (by omega) (by omega))
  rw [fL_law_728]
  dsimp only [bd]
  rw [if_neg (li_1 hk hL), if_neg (li_2 hk hL), e1, obp_some, if_neg (li_1 hk hL), if_neg (li_2 hk hL), e2, obp_some, if_pos rfl]
  exact lf_go hrec R2
theorem lc_761 (hk : k + 2 < L) (hL : L ≤ 1536) (hB : B + 100 < 1000000000) (R : RLs B a u v) (hrec : ∀ a u v, RLs (B + 15) a u v → rec (nI (k + 3)) (u, v) = some ()) : fL_law_761 xs L rec (nI k) (u, v) = some () := by
  obtain ⟨r, a2, u2, v2, e1, e2, R2⟩ : SIM (B + 15) (fX7_closest (xs (Int32.toNatClampNeg (nI k + (1 : Int32)))) (xs (Int32.toNatClampNeg (nI k + (2 : Int32)))) u) (fX8_closest (xs (Int32.toNatClampNeg (nI k + (1 : Int32)))) (xs (Int32.toNatClampNeg (nI k + (2 : Int32)))) v) := (sim_up (qs_sim R (q_closest R.1.1 R.1.2.1 R.1.2.2 (xs (Int32.toNatClampNeg (nI k + (1 : Int32)))) (xs (Int32.toNatClampNeg (nI k + (2 : Int32)))))) (by omega) (by omega))
  rw [fL_law_761]
  dsimp only [bd]
  rw [if_neg (li_1 hk hL), if_neg (li_2 hk hL), e1, obp_some, if_neg (li_1 hk hL), if_neg (li_2 hk hL), e2, obp_some, if_pos rfl]
  exact lf_go hrec R2
theorem lc_794 (hk : k + 2 < L) (hL : L ≤ 1536) (hB : B + 100 < 1000000000) (R : RLs B a u v) (hrec : ∀ a u v, RLs (B + 15) a u v → rec (nI (k + 3)) (u, v) = some ()) : fL_law_794 xs L rec (nI k) (u, v) = some () := by
  obtain ⟨r, a2, u2, v2, e1, e2, R2⟩ : SIM (B + 15) (fX7_would (xs (Int32.toNatClampNeg (nI k + (1 : Int32)))) (xs (Int32.toNatClampNeg (nI k + (2 : Int32)))) u) (fX8_would (xs (Int32.toNatClampNeg (nI k + (1 : Int32)))) (xs (Int32.toNatClampNeg (nI k + (2 : Int32)))) v) := (sim_up (s_would R (by omega) (xs (Int32.toNatClampNeg (nI k + (1 : Int32)))) (xs (Int32.toNatClampNeg (nI k + (2 : Int32))))) (by omega) (by omega))
  rw [fL_law_794]
  dsimp only [bd]
  rw [if_neg (li_1 hk hL), if_neg (li_2 hk hL), e1, obp_some, if_neg (li_1 hk hL), if_neg (li_2 hk hL), e2, obp_some, if_pos rfl]
  exact lf_go hrec R2
theorem lc_827 (hk : k + 2 < L) (hL : L ≤ 1536) (hB : B + 100 < 1000000000) (R : RLs B a u v) (hrec : ∀ a u v, RLs (B + 15) a u v → rec (nI (k + 3)) (u, v) = some ()) : fL_law_827 xs L rec (nI k) (u, v) = some () := by
  obtain ⟨r, a2, u2, v2, e1, e2, R2⟩ : SIM (B + 15) (fX7_sinks (xs (Int32.toNatClampNeg (nI k + (1 : Int32)))) u) (fX8_sinks (xs (Int32.toNatClampNeg (nI k + (1 : Int32)))) v) := (sim_up (s_sinks R (by omega) (xs (Int32.toNatClampNeg (nI k + (1 : Int32))))) (by omega) (by omega))
  rw [fL_law_827]
  dsimp only [bd]
  rw [if_neg (li_1 hk hL), e1, obp_some, if_neg (li_1 hk hL), e2, obp_some, if_pos rfl]
  exact lf_go hrec R2
theorem lc_850 (hk : k + 2 < L) (hL : L ≤ 1536) (hB : B + 100 < 1000000000) (R : RLs B a u v) (hrec : ∀ a u v, RLs (B + 15) a u v → rec (nI (k + 3)) (u, v) = some ()) : fL_law_850 xs L rec (nI k) (u, v) = some () := by
  obtain ⟨r, a2, u2, v2, e1, e2, R2⟩ : SIM (B + 15) (fX7_messes u) (fX8_messes v) := (sim_up (qs_sim R (q_messes R.1.1 R.1.2.1 R.1.2.2)) (by omega) (by omega))
  rw [fL_law_850]
  dsimp only [bd]
  rw [e1, obp_some, e2, obp_some, if_pos rfl]
  exact lf_go hrec R2
theorem lc_863 (hk : k + 2 < L) (hL : L ≤ 1536) (hB : B + 100 < 1000000000) (R : RLs B a u v) (hrec : ∀ a u v, RLs (B + 15) a u v → rec (nI (k + 3)) (u, v) = some ()) : fL_law_863 xs L rec (nI k) (u, v) = some () := by
  obtain ⟨r, a2, u2, v2, e1, e2, R2⟩ : SIM (B + 15) (fX7_highest (xs (Int32.toNatClampNeg (nI k + (1 : Int32)))) u) (fX8_highest (xs (Int32.toNatClampNeg (nI k + (1 : Int32)))) v) := (sim_up (qs_sim R (q_highest R.1.1 R.1.2.1 R.1.2.2 (xs (Int32.toNatClampNeg (nI k + (1 : Int32)))))) (by omega) (by omega))
  rw [fL_law_863]
  dsimp only [bd]
  rw [if_neg (li_1 hk hL), e1, obp_some, if_neg (li_1 hk hL), e2, obp_some, if_pos rfl]
  exact lf_go hrec R2
theorem lc_886 (hk : k + 2 < L) (hL : L ≤ 1536) (hB : B + 100 < 1000000000) (R : RLs B a u v) (hrec : ∀ a u v, RLs (B + 15) a u v → rec (nI (k + 3)) (u, v) = some ()) : fL_law_886 xs L rec (nI k) (u, v) = some () := by
  obtain ⟨r, a2, u2, v2, e1, e2, R2⟩ : SIM (B + 15) (fX7_ranked (xs (Int32.toNatClampNeg (nI k + (1 : Int32)))) u) (fX8_ranked (xs (Int32.toNatClampNeg (nI k + (1 : Int32)))) v) := (sim_up (qs_sim R (q_ranked R.1.1 R.1.2.1 R.1.2.2 (xs (Int32.toNatClampNeg (nI k + (1 : Int32)))))) (by omega) (by omega))
  rw [fL_law_886]
  dsimp only [bd]
  rw [if_neg (li_1 hk hL), e1, obp_some, if_neg (li_1 hk hL), e2, obp_some, if_pos rfl]
  exact lf_go hrec R2
theorem lc_909 (hk : k + 2 < L) (hL : L ≤ 1536) (hB : B + 100 < 1000000000) (R : RLs B a u v) (hrec : ∀ a u v, RLs (B + 15) a u v → rec (nI (k + 3)) (u, v) = some ()) : fL_law_909 xs L rec (nI k) (u, v) = some () := by
  obtain ⟨r, a2, u2, v2, e1, e2, R2⟩ : SIM (B + 15) (fX7_packed u) (fX8_packed v) := (sim_up (qs_sim R (q_packed R.1.1 R.1.2.1 R.1.2.2)) (by omega) (by omega))
  rw [fL_law_909]
  dsimp only [bd]
  rw [e1, obp_some, e2, obp_some, if_pos (lg_same r)]
  exact lf_go hrec R2
theorem lc_923 (hk : k + 2 < L) (hL : L ≤ 1536) (hB : B + 100 < 1000000000) (R : RLs B a u v) (hrec : ∀ a u v, RLs (B + 15) a u v → rec (nI (k + 3)) (u, v) = some ()) : fL_law_923 xs L rec (nI k) (u, v) = some () := by
  obtain ⟨r, a2, u2, v2, e1, e2, R2⟩ : SIM (B + 15) (fX7_isCounted u) (fX8_isCounted v) := (sim_up (qs_sim R (q_isCounted R.1.1 R.1.2.1 R.1.2.2)) (by omega) (by omega))
  rw [fL_law_923]
  dsimp only [bd]
  rw [e1, obp_some, e2, obp_some, if_pos rfl]
  exact lf_go hrec R2
theorem lc_936 (hk : k + 2 < L) (hL : L ≤ 1536) (hB : B + 100 < 1000000000) (R : RLs B a u v) (hrec : ∀ a u v, RLs (B + 15) a u v → rec (nI (k + 3)) (u, v) = some ()) : fL_law_936 xs L rec (nI k) (u, v) = some () := by
  obtain ⟨r, a2, u2, v2, e1, e2, R2⟩ : SIM (B + 15) (fX7_meanAngle u) (fX8_meanAngle v) := (sim_up (qs_sim R (q_meanAngle R.1.1 R.1.2.1 R.1.2.2)) (by omega) (by omega))
  rw [fL_law_936]
  dsimp only [bd]
  rw [e1, obp_some, e2, obp_some, dn_same]
  exact lf_go hrec R2
theorem rl_text (R : RLs B a u v) : u.2.2.2.2.2.1.1 0 1 = v 0 18 := by
  obtain ⟨_, _, _, _, ⟨n, _, h1, h2, _⟩, _⟩ := R
  rw [h1, h2]
theorem rl_hist (R : RLs B a u v) : u.2.1.2.1 2 = v 0 1 := by
  obtain ⟨_, ⟨n, hs, h1, h2⟩, _⟩ := R
  rw [h1.2.1, h2.1]
theorem lc_977 (hk : k + 2 < L) (hL : L ≤ 1536) (hB : B + 100 < 1000000000) (R : RLs B a u v) (hrec : ∀ a u v, RLs (B + 15) a u v → rec (nI (k + 3)) (u, v) = some ()) : fL_law_977 xs L rec (nI k) (u, v) = some () := by
  obtain ⟨r, a2, u2, v2, e1, e2, R2⟩ : SIM (B + 15) (fX7_account (xs (Int32.toNatClampNeg (nI k + (1 : Int32)))) u) (fX8_account (xs (Int32.toNatClampNeg (nI k + (1 : Int32)))) v) := (sim_up (qs_sim R (q_account R.1.1 R.1.2.1 R.1.2.2 (rl_text R) (rl_hist R) (xs (Int32.toNatClampNeg (nI k + (1 : Int32)))))) (by omega) (by omega))
  rw [fL_law_977]
  dsimp only [bd]
  rw [if_neg (li_1 hk hL), e1, obp_some, if_neg (li_1 hk hL), e2, obp_some, if_pos rfl]
  exact lf_go hrec R2
theorem lc_1000 (hk : k + 2 < L) (hL : L ≤ 1536) (hB : B + 100 < 1000000000) (R : RLs B a u v) (hrec : ∀ a u v, RLs (B + 15) a u v → rec (nI (k + 3)) (u, v) = some ()) : fL_law_1000 xs L rec (nI k) (u, v) = some () := by
  obtain ⟨r, a2, u2, v2, e1, e2, R2⟩ : SIM (B + 15) (fX7_write (xs (Int32.toNatClampNeg (nI k + (1 : Int32)))) u) (fX8_write (xs (Int32.toNatClampNeg (nI k + (1 : Int32)))) v) := (sim_up (s_write R (xs (Int32.toNatClampNeg (nI k + (1 : Int32))))) (by omega) (by omega))
  rw [fL_law_1000]
  dsimp only [bd]
  rw [if_neg (li_1 hk hL), e1, obp_some, if_neg (li_1 hk hL), e2, obp_some, if_pos rfl]
  exact lf_go hrec R2
theorem lc_1023 (hk : k + 2 < L) (hL : L ≤ 1536) (hB : B + 100 < 1000000000) (R : RLs B a u v) (hrec : ∀ a u v, RLs (B + 15) a u v → rec (nI (k + 3)) (u, v) = some ()) : fL_law_1023 xs L rec (nI k) (u, v) = some () := by
  obtain ⟨r, a2, u2, v2, e1, e2, R2⟩ : SIM (B + 15) (fX7_writeLog u) (fX8_writeLog v) := (sim_up (s_writeLog R) (by omega) (by omega))
  rw [fL_law_1023]
  dsimp only [bd]
  rw [e1, obp_some, e2, obp_some, if_pos rfl]
  exact lf_go hrec R2
theorem lc_1036 (hk : k + 2 < L) (hL : L ≤ 1536) (hB : B + 100 < 1000000000) (R : RLs B a u v) (hrec : ∀ a u v, RLs (B + 15) a u v → rec (nI (k + 3)) (u, v) = some ()) : fL_law_1036 xs L rec (nI k) (u, v) = some () := by
  obtain ⟨r, a2, u2, v2, e1, e2, R2⟩ : SIM (B + 15) (fX7_written (xs (Int32.toNatClampNeg (nI k + (1 : Int32)))) u) (fX8_written (xs (Int32.toNatClampNeg (nI k + (1 : Int32)))) v) := (sim_up (qs_sim R (q_written R (xs (Int32.toNatClampNeg (nI k + (1 : Int32)))))) (by omega) (by omega))
  rw [fL_law_1036]
  dsimp only [bd]
  rw [if_neg (li_1 hk hL), e1, obp_some, if_neg (li_1 hk hL), e2, obp_some, if_pos rfl]
  exact lf_go hrec R2
theorem lc_1059 (hk : k + 2 < L) (hL : L ≤ 1536) (hB : B + 100 < 1000000000) (R : RLs B a u v) (hrec : ∀ a u v, RLs (B + 15) a u v → rec (nI (k + 3)) (u, v) = some ()) : fL_law_1059 xs L rec (nI k) (u, v) = some () := by
  obtain ⟨r, a2, u2, v2, e1, e2, R2⟩ : SIM (B + 15) (fX7_append ((Int32.toUInt32 (xs (Int32.toNatClampNeg (nI k + (1 : Int32)))) % 65536).toInt32) u) (fX8_append ((Int32.toUInt32 (xs (Int32.toNatClampNeg (nI k + (1 : Int32)))) % 65536).toInt32) v) := (sim_up (s_append R ((Int32.toUInt32 (xs (Int32.toNatClampNeg (nI k + (1 : Int32)))) % 65536).toInt32)) (by omega) (by omega))
  rw [fL_law_1059]
  dsimp only [bd]
  rw [if_neg (li_1 hk hL), e1, obp_some, if_neg (li_1 hk hL), e2, obp_some, if_pos rfl]
  exact lf_go hrec R2
theorem lc_1084 (hk : k + 2 < L) (hL : L ≤ 1536) (hB : B + 100 < 1000000000) (R : RLs B a u v) (hrec : ∀ a u v, RLs (B + 15) a u v → rec (nI (k + 3)) (u, v) = some ()) : fL_law_1084 xs L rec (nI k) (u, v) = some () := by
  obtain ⟨r, a2, u2, v2, e1, e2, R2⟩ : SIM (B + 15) (fX7_read u) (fX8_read v) := (sim_up (s_read R (by omega)) (by omega) (by omega))
  rw [fL_law_1084]
  dsimp only [bd]
  rw [e1, obp_some, e2, obp_some, if_pos rfl]
  exact lf_go hrec R2
theorem lc_1097 (hk : k + 2 < L) (hL : L ≤ 1536) (hB : B + 100 < 1000000000) (R : RLs B a u v) (hrec : ∀ a u v, RLs (B + 15) a u v → rec (nI (k + 3)) (u, v) = some ()) : fL_law_1097 xs L rec (nI k) (u, v) = some () := by
  obtain ⟨r, a2, u2, v2, e1, e2, R2⟩ : SIM (B + 15) (fX7_fault u) (fX8_fault v) := (sim_up (qs_sim R (q_fault R)) (by omega) (by omega))
  rw [fL_law_1097]
  dsimp only [bd]
  rw [e1, obp_some, e2, obp_some, if_pos rfl]
  exact lf_go hrec R2
theorem lc_1129_0 (hk : k + 2 < L) (hL : L ≤ 1536) (hB : B + 100 < 1000000000) (R : RLs B a u v) (hrec : ∀ a u v, RLs (B + 15) a u v → rec (nI (k + 3)) (u, v) = some ()) (h0 :  (xs (Int32.toNatClampNeg (nI k + (2 : Int32))) = 0)) : fL_law_1129 xs L rec (nI k) (0 : Int32) (xs (Int32.toNatClampNeg (nI k + (1 : Int32)))) (u, v) = some () := by
  obtain ⟨r, a2, u2, v2, e1, e2, R2⟩ : SIM (B + 15) (fX7_reason (xs (Int32.toNatClampNeg (nI k + (1 : Int32)))) (0 : Int32) u) (fX8_reason (xs (Int32.toNatClampNeg (nI k + (1 : Int32)))) (0 : Int32) v) := (sim_up (qs_sim R (q_reason R (xs (Int32.toNatClampNeg (nI k + (1 : Int32)))) (0 : Int32))) (by omega) (by omega))
  rw [fL_law_1129]
  dsimp only [bd]
  rw [e1, obp_some, if_neg (li_1 hk hL), if_neg (li_2 hk hL), if_pos h0, e2, obp_some, if_pos rfl]
  exact lf_go hrec R2
theorem lc_1129_1 (hk : k + 2 < L) (hL : L ≤ 1536) (hB : B + 100 < 1000000000) (R : RLs B a u v) (hrec : ∀ a u v, RLs (B + 15) a u v → rec (nI (k + 3)) (u, v) = some ()) (h0 : ¬ (xs (Int32.toNatClampNeg (nI k + (2 : Int32))) = 0)) : fL_law_1129 xs L rec (nI k) (1 : Int32) (xs (Int32.toNatClampNeg (nI k + (1 : Int32)))) (u, v) = some () := by
  obtain ⟨r, a2, u2, v2, e1, e2, R2⟩ : SIM (B + 15) (fX7_reason (xs (Int32.toNatClampNeg (nI k + (1 : Int32)))) (1 : Int32) u) (fX8_reason (xs (Int32.toNatClampNeg (nI k + (1 : Int32)))) (1 : Int32) v) := (sim_up (qs_sim R (q_reason R (xs (Int32.toNatClampNeg (nI k + (1 : Int32)))) (1 : Int32))) (by omega) (by omega))
  rw [fL_law_1129]
  dsimp only [bd]
  rw [e1, obp_some, if_neg (li_1 hk hL), if_neg (li_2 hk hL), if_neg h0, e2, obp_some, if_pos rfl]
  exact lf_go hrec R2
theorem lc_1110 (hk : k + 2 < L) (hL : L ≤ 1536) (hB : B + 100 < 1000000000) (R : RLs B a u v) (hrec : ∀ a u v, RLs (B + 15) a u v → rec (nI (k + 3)) (u, v) = some ()) : fL_law_1110 xs L rec (nI k) (u, v) = some () := by
  rw [fL_law_1110, if_neg (li_1 hk hL), if_neg (li_2 hk hL)]
  by_cases h0 : xs (Int32.toNatClampNeg (nI k + (2 : Int32))) = 0
  · rw [if_pos h0]
    exact lc_1129_0 hk hL hB R hrec h0
  · rw [if_neg h0]
    exact lc_1129_1 hk hL hB R hrec h0
theorem lc_1159 (hk : k + 2 < L) (hL : L ≤ 1536) (hB : B + 100 < 1000000000) (R : RLs B a u v) (hrec : ∀ a u v, RLs (B + 15) a u v → rec (nI (k + 3)) (u, v) = some ()) : fL_law_1159 xs L rec (nI k) (u, v) = some () := by
  obtain ⟨r, a2, u2, v2, e1, e2, R2⟩ : SIM (B + 15) (fX7_undo u) (fX8_undo v) := (sim_up (s_undo R) (by omega) (by omega))
  rw [fL_law_1159]
  dsimp only [bd]
  rw [e1, obp_some, e2, obp_some, if_pos rfl]
  exact lf_go hrec R2
theorem lc_1172 (hk : k + 2 < L) (hL : L ≤ 1536) (hB : B + 100 < 1000000000) (R : RLs B a u v) (hrec : ∀ a u v, RLs (B + 15) a u v → rec (nI (k + 3)) (u, v) = some ()) : fL_law_1172 xs L rec (nI k) (u, v) = some () := by
  obtain ⟨r, a2, u2, v2, e1, e2, R2⟩ : SIM (B + 15) (fX7_save u) (fX8_save v) := (sim_up (s_save R) (by omega) (by omega))
  rw [fL_law_1172]
  dsimp only [bd]
  rw [e1, obp_some, e2, obp_some, if_pos rfl]
  exact lf_go hrec R2
theorem lc_1185 (hk : k + 2 < L) (hL : L ≤ 1536) (hB : B + 100 < 1000000000) (R : RLs B a u v) (hrec : ∀ a u v, RLs (B + 15) a u v → rec (nI (k + 3)) (u, v) = some ()) : fL_law_1185 xs L rec (nI k) (u, v) = some () := by
  obtain ⟨r, a2, u2, v2, e1, e2, R2⟩ : SIM (B + 15) (fX7_restore u) (fX8_restore v) := (sim_up (s_restore R) (by omega) (by omega))
  rw [fL_law_1185]
  dsimp only [bd]
  rw [e1, obp_some, e2, obp_some, if_pos rfl]
  exact lf_go hrec R2
end
