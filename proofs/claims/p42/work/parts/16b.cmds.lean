/-! THE CLASS'S COMMANDS, by the state that it holds -/
theorem sumN_upd {N s : Nat} {f g : Nat → Nat} (hs : s < N) (h : ∀ i, i < N → i ≠ s → g i = f i) : sumN N g + f s = sumN N f + g s := by
  induction N with
  | zero => omega
  | succ N ih =>
    show sumN N g + g N + f s = sumN N f + f N + g s
    by_cases e : s = N
    · subst e
      have : sumN s g = sumN s f := sumN_congr (fun i hi => h i (by omega) (by omega))
      omega
    · have h1 := ih (by omega) (fun i hi hn => h i (by omega) hn)
      have h2 := h N (by omega) (by omega)
      omega
theorem sumN_del {N s : Nat} {f : Nat → Nat} (hs : s ≤ N) : sumN N (fun k => if k < s then f k else f (k + 1)) + f s = sumN (N + 1) f := by
  induction N with
  | zero =>
    have : s = 0 := by omega
    subst this
    rfl
  | succ N ih =>
    show sumN N (fun k => if k < s then f k else f (k + 1)) + (if N < s then f N else f (N + 1)) + f s = sumN (N + 1) f + f (N + 1)
    by_cases e : s = N + 1
    · subst e
      rw [if_pos (by omega)]
      have h1 : sumN N (fun k => if k < N + 1 then f k else f (k + 1)) = sumN N f := sumN_congr (fun i hi => if_pos (by omega))
      rw [h1]
      rfl
    · have h1 := ih (by omega)
      rw [if_neg (by omega)]
      omega
theorem sumN_one {N : Nat} {f : Nat → Nat} : sumN N (fun i => f i - 1) + sumN N (fun i => if 0 < f i then 1 else 0) = sumN N f := by
  induction N with
  | zero => rfl
  | succ N ih =>
    show sumN N (fun i => f i - 1) + (f N - 1) + (sumN N (fun i => if 0 < f i then 1 else 0) + (if 0 < f N then 1 else 0)) = sumN N f + f N
    split <;> omega
/-- the cups are accounted for; the numbers that only grow -/
def CI (B : Nat) (a : mA) : Prop := a 0 5 = sumN (a 0 0) (a 2) + a 0 6 + a 0 7 ∧ a 0 3 ≤ a 0 4 ∧ a 0 4 ≤ B ∧ a 0 5 ≤ 9 * B
theorem ci_up {B B' : Nat} {a : mA} (c : CI B a) (h : B ≤ B') : CI B' a := ⟨c.1, c.2.1, by have := c.2.2.1; omega, by have := c.2.2.2; omega⟩
theorem ci_setM {B : Nat} {a : mA} (c : CI B a) (s m : Nat) : CI B (mu a 1 s m) := c
theorem ci_setW {B : Nat} {a : mA} (c : CI B a) (s m : Nat) : CI B (mu a 3 s m) := c
theorem ci_setZ {B : Nat} {a : mA} (c : CI B a) (s m : Nat) : CI B (mu a 4 s m) := c
theorem ci_setE {B : Nat} {a : mA} (c : CI B a) (m : Nat) : CI B (mu a 0 2 m) := c
theorem ci_drk {B : Nat} {a : mA} (c : CI B a) {s m : Nat} (hs : s < a 0 0) (hm : m ≤ 9) : CI (B + 1) (drkM a s m) := by
  have h := sumN_upd (N := a 0 0) (s := s) (f := a 2) (g := drkM a s m 2) hs (fun i hi hn => if_neg hn)
  have e1 : drkM a s m 2 s = a 2 s + m := if_pos rfl
  rw [e1] at h
  obtain ⟨c1, c2, c3, c4⟩ := c
  refine ⟨?_, c2, ?_, ?_⟩
  · show a 0 5 + m = sumN (a 0 0) (drkM a s m 2) + a 0 6 + a 0 7
    omega
  · show a 0 4 ≤ B + 1
    omega
  · show a 0 5 + m ≤ 9 * (B + 1)
    omega
theorem ci_com {B : Nat} {a : mA} (c : CI B a) (m : Nat) : CI B (comM a m) := by
  have h : sumN (a 0 0) (comM a m 2) = sumN (a 0 0) (a 2) := sumN_congr (fun i hi => if_neg (by omega))
  have e1 : comM a m 2 (a 0 0) = 0 := if_pos rfl
  obtain ⟨c1, c2, c3, c4⟩ := c
  refine ⟨?_, c2, c3, c4⟩
  show a 0 5 = sumN (a 0 0) (comM a m 2) + comM a m 2 (a 0 0) + a 0 6 + a 0 7
  omega
theorem ci_go {B : Nat} {a : mA} (c : CI B a) {s : Nat} (hs : s < a 0 0) : CI B (goM a s) := by
  have h := sumN_del (N := a 0 0 - 1) (s := s) (f := a 2) (by omega)
  rw [show a 0 0 - 1 + 1 = a 0 0 by omega] at h
  have hl := goL_len a s
  obtain ⟨c1, c2, c3, c4⟩ := c
  refine ⟨?_, ?_, c3, c4⟩
  · show a 0 5 = sumN (a 0 0 - 1) (fun k => if k < s then a 2 k else a 2 (k + 1)) + a 0 6 + (a 0 7 + a 2 s)
    omega
  · show (goL a s).length ≤ a 0 4
    omega
theorem ci_tak {B : Nat} {a : mA} (c : CI B a) (s : Nat) : CI (B + 1) (takM a s) := by
  obtain ⟨c1, c2, c3, c4⟩ := c
  refine ⟨c1, ?_, ?_, ?_⟩
  · show takL a ≤ a 0 4 + 1
    unfold takL
    split <;> omega
  · show a 0 4 + 1 ≤ B + 1
    omega
  · show a 0 5 ≤ 9 * (B + 1)
    omega
theorem ci_pass {B : Nat} {a : mA} (c : CI B a) : CI B (passM a) := by
  have h := sumN_one (N := a 0 0) (f := a 2)
  have h1 : sumN (a 0 0) (passM a 2) = sumN (a 0 0) (fun i => a 2 i - 1) := sumN_congr (fun i hi => if_pos hi)
  obtain ⟨c1, c2, c3, c4⟩ := c
  refine ⟨?_, c2, c3, c4⟩
  show a 0 5 = sumN (a 0 0) (passM a 2) + (a 0 6 + sumN (a 0 0) (fun i => if 0 < a 2 i then 1 else 0)) + a 0 7
  omega
/-- a command, as the class carries it out -/
def OX (B : Nat) (a : mA) (f : Nat) (y x : Int32) (g : vZ → Option (Int32 × vZ)) : Oc → Prop
  | .inl k => (k = -100001 ∨ k = -100002) ∧ (∀ u : vZ, RX a u.2.1.1 → g u = some (k, u))
  | .inr (.inl (w, d)) => ∀ u : vZ, RX a u.2.1.1 → g u = some (-100005, zKeep u w d)
  | .inr (.inr (r, a')) => WF (B + 1) a' ∧ (CI B a → CI (B + 1) a') ∧ ¬ r ≤ -100001 ∧ (∀ u : vH, RX a u → ∃ u', fX5_carryOut f y x u = some u' ∧ RX a' u') ∧ (∀ u : vZ, RX a u.2.1.1 → ∀ u', fX7_change f y x u = some u' → RX a' u'.2.1.1 → g u = some (r, u'))
theorem pos_r {k : Nat} (h : k < 2147483648) : ¬ nI k ≤ -100001 := by
  have e : (-100001 : Int32) = iI (-100001) := by decide
  rw [e, nI_iI, iI_le (by omega) (by omega) (by omega) (by omega)]
  omega
theorem pos_z {z : Int} (h1 : -1000 ≤ z) (h2 : z ≤ 1000) : ¬ iI z ≤ -100001 := by
  have e : (-100001 : Int32) = iI (-100001) := by decide
  rw [e, iI_le (by omega) (by omega) (by omega) (by omega)]
  omega
section
variable {B : Nat} {a : mA}
theorem cx_3 (w : WF B a) (hB : B + 1 < 1000000000) (y x : Int32) : ∃ o, OX B a 3 y x (fX7_mood y x) o := by
  have hn := wf_n w
  rcases i32_cases y (a 0 0) (by omega) with ⟨s, hs, rfl⟩ | hy
  · have h8 : s < 8 := by omega
    rcases i32_cases x 65536 (by omega) with ⟨m, hm, rfl⟩ | hx
    · have g := wf_s w s hs
      by_cases e : a 1 s = m
      · have hr : ∀ u, RX a u → fX5_reasonAgainst 3 (nI s) (nI m) u = some (nI 2, u) := fun u r => by
          rw [ra_3, if_neg (in8 h8), nJ_clamp (by omega), rx_m r s hs, if_pos (by rw [e])]; rfl
        refine ⟨Oc.no (nI 2) (nI m), fun u r => ?_⟩
        rw [fX7_mood, xq_has w r hs, obp_some]
        dsimp only [bd, peta]
        rw [if_neg (by decide), xm_in hm, Option.bind_some, if_neg (by decide), isR_no (by decide) (hr _ r) (dt_2 _ _ _), obp_some, if_neg (by decide)]
      · have hne : ¬ nI (a 1 s) = nI m := by rw [nJ_eq (by omega) (by omega)]; exact e
        have hr : ∀ u, RX a u → fX5_reasonAgainst 3 (nI s) (nI m) u = some (nI 0, u) := fun u r => by
          rw [ra_3, if_neg (in8 h8), nJ_clamp (by omega), rx_m r s hs, if_neg hne]; rfl
        refine ⟨Oc.ok (nI (a 1 s)) (mu a 1 s m), wf_up (wf_setM w hm) (by omega) hB, fun c => ci_up (ci_setM c s m) (by omega), pos_r (by omega), fun u r => ⟨_, ?_, rx_setM r s m⟩, fun u r u' hc r' => ?_⟩
        · rw [cro_3, if_neg (in8 h8), nJ_clamp (by omega)]
        · rw [fX7_mood, xq_has w r hs, obp_some]
          dsimp only [bd, peta]
          rw [if_neg (by decide), xm_in hm, Option.bind_some, if_neg (by decide), isR_ok (hr _ r), obp_some, if_pos l32_0.symm, if_neg (in8 h8), nJ_clamp (by omega), rx_m r s hs, hc, Option.bind_some]
    · refine ⟨Oc.bad (-100002), Or.inr rfl, fun u r => ?_⟩
      rw [fX7_mood, xq_has w r hs, obp_some]
      dsimp only [bd, peta]
      rw [if_neg (by decide), xm_out hx, Option.bind_some, if_pos l32_0.symm]
  · refine ⟨Oc.bad (-100001), Or.inl rfl, fun u r => ?_⟩
    rw [fX7_mood, xq_hasnt w r hy, obp_some]
    dsimp only [bd, peta]
    rw [if_pos l32_0.symm]
theorem cx_5 (w : WF B a) (hB : B + 1 < 1000000000) (y x : Int32) : ∃ o, OX B a 5 y x (fX7_watch y x) o := by
  have hn := wf_n w
  rcases i32_cases y (a 0 0) (by omega) with ⟨s, hs, rfl⟩ | hy
  · have h8 : s < 8 := by omega
    rcases i32_cases x 4 (by omega) with ⟨m, hm, rfl⟩ | hx
    · have g := wf_s w s hs
      by_cases e : a 3 s = m
      · have hr : ∀ u, RX a u → fX5_reasonAgainst 5 (nI s) (nI m) u = some (nI 2, u) := fun u r => by
          rw [ra_5, if_neg (in8 h8), nJ_clamp (by omega), rx_w r s hs, if_pos (by rw [e])]; rfl
        refine ⟨Oc.no (nI 2) (nI m), fun u r => ?_⟩
        rw [fX7_watch, xq_has w r hs, obp_some]
        dsimp only [bd, peta]
        rw [if_neg (by decide), xw_in hm, Option.bind_some, if_neg (by decide), isR_no (by decide) (hr _ r) (dt_2 _ _ _), obp_some, if_neg (by decide)]
      · have hne : ¬ nI (a 3 s) = nI m := by rw [nJ_eq (by omega) (by omega)]; exact e
        have hr : ∀ u, RX a u → fX5_reasonAgainst 5 (nI s) (nI m) u = some (nI 0, u) := fun u r => by
          rw [ra_5, if_neg (in8 h8), nJ_clamp (by omega), rx_w r s hs, if_neg hne]; rfl
        refine ⟨Oc.ok (nI (a 3 s)) (mu a 3 s m), wf_up (wf_setW w hm) (by omega) hB, fun c => ci_up (ci_setW c s m) (by omega), pos_r (by omega), fun u r => ⟨_, ?_, rx_setW r s m⟩, fun u r u' hc r' => ?_⟩
        · rw [co_5, if_neg (in8 h8), nJ_clamp (by omega)]
        · rw [fX7_watch, xq_has w r hs, obp_some]
          dsimp only [bd, peta]
          rw [if_neg (by decide), xw_in hm, Option.bind_some, if_neg (by decide), isR_ok (hr _ r), obp_some, if_pos l32_0.symm, if_neg (in8 h8), nJ_clamp (by omega), rx_w r s hs, hc, Option.bind_some]
    · refine ⟨Oc.bad (-100001), Or.inl rfl, fun u r => ?_⟩
      rw [fX7_watch, xq_has w r hs, obp_some]
      dsimp only [bd, peta]
      rw [if_neg (by decide), xw_out hx, Option.bind_some, if_pos l32_0.symm]
  · refine ⟨Oc.bad (-100001), Or.inl rfl, fun u r => ?_⟩
    rw [fX7_watch, xq_hasnt w r hy, obp_some]
    dsimp only [bd, peta]
    rw [if_pos l32_0.symm]
theorem cx_6 (w : WF B a) (hB : B + 1 < 1000000000) (y x : Int32) : ∃ o, OX B a 6 y x (fX7_horizon y x) o := by
  rcases i32_cases y 4 (by omega) with ⟨s, hs, rfl⟩ | hy
  · rcases i32_cases x 9 (by omega) with ⟨m, hm, rfl⟩ | hx
    · have g := wf_z w s hs
      by_cases e : a 4 s = m
      · have hr : ∀ u, RX a u → fX5_reasonAgainst 6 (nI s) (nI m) u = some (nI 2, u) := fun u r => by
          rw [ra_6, if_neg (in4 hs), nJ_clamp (by omega), rx_z r s hs, if_pos (by rw [e])]; rfl
        refine ⟨Oc.no (nI 2) (nI m), fun u r => ?_⟩
        rw [fX7_horizon, xw_in hs, Option.bind_some, if_neg (by decide), xh_in hm, Option.bind_some, if_neg (by decide), isR_no (by decide) (hr _ r) (dt_2 _ _ _), obp_some, if_neg (by decide)]
      · have hne : ¬ nI (a 4 s) = nI m := by rw [nJ_eq (by omega) (by omega)]; exact e
        have hr : ∀ u, RX a u → fX5_reasonAgainst 6 (nI s) (nI m) u = some (nI 0, u) := fun u r => by
          rw [ra_6, if_neg (in4 hs), nJ_clamp (by omega), rx_z r s hs, if_neg hne]; rfl
        refine ⟨Oc.ok (nI (a 4 s)) (mu a 4 s m), wf_up (wf_setZ w (by omega)) (by omega) hB, fun c => ci_up (ci_setZ c s m) (by omega), pos_r (by omega), fun u r => ⟨_, ?_, rx_setZ r s m⟩, fun u r u' hc r' => ?_⟩
        · rw [co_6, if_neg (in4 hs), nJ_clamp (by omega)]
        · rw [fX7_horizon, xw_in hs, Option.bind_some, if_neg (by decide), xh_in hm, Option.bind_some, if_neg (by decide), isR_ok (hr _ r), obp_some, if_pos l32_0.symm, if_neg (in4 hs), nJ_clamp (by omega), rx_z r s hs]
          dsimp only [bd]
          rw [hc, Option.bind_some]
    · refine ⟨Oc.bad (-100002), Or.inr rfl, fun u r => ?_⟩
      rw [fX7_horizon, xw_in hs, Option.bind_some, if_neg (by decide), xh_out hx, Option.bind_some, if_pos l32_0.symm]
  · refine ⟨Oc.bad (-100001), Or.inl rfl, fun u r => ?_⟩
    rw [fX7_horizon, xw_out hy, Option.bind_some, if_pos l32_0.symm]
theorem xe_in : ∀ e : Nat, e ≤ 6 → fX5_isError (iI ((e : Int) - 3)) = some (nI 1) := by decide +kernel
theorem xe_out {x : Int32} (h : x < -3 ∨ 3 < x) : fX5_isError x = some (nI 0) := by
  rw [fX5_isError]
  rcases h with h | h
  · first
      | rw [if_pos h]; rfl
      | simp [h]; rfl
  · by_cases h7 : x < -3
    · first
        | rw [if_pos h7]; rfl
        | simp [h7]; rfl
    · have h8 : ¬ x ≤ 3 := by
        rw [Int32.le_iff_toInt_le]
        rw [Int32.lt_iff_toInt_lt] at h
        omega
      first
        | rw [if_neg h7, if_pos h]; rfl
        | rw [if_neg h7, if_neg h8]; rfl
        | simp [h7, h8]; rfl
theorem cx_7 (w : WF B a) (hB : B + 1 < 1000000000) (x : Int32) : ∃ o, OX B a 7 0 x (fX7_error x) o := by
  have he := wf_e w
  rcases err_cases x with ⟨m, hm, rfl⟩ | hx
  · by_cases e : a 0 2 = m
    · have hr : ∀ u, RX a u → fX5_reasonAgainst 7 0 (iI ((m : Int) - 3)) u = some (nI 2, u) := fun u r => by
        rw [ra_7, rx_e r, if_pos (by rw [e])]; rfl
      refine ⟨Oc.no (nI 2) (iI ((m : Int) - 3)), fun u r => ?_⟩
      rw [fX7_error, xe_in m hm, Option.bind_some, if_neg (by decide), isR_no (by decide) (hr _ r) (dt_2 _ _ _), obp_some, if_neg (by decide)]
    · have hne : ¬ iI ((a 0 2 : Int) - 3) = iI ((m : Int) - 3) := by rw [iI_eq (by omega) (by omega) (by omega) (by omega)]; omega
      have hr : ∀ u, RX a u → fX5_reasonAgainst 7 0 (iI ((m : Int) - 3)) u = some (nI 0, u) := fun u r => by
        rw [ra_7, rx_e r, if_neg hne]; rfl
      refine ⟨Oc.ok (iI ((a 0 2 : Int) - 3)) (mu a 0 2 m), wf_up (wf_setE w hm) (by omega) hB, fun c => ci_up (ci_setE c m) (by omega), pos_z (by omega) (by omega), fun u r => ⟨_, co_7 _ _ _, rx_setE r m⟩, fun u r u' hc r' => ?_⟩
      rw [fX7_error, xe_in m hm, Option.bind_some, if_neg (by decide), isR_ok (hr _ r), obp_some, if_pos l32_0.symm, rx_e r]
      dsimp only [bd]
      rw [hc, Option.bind_some]
  · refine ⟨Oc.bad (-100002), Or.inr rfl, fun u r => ?_⟩
    rw [fX7_error, xe_out hx, Option.bind_some, if_pos l32_0.symm]
theorem cx_4 (w : WF B a) (hB : B + 1 < 1000000000) (y x : Int32) : ∃ o, OX B a 4 y x (fX7_rum y x) o := by
  have hn := wf_n w
  have l9 : (9 : Int32) = nI 9 := rfl
  rcases i32_cases y (a 0 0) (by omega) with ⟨s, hs, rfl⟩ | hy
  · have h8 : s < 8 := by omega
    rcases gift_cases x with ⟨m, hm1, hm, rfl⟩ | hx
    · have g := wf_s w s hs
      by_cases e : a 2 s + m ≤ 9
      · have hle : nI (a 2 s + m) ≤ (9 : Int32) := by rw [l9, nJ_le (by omega) (by omega)]; exact e
        have hr : ∀ u, RX a u → fX5_reasonAgainst 4 (nI s) (nI m) u = some (nI 0, u) := fun u r => by
          rw [ra_4, if_neg (in8 h8), nJ_clamp (by omega), rx_c r s hs, nJ_add, if_pos hle]; rfl
        refine ⟨Oc.ok (nI (a 2 s + m)) (drkM a s m), wf_up (wf_drk w e) (by omega) hB, fun c => ci_drk c hs hm, pos_r (by omega), fun u r => ⟨_, ?_, rx_drk r s m⟩, fun u r u' hc r' => ?_⟩
        · rw [cro_4, fX5_give, if_neg (in8 h8), if_neg (in8 h8), nJ_clamp (by omega), rx_c r s hs, nJ_add]
          dsimp only [bd]
          rw [show (up2 u.1 2 s (nI (a 2 s + m))) 0 12 = nI (a 0 5) from rx_k5 r, nJ_add]
          rfl
        · rw [fX7_rum, xq_has w r hs, obp_some]
          dsimp only [bd, peta]
          rw [if_neg (by decide), xg_in hm1 hm, Option.bind_some, if_neg (by decide), isR_ok (hr _ r), obp_some, if_pos l32_0.symm, hc, Option.bind_some, if_neg (in8 h8), nJ_clamp (by omega), rx_c r' s hs]
          show some (nI (if s = s then a 2 s + m else a 2 s), u') = _
          rw [if_pos rfl]
      · have hle : ¬ nI (a 2 s + m) ≤ (9 : Int32) := by rw [l9, nJ_le (by omega) (by omega)]; exact e
        have hr : ∀ u, RX a u → fX5_reasonAgainst 4 (nI s) (nI m) u = some (nI 3, u) := fun u r => by
          rw [ra_4, if_neg (in8 h8), nJ_clamp (by omega), rx_c r s hs, nJ_add, if_neg hle]; rfl
        have hd : ∀ u, RX a u → fX5_detailOf (nI 3) (nI s) (nI m) u = some (nI (a 2 s), u) := fun u r => by
          rw [dt_3, if_neg (in8 h8), nJ_clamp (by omega), rx_c r s hs]
        refine ⟨Oc.no (nI 3) (nI (a 2 s)), fun u r => ?_⟩
        rw [fX7_rum, xq_has w r hs, obp_some]
        dsimp only [bd, peta]
        rw [if_neg (by decide), xg_in hm1 hm, Option.bind_some, if_neg (by decide), isR_no (by decide) (hr _ r) (hd _ r), obp_some, if_neg (by decide)]
    · refine ⟨Oc.bad (-100002), Or.inr rfl, fun u r => ?_⟩
      rw [fX7_rum, xq_has w r hs, obp_some]
      dsimp only [bd, peta]
      rw [if_neg (by decide), xg_out hx, Option.bind_some, if_pos l32_0.symm]
  · refine ⟨Oc.bad (-100001), Or.inl rfl, fun u r => ?_⟩
    rw [fX7_rum, xq_hasnt w r hy, obp_some]
    dsimp only [bd, peta]
    rw [if_pos l32_0.symm]
theorem cx_0 (w : WF B a) (hB : B + 1 < 1000000000) (x : Int32) : ∃ o, OX B a 0 0 x (fX7_sail x) o := by
  have hn := wf_n w
  have l8 : (8 : Int32) = nI 8 := rfl
  rcases i32_cases x 65536 (by omega) with ⟨m, hm, rfl⟩ | hx
  · by_cases e : a 0 0 < 8
    · have hlt : nI (a 0 0) < (8 : Int32) := by rw [l8, nJ_lt (by omega) (by omega)]; exact e
      have hr : ∀ u, RX a u → fX5_reasonAgainst 0 0 (nI m) u = some (nI 0, u) := fun u r => by
        rw [ra_0, rx_n r, if_pos hlt]; rfl
      refine ⟨Oc.ok (nI (a 0 0)) (comM a m), wf_up (wf_com w hm e) (by omega) hB, fun c => ci_up (ci_com c m) (by omega), pos_r (by omega), fun u r => ⟨_, ?_, rx_com r m⟩, fun u r u' hc r' => ?_⟩
      · rw [co_0]
        simp (disch := omega) only [fX5_addSailor, rx_n r, up2_o, lits, nJ_le, nJ_lt, nJ_eq, nJ_clamp, nJ_add, nI_mul, nI_sub, nI_and, nI_or, nI_xor, Nat.add_zero, Nat.not_lt_zero, leF, leT, ltF, ltT, eqF, eqT, bd, obp_some, Option.bind_some, reduceIte, reduceCtorEq, or_self, or_true, true_or, or_false, false_or]
      · rw [fX7_sail, xm_in hm, Option.bind_some, if_neg (by decide), isR_ok (hr _ r), obp_some, if_pos l32_0.symm, hc, Option.bind_some, rx_n r']
        show some (nI (a 0 0 + 1) - 1, u') = _
        rw [l32_1, nI_sub (by omega)]
        rfl
    · have e8 : a 0 0 = 8 := by omega
      have hlt : ¬ nI (a 0 0) < (8 : Int32) := by rw [l8, nJ_lt (by omega) (by omega)]; exact e
      have hr : ∀ u, RX a u → fX5_reasonAgainst 0 0 (nI m) u = some (nI 1, u) := fun u r => by
        rw [ra_0, rx_n r, if_neg hlt]; rfl
      have hd : ∀ u, RX a u → fX5_detailOf (nI 1) 0 (nI m) u = some (nI 8, u) := fun u r => by
        rw [dt_1, rx_n r, e8]
      refine ⟨Oc.no (nI 1) (nI 8), fun u r => ?_⟩
      rw [fX7_sail, xm_in hm, Option.bind_some, if_neg (by decide), isR_no (by decide) (hr _ r) (hd _ r), obp_some, if_neg (by decide)]
  · refine ⟨Oc.bad (-100002), Or.inr rfl, fun u r => ?_⟩
    rw [fX7_sail, xm_out hx, Option.bind_some, if_pos l32_0.symm]
theorem cx_1 (w : WF B a) (hB : B + 1 < 1000000000) (y : Int32) : ∃ o, OX B a 1 y 0 (fX7_shore y) o := by
  have hn := wf_n w
  rcases i32_cases y (a 0 0) (by omega) with ⟨s, hs, rfl⟩ | hy
  · refine ⟨Oc.ok (nI (a 0 0 - 1)) (goM a s), wf_up (wf_go w hs) (by omega) hB, fun c => ci_up (ci_go c hs) (by omega), pos_r (by omega), fun u r => ?_, fun u r u' hc r' => ?_⟩
    · obtain ⟨u', e, r'⟩ := xq_remove w hs r
      refine ⟨u', ?_, r'⟩
      rw [co_1, e, Option.bind_some]
    · rw [fX7_shore, xq_has w r hs, obp_some]
      dsimp only [bd, peta]
      rw [if_neg (by decide), hc, Option.bind_some, rx_n r']
      rfl
  · refine ⟨Oc.bad (-100001), Or.inl rfl, fun u r => ?_⟩
    rw [fX7_shore, xq_hasnt w r hy, obp_some]
    dsimp only [bd, peta]
    rw [if_pos l32_0.symm]
theorem cx_2 (w : WF B a) (hB : B + 1 < 1000000000) (y : Int32) : ∃ o, OX B a 2 y 0 (fX7_sight y) o := by
  have hn := wf_n w
  rcases i32_cases y (a 0 0) (by omega) with ⟨s, hs, rfl⟩ | hy
  · rcases sg_dec a s with e | e
    · have hr : ∀ u, RX a u → fX5_reasonAgainst 2 (nI s) 0 u = some (nI 4, u) := fun u r => by
        rw [ra_2, (xq_sightedNow w r hs).1 e, obp_some, if_neg (by decide)]; rfl
      refine ⟨Oc.no (nI 4) (nI s), fun u r => ?_⟩
      rw [fX7_sight, xq_has w r hs, obp_some]
      dsimp only [bd, peta]
      rw [if_neg (by decide), isR_no (by decide) (hr _ r) (dt_4 _ _ _), obp_some, if_neg (by decide)]
    · have hr : ∀ u, RX a u → fX5_reasonAgainst 2 (nI s) 0 u = some (nI 0, u) := fun u r => by
        rw [ra_2, (xq_sightedNow w r hs).2 e, obp_some, if_pos l32_0.symm]; rfl
      have hk := (takL_b w).1
      refine ⟨Oc.ok (nI (takL a)) (takM a s), wf_up (wf_tak w hs) (by omega) hB, fun c => ci_tak c s, pos_r (by omega), fun u r => ?_, fun u r u' hc r' => ?_⟩
      · obtain ⟨u', e, r'⟩ := xq_addSight w r hs
        refine ⟨u', ?_, r'⟩
        rw [cro_2, e, Option.bind_some]
      · rw [fX7_sight, xq_has w r hs, obp_some]
        dsimp only [bd, peta]
        rw [if_neg (by decide), isR_ok (hr _ r), obp_some, if_pos l32_0.symm, hc, Option.bind_some, rx_l r']
        rfl
  · refine ⟨Oc.bad (-100001), Or.inl rfl, fun u r => ?_⟩
    rw [fX7_sight, xq_hasnt w r hy, obp_some]
    dsimp only [bd, peta]
    rw [if_pos l32_0.symm]
theorem cx_9 (w : WF B a) (hB : B + 1 < 1000000000) : OX B a 9 0 0 fX7_hour (Oc.ok (nI (sumN (a 0 0) (fun i => a 2 i - 1))) (passM a)) := by
  have hn := wf_n w
  have hs : sumN (a 0 0) (fun i => a 2 i - 1) ≤ a 0 0 * 9 := sumN_bound (fun i hi => by have := wf_s w i hi; omega)
  refine ⟨wf_pass w hB, fun c => ci_up (ci_pass c) (by omega), pos_r (by omega), fun u r => ?_, fun u r u' hc r' => ?_⟩
  · obtain ⟨u', e, r'⟩ := xq_pass w r
    refine ⟨u', ?_, r'⟩
    rw [co_9, e, Option.bind_some]
  · have es : sumN (passM a 0 0) (passM a 2) = sumN (a 0 0) (fun i => a 2 i - 1) := sumN_congr (N := a 0 0) (fun i hi => if_pos hi)
    rw [fX7_hour, hc, Option.bind_some, xq_allCups (wf_pass w hB) r', obp_some, es]
    rfl
end
/-- the object as the law knows it: its ship, the ships before, no input -/
def PZ (B : Nat) (a : mA) (n : Nat) (hs : Nat → mA) (u : vZ) : Prop := (WF B a ∧ CI B a ∧ RX a u.2.1.1) ∧ (RHc n hs u.2.1.2 ∧ ∀ j, j < n → WF B (hs j) ∧ CI B (hs j)) ∧ u.2.2.2.2.2.1.1 0 1 = nI 0
theorem pz_up {B B' : Nat} {a : mA} {n : Nat} {hs : Nat → mA} {u : vZ} (P : PZ B a n hs u) (h : B ≤ B') (h' : B' < 1000000000) : PZ B' a n hs u := ⟨⟨wf_up P.1.1 h h', ci_up P.1.2.1 h, P.1.2.2⟩, ⟨P.2.1.1, fun j hj => ⟨wf_up (P.2.1.2 j hj).1 h h', ci_up (P.2.1.2 j hj).2 h⟩⟩, P.2.2⟩
theorem ch_ok {B : Nat} {a a' : mA} {n : Nat} {hs : Nat → mA} {u : vZ} {f : Nat} {y x : Int32} (w : WF B a) (r : RX a u.2.1.1) (R : RHc n hs u.2.1.2) (hc : ∃ s', fX5_carryOut f y x u.2.1.1 = some s' ∧ RX a' s') : ∃ u', fX7_change f y x u = some u' ∧ RX a' u'.2.1.1 ∧ RHc (pushN n) (pushH a hs) u'.2.1.2 ∧ u'.1 = u.1 ∧ u'.2.2 = u.2.2 := by
  obtain ⟨h', e1, R'⟩ := rem_ok (wf_n w) (wf_l w) r R
  obtain ⟨s', e2, r'⟩ := hc
  refine ⟨(u.1, ((s', h'), u.2.2)), ?_, r', R', rfl, rfl⟩
  rw [fX7_change]
  have e1' : fX2_remember u.2.1 = some (u.2.1.1, h') := e1
  rw [e1', Option.bind_some]
  dsimp only [bd]
  rw [e2, Option.bind_some]
theorem pz_cmd {B : Nat} {a : mA} {n : Nat} {hs : Nat → mA} {u : vZ} {f : Nat} {y x : Int32} {g : vZ → Option (Int32 × vZ)} {o : Oc} (P : PZ B a n hs u) (hB : B + 1 < 1000000000) (h : OX B a f y x g o) : ∃ r a' n' hs' u', g u = some (r, u') ∧ PZ (B + 1) a' n' hs' u' ∧ ((r ≤ -100001 ∧ a' = a ∧ n' = n ∧ hs' = hs) ∨ (¬ r ≤ -100001 ∧ n' = pushN n ∧ hs' = pushH a hs ∧ o = Oc.ok r a')) := by
  obtain ⟨⟨w, c, r⟩, ⟨R, hw⟩, t⟩ := P
  cases o using Oc.cs with
  | bad k =>
    obtain ⟨hk, hg⟩ := h
    refine ⟨k, a, n, hs, u, hg u r, pz_up ⟨⟨w, c, r⟩, ⟨R, hw⟩, t⟩ (by omega) hB, Or.inl ⟨?_, rfl, rfl, rfl⟩⟩
    rcases hk with rfl | rfl <;> decide
  | no w' d =>
    exact ⟨-100005, a, n, hs, zKeep u w' d, h u r, pz_up (u := zKeep u w' d) ⟨⟨w, c, r⟩, ⟨R, hw⟩, t⟩ (by omega) hB, Or.inl ⟨by decide, rfl, rfl, rfl⟩⟩
  | ok k a' =>
    obtain ⟨w', c', hk, hx, hg⟩ := h
    obtain ⟨u', e, r', R', e1, e2⟩ := ch_ok w r R (hx u.2.1.1 r)
    refine ⟨k, a', pushN n, pushH a hs, u', hg u r u' e r', ⟨⟨w', c' c, r'⟩, ⟨R', fun j hj => ?_⟩, by rw [e2]; exact t⟩, Or.inr ⟨hk, rfl, rfl, rfl⟩⟩
    unfold pushH
    by_cases e0 : j = 0
    · rw [if_pos e0]
      exact ⟨wf_up w (by omega) hB, ci_up c (by omega)⟩
    · rw [if_neg e0]
      have hj2 : j - 1 < n := by
        unfold pushN at hj
        split at hj <;> omega
      exact ⟨wf_up (hw _ hj2).1 (by omega) hB, ci_up (hw _ hj2).2 (by omega)⟩
/-- back, and saved, and restored -/
theorem pz_undo {B : Nat} {a : mA} {n : Nat} {hs : Nat → mA} {u : vZ} (P : PZ B a (n + 1) hs u) : ∃ u', fX7_undo u = some (nI n, u') ∧ PZ B (hs 0) n (fun j => hs (j + 1)) u' := by
  obtain ⟨⟨w, c, r⟩, ⟨⟨hn, c2, x, hx, c1, cR⟩, hw⟩, t⟩ := P
  have hne : ¬ nI (n + 1) = 0 := by rw [l32_0, nJ_eq (by omega) (by omega)]; omega
  obtain ⟨d', ed, hd⟩ := xq_copy u.2.1.1 (u.2.1.2.2 ((x + 7) % 8))
  obtain ⟨w0, c0⟩ := hw 0 (by omega)
  have r0 := cR 0 (by omega)
  rw [Nat.sub_zero] at r0
  have hi : ¬ (nI ((x + 7) % 8) < 0 ∨ 8 ≤ Int32.toNatClampNeg (nI ((x + 7) % 8))) := (nJ_in (n := 8) (by omega) (by omega)).mp
  have t28 : fX2_takeBack_28 (nI ((x + 7) % 8)) u.2.1 = some (1, (d', (upd (upd u.2.1.2.1 1 (nI ((x + 7) % 8))) 2 (nI n), va_up u.2.1.2.2 ((x + 7) % 8) (u.2.1.2.2 ((x + 7) % 8))))) := by
    have c2' : (upd u.2.1.2.1 1 (nI ((x + 7) % 8))) 2 = nI (n + 1) := by rw [upd_ne (by omega)]; exact c2
    rw [fX2_takeBack_28]
    dsimp only [bd]
    rw [c2', l32_1, nI_sub (by omega), Nat.add_sub_cancel]
    show (if nI ((x + 7) % 8) < 0 ∨ 8 ≤ Int32.toNatClampNeg (nI ((x + 7) % 8)) then none else (fX5_copyFrom (u.2.1.1, u.2.1.2.2 (Int32.toNatClampNeg (nI ((x + 7) % 8))))).bind _) = _
    rw [if_neg hi, nJ_clamp (by omega), ed, Option.bind_some]
    show some (nI 1, (d', (_, va_up u.2.1.2.2 (Int32.toNatClampNeg (nI ((x + 7) % 8))) _))) = _
    rw [nJ_clamp (by omega)]
  have tb : fX2_takeBack u.2.1 = fX2_takeBack_28 (nI ((x + 7) % 8)) u.2.1 := by
    have h2 : ¬ u.2.1.2.1 2 = 0 := by rw [c2]; exact hne
    rw [fX2_takeBack, if_neg h2]
    by_cases ex : x = 0
    · have h1 : u.2.1.2.1 1 ≤ 0 := by rw [c1, ex]; decide
      rw [if_pos h1, ex]
      rfl
    · have h1 : ¬ u.2.1.2.1 1 ≤ 0 := by rw [c1, l32_0, nJ_le (by omega) (by omega)]; omega
      rw [if_neg h1, c1, l32_1, nI_sub (by omega), show (x + 7) % 8 = x - 1 from by omega]
  have e3 : va_up u.2.1.2.2 ((x + 7) % 8) (u.2.1.2.2 ((x + 7) % 8)) = u.2.1.2.2 := by
    funext k
    unfold va_up
    by_cases e : k = (x + 7) % 8
    · rw [if_pos e, e]
    · rw [if_neg e]
  refine ⟨(u.1, ((d', (upd (upd u.2.1.2.1 1 (nI ((x + 7) % 8))) 2 (nI n), va_up u.2.1.2.2 ((x + 7) % 8) (u.2.1.2.2 ((x + 7) % 8)))), u.2.2)), ?_, ⟨w0, c0, hd _ (wf_n w0) (wf_l w0) r0⟩, ⟨⟨by omega, rfl, (x + 7) % 8, by omega, rfl, fun j hj => ?_⟩, fun j hj => hw (j + 1) (by omega)⟩, t⟩
  · rw [fX7_undo, tb, t28, obp_some]
    dsimp only [bd]
    rw [if_neg (by decide)]
    rfl
  · show RX (hs (j + 1)) (va_up u.2.1.2.2 ((x + 7) % 8) (u.2.1.2.2 ((x + 7) % 8)) (((x + 7) % 8 + 7 - j) % 8))
    rw [e3, show ((x + 7) % 8 + 7 - j) % 8 = (x + 7 - (j + 1)) % 8 by omega]
    exact cR (j + 1) (by omega)
