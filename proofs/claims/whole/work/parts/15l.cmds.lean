theorem at_0 {s : Nat} (h : s < 9) : fX8_at (nI s) 0 = some (nI (12 + 3 * s)) := by simp (disch := omega) only [fX8_at, lits, nJ_le, nJ_lt, nJ_eq, nJ_clamp, nJ_add, nI_mul, nI_sub, nI_and, nI_or, nI_xor, Nat.add_zero, Nat.not_lt_zero, leF, leT, ltF, ltT, eqF, eqT, bd, obp_some, Option.bind_some, reduceIte, reduceCtorEq, or_self, or_true, true_or, or_false, false_or]
theorem at_1 {s : Nat} (h : s < 9) : fX8_at (nI s) 1 = some (nI (12 + 3 * s + 1)) := by simp (disch := omega) only [fX8_at, lits, nJ_le, nJ_lt, nJ_eq, nJ_clamp, nJ_add, nI_mul, nI_sub, nI_and, nI_or, nI_xor, Nat.add_zero, Nat.not_lt_zero, leF, leT, ltF, ltT, eqF, eqT, bd, obp_some, Option.bind_some, reduceIte, reduceCtorEq, or_self, or_true, true_or, or_false, false_or]
theorem at_2 {s : Nat} (h : s < 9) : fX8_at (nI s) 2 = some (nI (12 + 3 * s + 2)) := by simp (disch := omega) only [fX8_at, lits, nJ_le, nJ_lt, nJ_eq, nJ_clamp, nJ_add, nI_mul, nI_sub, nI_and, nI_or, nI_xor, Nat.add_zero, Nat.not_lt_zero, leF, leT, ltF, ltT, eqF, eqT, bd, obp_some, Option.bind_some, reduceIte, reduceCtorEq, or_self, or_true, true_or, or_false, false_or]
theorem in66 {k : Nat} (hk : k < 66) : ¬ (nI k < 0 ∨ 66 ≤ Int32.toNatClampNeg (nI k)) := (nJ_in (n := 66) hk (by omega)).mp
theorem in8 {k : Nat} (hk : k < 8) : ¬ (nI k < 0 ∨ 8 ≤ Int32.toNatClampNeg (nI k)) := (nJ_in (n := 8) hk (by omega)).mp
theorem in4 {k : Nat} (hk : k < 4) : ¬ (nI k < 0 ∨ 4 ≤ Int32.toNatClampNeg (nI k)) := (nJ_in (n := 4) hk (by omega)).mp
theorem ref_sets {j : Nat} (hj : j < 66) (x : Int32) (v : vS) : fX8_sets (nI j) x v = if v 1 j = x then some (-100005, rfS v (nI 2) x) else some (v 1 j, up2 v 1 j x) := by
  have i1 := in66 hj
  rw [nJ_clamp (by omega)] at i1
  rw [fX8_sets, nJ_clamp (by omega), if_neg i1]
  dsimp only [bd]
  rw [if_neg i1]
  split
  · rw [ref_refuses, obp_some]
    rfl
  · rfl
theorem up1o (v : vS) (k : Nat) (x : Int32) : ∀ b, b ≠ 1 → up2 v 1 k x b = v b := fun b hb => if_neg hb
section
variable {B : Nat} {a : mA}
theorem cm_3 (w : WF B a) (y x : Int32) : ∃ o, OC B a 3 y x (fX8_moods y x) (fX7_mood y x) o := by
  have hn := wf_n w
  rcases i32_cases y (a 0 0) (by omega) with ⟨s, hs, rfl⟩ | hy
  · have h8 : s < 8 := by omega
    rcases i32_cases x 65536 (by omega) with ⟨m, hm, rfl⟩ | hx
    · have hi : ∀ u, RX a u → fX5_isInRange 3 (nI s) (nI m) u = some (nI 1, u) := fun u r => by
        rw [ir_3, xq_has w r hs, obp_some, if_neg (by decide), xm_in hm, Option.bind_some, if_neg (by decide)]; rfl
      have g := wf_s w s hs
      by_cases e : a 1 s = m
      · have hr : ∀ u, RX a u → fX5_reasonAgainst 3 (nI s) (nI m) u = some (nI 2, u) := fun u r => by
          rw [ra_3, if_neg (in8 h8), nJ_clamp (by omega), rx_m r s hs, if_pos (by rw [e])]; rfl
        refine ⟨Oc.no (nI 2) (nI m), by decide, fun u r => ⟨hi u r, hr u r, dt_2 _ _ _⟩, fun v q => ?_, fun u r => ?_⟩
        · rw [fX8_moods, rq_is w q hs, obp_some, if_neg (by decide), rm_in hm, Option.bind_some, if_neg (by decide), at_0 (by omega), Option.bind_some, ref_sets (by omega), rr_m q s hs, if_pos (by rw [e]), obp_some]
        · rw [fX7_mood, xq_has w r hs, obp_some]
          dsimp only [bd, peta]
          rw [if_neg (by decide), xm_in hm, Option.bind_some, if_neg (by decide), isR_no (by decide) (hr _ r) (dt_2 _ _ _), obp_some, if_neg (by decide)]
      · have hne : ¬ nI (a 1 s) = nI m := by rw [nJ_eq (by omega) (by omega)]; exact e
        have hr : ∀ u, RX a u → fX5_reasonAgainst 3 (nI s) (nI m) u = some (nI 0, u) := fun u r => by
          rw [ra_3, if_neg (in8 h8), nJ_clamp (by omega), rx_m r s hs, if_neg hne]; rfl
        refine ⟨Oc.ok (nI (a 1 s)) (mu a 1 s m), wf_setM w hm, fun u r => ⟨hi u r, hr u r, _, ?_, rx_setM r s m⟩, fun v q => ⟨up2 v 1 (12 + 3 * s) (nI m), ?_, rr_setM hn q hs m, up1o _ _ _⟩, fun u r u' hc r' => ?_⟩
        · rw [cro_3, if_neg (in8 h8), nJ_clamp (by omega)]
        · rw [fX8_moods, rq_is w q hs, obp_some, if_neg (by decide), rm_in hm, Option.bind_some, if_neg (by decide), at_0 (by omega), Option.bind_some, ref_sets (by omega), rr_m q s hs, if_neg hne, obp_some]
        · rw [fX7_mood, xq_has w r hs, obp_some]
          dsimp only [bd, peta]
          rw [if_neg (by decide), xm_in hm, Option.bind_some, if_neg (by decide), isR_ok (hr _ r), obp_some, if_pos l32_0.symm, if_neg (in8 h8), nJ_clamp (by omega), rx_m r s hs, hc, Option.bind_some]
    · refine ⟨Oc.bad (-100002), by decide, fun u r => ?_, fun v q => ?_, fun u r => ?_⟩
      · rw [ir_3, xq_has w r hs, obp_some, if_neg (by decide), xm_out hx, Option.bind_some, if_pos l32_0.symm]; rfl
      · rw [fX8_moods, rq_is w q hs, obp_some, if_neg (by decide), rm_out hx, Option.bind_some, if_pos l32_0.symm]; rfl
      · rw [fX7_mood, xq_has w r hs, obp_some]
        dsimp only [bd, peta]
        rw [if_neg (by decide), xm_out hx, Option.bind_some, if_pos l32_0.symm]
  · refine ⟨Oc.bad (-100001), by decide, fun u r => ?_, fun v q => ?_, fun u r => ?_⟩
    · rw [ir_3, xq_hasnt w r hy, obp_some, if_pos l32_0.symm]; rfl
    · rw [fX8_moods, rq_isnt w q hy, obp_some, if_pos l32_0.symm]; rfl
    · rw [fX7_mood, xq_hasnt w r hy, obp_some]
      dsimp only [bd, peta]
      rw [if_pos l32_0.symm]
theorem cm_5 (w : WF B a) (y x : Int32) : ∃ o, OC B a 5 y x (fX8_stands y x) (fX7_watch y x) o := by
  have hn := wf_n w
  rcases i32_cases y (a 0 0) (by omega) with ⟨s, hs, rfl⟩ | hy
  · have h8 : s < 8 := by omega
    rcases i32_cases x 4 (by omega) with ⟨m, hm, rfl⟩ | hx
    · have hi : ∀ u, RX a u → fX5_isInRange 5 (nI s) (nI m) u = some (nI 1, u) := fun u r => by
        rw [ir_5, xq_has w r hs, obp_some, if_neg (by decide), xw_in hm, Option.bind_some, if_neg (by decide)]; rfl
      have g := wf_s w s hs
      by_cases e : a 3 s = m
      · have hr : ∀ u, RX a u → fX5_reasonAgainst 5 (nI s) (nI m) u = some (nI 2, u) := fun u r => by
          rw [ra_5, if_neg (in8 h8), nJ_clamp (by omega), rx_w r s hs, if_pos (by rw [e])]; rfl
        refine ⟨Oc.no (nI 2) (nI m), by decide, fun u r => ⟨hi u r, hr u r, dt_2 _ _ _⟩, fun v q => ?_, fun u r => ?_⟩
        · rw [fX8_stands, rq_is w q hs, obp_some, if_neg (by decide), rw_in hm, Option.bind_some, if_neg (by decide), at_2 (by omega), Option.bind_some, ref_sets (by omega), rr_w q s hs, if_pos (by rw [e]), obp_some]
        · rw [fX7_watch, xq_has w r hs, obp_some]
          dsimp only [bd, peta]
          rw [if_neg (by decide), xw_in hm, Option.bind_some, if_neg (by decide), isR_no (by decide) (hr _ r) (dt_2 _ _ _), obp_some, if_neg (by decide)]
      · have hne : ¬ nI (a 3 s) = nI m := by rw [nJ_eq (by omega) (by omega)]; exact e
        have hr : ∀ u, RX a u → fX5_reasonAgainst 5 (nI s) (nI m) u = some (nI 0, u) := fun u r => by
          rw [ra_5, if_neg (in8 h8), nJ_clamp (by omega), rx_w r s hs, if_neg hne]; rfl
        refine ⟨Oc.ok (nI (a 3 s)) (mu a 3 s m), wf_setW w hm, fun u r => ⟨hi u r, hr u r, _, ?_, rx_setW r s m⟩, fun v q => ⟨up2 v 1 (12 + 3 * s + 2) (nI m), ?_, rr_setW hn q hs m, up1o _ _ _⟩, fun u r u' hc r' => ?_⟩
        · rw [co_5, if_neg (in8 h8), nJ_clamp (by omega)]
        · rw [fX8_stands, rq_is w q hs, obp_some, if_neg (by decide), rw_in hm, Option.bind_some, if_neg (by decide), at_2 (by omega), Option.bind_some, ref_sets (by omega), rr_w q s hs, if_neg hne, obp_some]
        · rw [fX7_watch, xq_has w r hs, obp_some]
          dsimp only [bd, peta]
          rw [if_neg (by decide), xw_in hm, Option.bind_some, if_neg (by decide), isR_ok (hr _ r), obp_some, if_pos l32_0.symm, if_neg (in8 h8), nJ_clamp (by omega), rx_w r s hs, hc, Option.bind_some]
    · refine ⟨Oc.bad (-100001), by decide, fun u r => ?_, fun v q => ?_, fun u r => ?_⟩
      · rw [ir_5, xq_has w r hs, obp_some, if_neg (by decide), xw_out hx, Option.bind_some, if_pos l32_0.symm]; rfl
      · rw [fX8_stands, rq_is w q hs, obp_some, if_neg (by decide), rw_out hx, Option.bind_some, if_pos l32_0.symm]; rfl
      · rw [fX7_watch, xq_has w r hs, obp_some]
        dsimp only [bd, peta]
        rw [if_neg (by decide), xw_out hx, Option.bind_some, if_pos l32_0.symm]
  · refine ⟨Oc.bad (-100001), by decide, fun u r => ?_, fun v q => ?_, fun u r => ?_⟩
    · rw [ir_5, xq_hasnt w r hy, obp_some, if_pos l32_0.symm]; rfl
    · rw [fX8_stands, rq_isnt w q hy, obp_some, if_pos l32_0.symm]; rfl
    · rw [fX7_watch, xq_hasnt w r hy, obp_some]
      dsimp only [bd, peta]
      rw [if_pos l32_0.symm]
theorem cm_6 (w : WF B a) (y x : Int32) : ∃ o, OC B a 6 y x (fX8_horizons y x) (fX7_horizon y x) o := by
  rcases i32_cases y 4 (by omega) with ⟨s, hs, rfl⟩ | hy
  · have h8e : (8 : Int32) + nI s = nI (8 + s) := nJ_add 8 s
    rcases i32_cases x 9 (by omega) with ⟨m, hm, rfl⟩ | hx
    · have hi : ∀ u, RX a u → fX5_isInRange 6 (nI s) (nI m) u = some (nI 1, u) := fun u r => by
        rw [ir_6, xw_in hs, Option.bind_some, if_neg (by decide), xh_in hm, Option.bind_some, if_neg (by decide)]; rfl
      have g := wf_z w s hs
      by_cases e : a 4 s = m
      · have hr : ∀ u, RX a u → fX5_reasonAgainst 6 (nI s) (nI m) u = some (nI 2, u) := fun u r => by
          rw [ra_6, if_neg (in4 hs), nJ_clamp (by omega), rx_z r s hs, if_pos (by rw [e])]; rfl
        refine ⟨Oc.no (nI 2) (nI m), by decide, fun u r => ⟨hi u r, hr u r, dt_2 _ _ _⟩, fun v q => ?_, fun u r => ?_⟩
        · rw [fX8_horizons, rw_in hs, Option.bind_some, if_neg (by decide), rh_in hm, Option.bind_some, if_neg (by decide), h8e, ref_sets (by omega), rr_z q s hs, if_pos (by rw [e]), obp_some]
        · rw [fX7_horizon, xw_in hs, Option.bind_some, if_neg (by decide), xh_in hm, Option.bind_some, if_neg (by decide), isR_no (by decide) (hr _ r) (dt_2 _ _ _), obp_some, if_neg (by decide)]
      · have hne : ¬ nI (a 4 s) = nI m := by rw [nJ_eq (by omega) (by omega)]; exact e
        have hr : ∀ u, RX a u → fX5_reasonAgainst 6 (nI s) (nI m) u = some (nI 0, u) := fun u r => by
          rw [ra_6, if_neg (in4 hs), nJ_clamp (by omega), rx_z r s hs, if_neg hne]; rfl
        refine ⟨Oc.ok (nI (a 4 s)) (mu a 4 s m), wf_setZ w (by omega), fun u r => ⟨hi u r, hr u r, _, ?_, rx_setZ r s m⟩, fun v q => ⟨up2 v 1 (8 + s) (nI m), ?_, rr_setZ q hs m, up1o _ _ _⟩, fun u r u' hc r' => ?_⟩
        · rw [co_6, if_neg (in4 hs), nJ_clamp (by omega)]
        · rw [fX8_horizons, rw_in hs, Option.bind_some, if_neg (by decide), rh_in hm, Option.bind_some, if_neg (by decide), h8e, ref_sets (by omega), rr_z q s hs, if_neg hne, obp_some]
        · rw [fX7_horizon, xw_in hs, Option.bind_some, if_neg (by decide), xh_in hm, Option.bind_some, if_neg (by decide), isR_ok (hr _ r), obp_some, if_pos l32_0.symm, if_neg (in4 hs), nJ_clamp (by omega), rx_z r s hs]
          dsimp only [bd]
          rw [hc, Option.bind_some]
    · refine ⟨Oc.bad (-100002), by decide, fun u r => ?_, fun v q => ?_, fun u r => ?_⟩
      · rw [ir_6, xw_in hs, Option.bind_some, if_neg (by decide), xh_out hx, Option.bind_some, if_pos l32_0.symm]; rfl
      · rw [fX8_horizons, rw_in hs, Option.bind_some, if_neg (by decide), rh_out hx, Option.bind_some, if_pos l32_0.symm]; rfl
      · rw [fX7_horizon, xw_in hs, Option.bind_some, if_neg (by decide), xh_out hx, Option.bind_some, if_pos l32_0.symm]
  · refine ⟨Oc.bad (-100001), by decide, fun u r => ?_, fun v q => ?_, fun u r => ?_⟩
    · rw [ir_6, xw_out hy, Option.bind_some, if_pos l32_0.symm]; rfl
    · rw [fX8_horizons, rw_out hy, Option.bind_some, if_pos l32_0.symm]; rfl
    · rw [fX7_horizon, xw_out hy, Option.bind_some, if_pos l32_0.symm]
theorem cm_7 (w : WF B a) (x : Int32) : ∃ o, OC B a 7 0 x (fX8_errs x) (fX7_error x) o := by
  have he := wf_e w
  rcases err_cases x with ⟨m, hm, rfl⟩ | hx
  · have hi : ∀ u, RX a u → fX5_isInRange 7 0 (iI ((m : Int) - 3)) u = some (nI 1, u) := fun u r => by
      rw [ir_7, (xe_in m hm).1, Option.bind_some, if_pos (by decide)]
    by_cases e : a 0 2 = m
    · have hr : ∀ u, RX a u → fX5_reasonAgainst 7 0 (iI ((m : Int) - 3)) u = some (nI 2, u) := fun u r => by
        rw [ra_7, rx_e r, if_pos (by rw [e])]; rfl
      refine ⟨Oc.no (nI 2) (iI ((m : Int) - 3)), by decide, fun u r => ⟨hi u r, hr u r, dt_2 _ _ _⟩, fun v q => ?_, fun u r => ?_⟩
      · have := ref_sets (j := 2) (by omega) (iI ((m : Int) - 3)) v
        rw [rr_e q, if_pos (by rw [e])] at this
        rw [fX8_errs, (xe_in m hm).2, Option.bind_some, if_neg (by decide), show (2 : Int32) = nI 2 from rfl, this, obp_some]
      · rw [fX7_error, (xe_in m hm).1, Option.bind_some, if_neg (by decide), isR_no (by decide) (hr _ r) (dt_2 _ _ _), obp_some, if_neg (by decide)]
    · have hne : ¬ iI ((a 0 2 : Int) - 3) = iI ((m : Int) - 3) := by rw [iI_eq (by omega) (by omega) (by omega) (by omega)]; omega
      have hr : ∀ u, RX a u → fX5_reasonAgainst 7 0 (iI ((m : Int) - 3)) u = some (nI 0, u) := fun u r => by
        rw [ra_7, rx_e r, if_neg hne]; rfl
      refine ⟨Oc.ok (iI ((a 0 2 : Int) - 3)) (mu a 0 2 m), wf_setE w hm, fun u r => ⟨hi u r, hr u r, _, co_7 _ _ _, rx_setE r m⟩, fun v q => ⟨up2 v 1 2 (iI ((m : Int) - 3)), ?_, rr_setE q m, up1o _ _ _⟩, fun u r u' hc r' => ?_⟩
      · have := ref_sets (j := 2) (by omega) (iI ((m : Int) - 3)) v
        rw [rr_e q, if_neg hne] at this
        rw [fX8_errs, (xe_in m hm).2, Option.bind_some, if_neg (by decide), show (2 : Int32) = nI 2 from rfl, this, obp_some]
      · rw [fX7_error, (xe_in m hm).1, Option.bind_some, if_neg (by decide), isR_ok (hr _ r), obp_some, if_pos l32_0.symm, rx_e r]
        dsimp only [bd]
        rw [hc, Option.bind_some]
  · refine ⟨Oc.bad (-100002), by decide, fun u r => ?_, fun v q => ?_, fun u r => ?_⟩
    · rw [ir_7, (xe_out hx).1, Option.bind_some, if_pos (by decide)]
    · rw [fX8_errs, (xe_out hx).2, Option.bind_some, if_pos l32_0.symm]; rfl
    · rw [fX7_error, (xe_out hx).1, Option.bind_some, if_pos l32_0.symm]
theorem cm_4 (w : WF B a) (y x : Int32) : ∃ o, OC B a 4 y x (fX8_drinks y x) (fX7_rum y x) o := by
  have hn := wf_n w
  have l9 : (9 : Int32) = nI 9 := rfl
  rcases i32_cases y (a 0 0) (by omega) with ⟨s, hs, rfl⟩ | hy
  · have h8 : s < 8 := by omega
    rcases gift_cases x with ⟨m, hm1, hm, rfl⟩ | hx
    · have hi : ∀ u, RX a u → fX5_isInRange 4 (nI s) (nI m) u = some (nI 1, u) := fun u r => by
        rw [ir_4, xq_has w r hs, obp_some, if_neg (by decide), xg_in hm1 hm, Option.bind_some, if_neg (by decide)]; rfl
      have g := wf_s w s hs
      by_cases e : a 2 s + m ≤ 9
      · have hle : nI (a 2 s + m) ≤ (9 : Int32) := by rw [l9, nJ_le (by omega) (by omega)]; exact e
        have hr : ∀ u, RX a u → fX5_reasonAgainst 4 (nI s) (nI m) u = some (nI 0, u) := fun u r => by
          rw [ra_4, if_neg (in8 h8), nJ_clamp (by omega), rx_c r s hs, nJ_add, if_pos hle]; rfl
        refine ⟨Oc.ok (nI (a 2 s + m)) (drkM a s m), wf_drk w e, fun u r => ⟨hi u r, hr u r, _, ?_, rx_drk r s m⟩, fun v q => ⟨up2 (up2 v 1 (12 + 3 * s + 1) (nI (a 2 s + m))) 1 5 (nI (a 0 5 + m)), ?_, ?_, fun b hb => ?_⟩, fun u r u' hc r' => ?_⟩
        · rw [cro_4, fX5_give, if_neg (in8 h8), if_neg (in8 h8), nJ_clamp (by omega), rx_c r s hs, nJ_add]
          dsimp only [bd]
          rw [show (up2 u.1 2 s (nI (a 2 s + m))) 0 12 = nI (a 0 5) from rx_k5 r, nJ_add]
          rfl
        · rw [fX8_drinks, rq_is w q hs, obp_some, if_neg (by decide), rg_in hm1 hm, Option.bind_some, if_neg (by decide), at_1 (by omega), Option.bind_some, if_neg (in66 (by omega)), nJ_clamp (by omega), rr_c q s hs]
          dsimp only [bd]
          rw [nJ_add, if_pos hle, Option.bind_some, if_neg (in66 (by omega)), if_neg (in66 (by omega)), nJ_clamp (by omega), rr_c q s hs, nJ_add]
          have : up2 v 1 (12 + 3 * s + 1) (nI (a 2 s + m)) 1 5 = nI (a 0 5) := by rw [up2_r, upd_ne (by omega)]; exact rr_k5 q
          rw [this, nJ_add]
        · have q1 := rr_setC hn q hs (a 2 s + m)
          exact rr_k5up q1 (a 0 5 + m)
        · rw [up1o _ _ _ _ hb, up1o _ _ _ _ hb]
        · rw [fX7_rum, xq_has w r hs, obp_some]
          dsimp only [bd, peta]
          rw [if_neg (by decide), xg_in hm1 hm, Option.bind_some, if_neg (by decide), isR_ok (hr _ r), obp_some, if_pos l32_0.symm, hc, Option.bind_some, if_neg (in8 h8), nJ_clamp (by omega), rx_c r' s hs]
          show some (nI (if s = s then a 2 s + m else a 2 s), u') = _
          rw [if_pos rfl]
      · have hle : ¬ nI (a 2 s + m) ≤ (9 : Int32) := by rw [l9, nJ_le (by omega) (by omega)]; exact e
        have hr : ∀ u, RX a u → fX5_reasonAgainst 4 (nI s) (nI m) u = some (nI 3, u) := fun u r => by
          rw [ra_4, if_neg (in8 h8), nJ_clamp (by omega), rx_c r s hs, nJ_add, if_neg hle]; rfl
        have hd : ∀ u, RX a u → fX5_detailOf (nI 3) (nI s) (nI m) u = some (nI (a 2 s), u) := fun u r => by
          rw [dt_3, if_neg (in8 h8), nJ_clamp (by omega), rx_c r s hs]
        refine ⟨Oc.no (nI 3) (nI (a 2 s)), by decide, fun u r => ⟨hi u r, hr u r, hd u r⟩, fun v q => ?_, fun u r => ?_⟩
        · rw [fX8_drinks, rq_is w q hs, obp_some, if_neg (by decide), rg_in hm1 hm, Option.bind_some, if_neg (by decide), at_1 (by omega), Option.bind_some, if_neg (in66 (by omega)), nJ_clamp (by omega), rr_c q s hs]
          dsimp only [bd]
          rw [nJ_add, if_neg hle, ref_refuses, obp_some]
          rfl
        · rw [fX7_rum, xq_has w r hs, obp_some]
          dsimp only [bd, peta]
          rw [if_neg (by decide), xg_in hm1 hm, Option.bind_some, if_neg (by decide), isR_no (by decide) (hr _ r) (hd _ r), obp_some, if_neg (by decide)]
    · refine ⟨Oc.bad (-100002), by decide, fun u r => ?_, fun v q => ?_, fun u r => ?_⟩
      · rw [ir_4, xq_has w r hs, obp_some, if_neg (by decide), xg_out hx, Option.bind_some, if_pos l32_0.symm]; rfl
      · rw [fX8_drinks, rq_is w q hs, obp_some, if_neg (by decide), rg_out hx, Option.bind_some, if_pos l32_0.symm]; rfl
      · rw [fX7_rum, xq_has w r hs, obp_some]
        dsimp only [bd, peta]
        rw [if_neg (by decide), xg_out hx, Option.bind_some, if_pos l32_0.symm]
  · refine ⟨Oc.bad (-100001), by decide, fun u r => ?_, fun v q => ?_, fun u r => ?_⟩
    · rw [ir_4, xq_hasnt w r hy, obp_some, if_pos l32_0.symm]; rfl
    · rw [fX8_drinks, rq_isnt w q hy, obp_some, if_pos l32_0.symm]; rfl
    · rw [fX7_rum, xq_hasnt w r hy, obp_some]
      dsimp only [bd, peta]
      rw [if_pos l32_0.symm]
theorem cm_0 (w : WF B a) (x : Int32) : ∃ o, OC B a 0 0 x (fX8_comes x) (fX7_sail x) o := by
  have hn := wf_n w
  have l8 : (8 : Int32) = nI 8 := rfl
  rcases i32_cases x 65536 (by omega) with ⟨m, hm, rfl⟩ | hx
  · have hi : ∀ u, RX a u → fX5_isInRange 0 0 (nI m) u = some (nI 1, u) := fun u r => by
      rw [ir_0, xm_in hm, Option.bind_some, if_pos (by decide)]
    by_cases e : a 0 0 < 8
    · have hlt : nI (a 0 0) < (8 : Int32) := by rw [l8, nJ_lt (by omega) (by omega)]; exact e
      have hne : ¬ nI (a 0 0) = (8 : Int32) := by rw [l8, nJ_eq (by omega) (by omega)]; omega
      have hr : ∀ u, RX a u → fX5_reasonAgainst 0 0 (nI m) u = some (nI 0, u) := fun u r => by
        rw [ra_0, rx_n r, if_pos hlt]; rfl
      refine ⟨Oc.ok (nI (a 0 0)) (comM a m), wf_com w hm e, fun u r => ⟨hi u r, hr u r, _, ?_, rx_com r m⟩, fun v q => ⟨up2 (up2 (up2 (up2 v 1 (12 + 3 * a 0 0) (nI m)) 1 (12 + 3 * a 0 0 + 1) (nI 0)) 1 (12 + 3 * a 0 0 + 2) (nI 0)) 1 0 (nI (a 0 0 + 1)), ?_, ?_, fun b hb => ?_⟩, fun u r u' hc r' => ?_⟩
      · rw [co_0]
        simp (disch := omega) only [fX5_addSailor, rx_n r, up2_o, lits, nJ_le, nJ_lt, nJ_eq, nJ_clamp, nJ_add, nI_mul, nI_sub, nI_and, nI_or, nI_xor, Nat.add_zero, Nat.not_lt_zero, leF, leT, ltF, ltT, eqF, eqT, bd, obp_some, Option.bind_some, reduceIte, reduceCtorEq, or_self, or_true, true_or, or_false, false_or]
      · rw [fX8_comes, rm_in hm, Option.bind_some, if_neg (by decide), rr_n q]
        dsimp only [bd]
        rw [if_neg hne, at_0 (by omega), Option.bind_some, if_neg (in66 (by omega)), at_1 (by omega), Option.bind_some, if_neg (in66 (by omega)), at_2 (by omega), Option.bind_some, if_neg (in66 (by omega)), nJ_clamp (by omega), nJ_clamp (by omega), nJ_clamp (by omega)]
        have : up2 (up2 (up2 v 1 (12 + 3 * a 0 0) (nI m)) 1 (12 + 3 * a 0 0 + 1) 0) 1 (12 + 3 * a 0 0 + 2) 0 1 0 = nI (a 0 0) := by
          rw [up2_r, upd_ne (by omega), up2_r, upd_ne (by omega), up2_r, upd_ne (by omega)]; exact rr_n q
        rw [this, l32_1, nJ_add]
        rfl
      · exact rr_com e q m
      · rw [up1o _ _ _ _ hb, up1o _ _ _ _ hb, up1o _ _ _ _ hb, up1o _ _ _ _ hb]
      · rw [fX7_sail, xm_in hm, Option.bind_some, if_neg (by decide), isR_ok (hr _ r), obp_some, if_pos l32_0.symm, hc, Option.bind_some, rx_n r']
        show some (nI (a 0 0 + 1) - 1, u') = _
        rw [l32_1, nI_sub (by omega)]
        rfl
    · have e8 : a 0 0 = 8 := by omega
      have hlt : ¬ nI (a 0 0) < (8 : Int32) := by rw [l8, nJ_lt (by omega) (by omega)]; exact e
      have heq : nI (a 0 0) = (8 : Int32) := by rw [e8]; rfl
      have hr : ∀ u, RX a u → fX5_reasonAgainst 0 0 (nI m) u = some (nI 1, u) := fun u r => by
        rw [ra_0, rx_n r, if_neg hlt]; rfl
      have hd : ∀ u, RX a u → fX5_detailOf (nI 1) 0 (nI m) u = some (nI 8, u) := fun u r => by
        rw [dt_1, rx_n r, e8]
      refine ⟨Oc.no (nI 1) (nI 8), by decide, fun u r => ⟨hi u r, hr u r, hd u r⟩, fun v q => ?_, fun u r => ?_⟩
      · rw [fX8_comes, rm_in hm, Option.bind_some, if_neg (by decide), rr_n q]
        dsimp only [bd]
        rw [if_pos heq, ref_refuses, obp_some]
        rfl
      · rw [fX7_sail, xm_in hm, Option.bind_some, if_neg (by decide), isR_no (by decide) (hr _ r) (hd _ r), obp_some, if_neg (by decide)]
  · refine ⟨Oc.bad (-100002), by decide, fun u r => ?_, fun v q => ?_, fun u r => ?_⟩
    · rw [ir_0, xm_out hx, Option.bind_some, if_pos (by decide)]
    · rw [fX8_comes, rm_out hx, Option.bind_some, if_pos l32_0.symm]; rfl
    · rw [fX7_sail, xm_out hx, Option.bind_some, if_pos l32_0.symm]
theorem cm_1 (w : WF B a) (y : Int32) : ∃ o, OC B a 1 y 0 (fX8_goes y) (fX7_shore y) o := by
  have hn := wf_n w
  rcases i32_cases y (a 0 0) (by omega) with ⟨s, hs, rfl⟩ | hy
  · have hi : ∀ u, RX a u → fX5_isInRange 1 (nI s) 0 u = some (nI 1, u) := fun u r => by
      rw [ir_1, xq_has w r hs, obp_some, if_pos (by decide)]
    refine ⟨Oc.ok (nI (a 0 0 - 1)) (goM a s), wf_go w hs, fun u r => ⟨hi u r, ra_1 _ _ _, ?_⟩, fun v q => rq_goes w hs q, fun u r u' hc r' => ?_⟩
    · obtain ⟨u', e, r'⟩ := xq_remove w hs r
      refine ⟨u', ?_, r'⟩
      rw [co_1, e, Option.bind_some]
    · rw [fX7_shore, xq_has w r hs, obp_some]
      dsimp only [bd, peta]
      rw [if_neg (by decide), hc, Option.bind_some, rx_n r']
      rfl
  · refine ⟨Oc.bad (-100001), by decide, fun u r => ?_, fun v q => ?_, fun u r => ?_⟩
    · rw [ir_1, xq_hasnt w r hy, obp_some, if_pos (by decide)]
    · rw [fX8_goes, rq_isnt w q hy, obp_some, if_pos l32_0.symm]; rfl
    · rw [fX7_shore, xq_hasnt w r hy, obp_some]
      dsimp only [bd, peta]
      rw [if_pos l32_0.symm]
theorem cm_2 (w : WF B a) (y : Int32) : ∃ o, OC B a 2 y 0 (fX8_takes y) (fX7_sight y) o := by
  have hn := wf_n w
  rcases i32_cases y (a 0 0) (by omega) with ⟨s, hs, rfl⟩ | hy
  · have hi : ∀ u, RX a u → fX5_isInRange 2 (nI s) 0 u = some (nI 1, u) := fun u r => by
      rw [ir_2, xq_has w r hs, obp_some, if_pos (by decide)]
    rcases sg_dec a s with e | e
    · have hr : ∀ u, RX a u → fX5_reasonAgainst 2 (nI s) 0 u = some (nI 4, u) := fun u r => by
        rw [ra_2, (xq_sightedNow w r hs).1 e, obp_some, if_neg (by decide)]; rfl
      refine ⟨Oc.no (nI 4) (nI s), by decide, fun u r => ⟨hi u r, hr u r, dt_4 _ _ _⟩, fun v q => (rq_takes w q hs).1 e, fun u r => ?_⟩
      rw [fX7_sight, xq_has w r hs, obp_some]
      dsimp only [bd, peta]
      rw [if_neg (by decide), isR_no (by decide) (hr _ r) (dt_4 _ _ _), obp_some, if_neg (by decide)]
    · have hr : ∀ u, RX a u → fX5_reasonAgainst 2 (nI s) 0 u = some (nI 0, u) := fun u r => by
        rw [ra_2, (xq_sightedNow w r hs).2 e, obp_some, if_pos l32_0.symm]; rfl
      refine ⟨Oc.ok (nI (takL a)) (takM a s), wf_tak w hs, fun u r => ⟨hi u r, hr u r, ?_⟩, fun v q => (rq_takes w q hs).2 e, fun u r u' hc r' => ?_⟩
      · obtain ⟨u', e, r'⟩ := xq_addSight w r hs
        refine ⟨u', ?_, r'⟩
        rw [cro_2, e, Option.bind_some]
      · rw [fX7_sight, xq_has w r hs, obp_some]
        dsimp only [bd, peta]
        rw [if_neg (by decide), isR_ok (hr _ r), obp_some, if_pos l32_0.symm, hc, Option.bind_some, rx_l r']
        rfl
  · refine ⟨Oc.bad (-100001), by decide, fun u r => ?_, fun v q => ?_, fun u r => ?_⟩
    · rw [ir_2, xq_hasnt w r hy, obp_some, if_pos (by decide)]
    · rw [fX8_takes, rq_isnt w q hy, obp_some, if_pos l32_0.symm]; rfl
    · rw [fX7_sight, xq_hasnt w r hy, obp_some]
      dsimp only [bd, peta]
      rw [if_pos l32_0.symm]
theorem cm_9 (w : WF B a) (hB : B + 1 < 1000000000) : ∃ o, OC (B + 1) a 9 0 0 fX8_passes fX7_hour o := by
  refine ⟨Oc.ok (nI (sumN (a 0 0) (fun i => a 2 i - 1))) (passM a), wf_pass w hB, fun u r => ⟨ir_9 _ _ _, ra_9 _ _ _, ?_⟩, fun v q => rq_passes w hB q, fun u r u' hc r' => ?_⟩
  · obtain ⟨u', e, r'⟩ := xq_pass w r
    refine ⟨u', ?_, r'⟩
    rw [co_9, e, Option.bind_some]
  · have es : sumN (passM a 0 0) (passM a 2) = sumN (a 0 0) (fun i => a 2 i - 1) := sumN_congr (N := a 0 0) (fun i hi => if_pos hi)
    rw [fX7_hour, hc, Option.bind_some, xq_allCups (wf_pass w hB) r', obp_some, es]
    rfl
end
