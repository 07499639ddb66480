theorem rt_eq {t : vX} {v v' : vS} (r : RT t v) (h6 : v' 6 = v 6) (h0 : v' 0 18 = v 0 18) : RT t v' := by
  obtain ⟨n, h1, h2, h3, h4⟩ := r
  refine ⟨n, h1, h2, by rw [h0]; exact h3, fun i hi => ?_⟩
  rw [h6]
  exact h4 i hi
theorem rn_eq {l v v' : vS} (r : RN l v) (h7 : v' 7 = v 7) (h0 : v' 0 21 = v 0 21) : RN l v' := by
  obtain ⟨n, h1, h2, h3, h4⟩ := r
  refine ⟨n, h1, h2, by rw [h0]; exact h3, fun i hi => ?_⟩
  rw [h7]
  exact h4 i hi
theorem rv_eq {B : Nat} {u : vZ} {v v' : vS} (r : RV B u v) (h3 : v' 3 = v 3) (h0 : v' 0 7 = v 0 7) : RV B u v' := by
  unfold RV at r ⊢
  rw [h3, h0]
  exact r
theorem rf_eq {u : vZ} {v v' : vS} (r : RF u v) (h0 : v' 0 6 = v 0 6) : RF u v' := by
  unfold RF at r ⊢
  rw [h0]
  exact r
theorem rc_eq {v v' : vS} (r : RC v) (h9 : v' 9 = v 9) (h10 : v' 10 = v 10) : RC v' := by
  unfold RC at r ⊢
  rw [h9, h10]
  exact r
theorem re_eq {p v v' : vS} (r : RE p v) (h2 : v' 0 2 = v 0 2) (h3 : v' 0 3 = v 0 3) (h4 : v' 0 4 = v 0 4) (h5 : v' 0 5 = v 0 5) : RE p v' := by
  unfold RE at r ⊢
  rw [h2, h3, h4, h5]
  exact r
theorem rhr_eq {B n : Nat} {hs : Nat → mA} {v v' : vS} (r : RHr B n hs v) (h5 : v' 5 = v 5) (h1 : v' 0 1 = v 0 1) : RHr B n hs v' := by
  unfold RHr at r ⊢
  rw [h5, h1]
  exact r
theorem frm_rest {B : Nat} {u : vZ} {v v' : vS} (f : FRM v v') (h1 : RV B u v) (h2 : RT u.2.2.2.2.2.1 v) (h3 : RN u.2.2.2.2.2.2 v) (h4 : RF u v) (h5 : RC v) : RV B u v' ∧ RT u.2.2.2.2.2.1 v' ∧ RN u.2.2.2.2.2.2 v' ∧ RF u v' ∧ RC v' := by
  obtain ⟨f3, f6, f7, f9, f10, f0⟩ := f
  exact ⟨rv_eq h1 f3 (f0 _ (by omega)), rt_eq h2 f6 (f0 _ (by omega)), rn_eq h3 f7 (f0 _ (by omega)), rf_eq h4 (f0 _ (by omega)), rc_eq h5 f9 f10⟩
theorem rl_same {B : Nat} {a : mA} {u : vZ} {v v' : vS} (R : RLs B a u v) (h1 : v' 1 = v 1) (h5 : v' 5 = v 5) (h0 : ∀ k, 1 ≤ k → k < 6 → v' 0 k = v 0 k) (f : FRM v v') : RLs B a u v' := by
  obtain ⟨⟨w, r, q⟩, ⟨n, hs, c1, c2⟩, g1, g2, g3, g4, g5, g6⟩ := R
  obtain ⟨k1, k2, k3, k4, k5⟩ := frm_rest f g1 g3 g4 g5 g6
  exact ⟨⟨w, r, by rw [h1]; exact q⟩, ⟨n, hs, c1, rhr_eq c2 h5 (h0 _ (by omega) (by omega))⟩, k1, re_eq g2 (h0 _ (by omega) (by omega)) (h0 _ (by omega) (by omega)) (h0 _ (by omega) (by omega)) (h0 _ (by omega) (by omega)), k2, k3, k4, k5⟩
/-- the state at the begin of a call -/
def bgS (v : vS) : vS := cpS (up2 v 0 0 (nI 0)) 2 1 66
theorem bg_1 (v : vS) : bgS v 1 = v 1 := rfl
theorem bg_b (v : vS) {b : Nat} (h0 : b ≠ 0) (h2 : b ≠ 2) : bgS v b = v b := by
  unfold bgS cpS
  rw [if_neg h2, up2_o h0]
theorem bg_00 (v : vS) : bgS v 0 0 = nI 0 := rfl
theorem bg_0 (v : vS) {k : Nat} (h : k ≠ 0) : bgS v 0 k = v 0 k := by
  show up2 v 0 0 (nI 0) 0 k = _
  rw [up2_r, upd_ne h]
theorem bg_2 (v : vS) {k : Nat} (h : k < 66) : bgS v 2 k = v 1 k := by
  show (if k < 66 then up2 v 0 0 (nI 0) 1 k else _) = _
  rw [if_pos h]
  rfl
theorem back_1 {v2 : vS} {v : vS} (h1 : v2 1 = v 1) (h2 : ∀ k, k < 66 → v2 2 k = v 1 k) : cpS v2 1 2 66 1 = v 1 := by
  funext k
  show (if k < 66 then v2 2 k else v2 1 k) = _
  by_cases e : k < 66
  · rw [if_pos e, h2 k e]
  · rw [if_neg e, h1]
theorem back_b {v2 : vS} {b : Nat} (h : b ≠ 1) : cpS v2 1 2 66 b = v2 b := if_neg h
theorem push_hist {B n : Nat} {hs : Nat → mA} {a : mA} {v v' v2 : vS} (hn : n ≤ 8) (w : WF B a) (q : RR a (v 1)) (R : RHr B n hs v) (g5 : v2 5 = v 5) (g2 : ∀ k, k < 66 → v2 2 k = v 1 k) (h1 : v' 0 1 = nI (pushN n)) (h2 : ∀ k, k < 66 → v' 5 (66 * (pushN n - 1) + k) = v2 2 k) (h3 : ∀ j k, j < pushN n - 1 → k < 66 → v' 5 (66 * j + k) = if n = 8 then v2 5 (66 * (j + 1) + k) else v2 5 (66 * j + k)) : RHr B (pushN n) (pushH a hs) v' := by
  have hw := wf_n w
  have hw2 := wf_l w
  have hp1 : n = 8 → pushN n = 8 := fun e => if_pos e
  have hp2 : n ≠ 8 → pushN n = n + 1 := fun e => if_neg e
  refine ⟨h1, fun j hj => ?_⟩
  unfold pushH
  by_cases e : j = 0
  · rw [if_pos e]
    refine ⟨w, rr_congr hw hw2 (fun k hk => ?_) q⟩
    try dsimp only
    rw [e, Nat.sub_zero, h2 k hk, g2 k hk]
  · rw [if_neg e]
    have hj2 : j - 1 < n := by
      by_cases e8 : n = 8
      · have := hp1 e8; omega
      · have := hp2 e8; omega
    obtain ⟨w1, q1⟩ := R.2 (j - 1) hj2
    refine ⟨w1, rr_congr (wf_n w1) (wf_l w1) (fun k hk => ?_) q1⟩
    try dsimp only
    rw [h3 (pushN n - 1 - j) k (by omega) hk, g5]
    by_cases e8 : n = 8
    · have := hp1 e8
      rw [if_pos e8, show pushN n - 1 - j + 1 = n - 1 - (j - 1) from by omega]
    · have := hp2 e8
      rw [if_neg e8, show pushN n - 1 - j = n - 1 - (j - 1) from by omega]
theorem opW_bad {B : Nat} {a : mA} {u : vZ} {v : vS} {c : vS → Option (Int32 × vS)} {k : Int32} (R : RLs B a u v) (hk : k ≠ 0) (hc : ∀ v, RR a (v 1) → c v = some (k, up2 v 0 0 k)) : ∃ v', opW c v = some (k, v') ∧ RLs B a u v' := by
  have q : RR a (bgS v 1) := R.1.2.2
  refine ⟨cpS (up2 (bgS v) 0 0 k) 1 2 66, ?_, ?_⟩
  · show (fX8_begins v).bind _ = _
    rw [rl_begins, Option.bind_some]
    show obp (c (bgS v)) _ = _
    rw [hc _ q, obp_some, ends_fail k (v := up2 (bgS v) 0 0 k) hk, obp_some]
    rfl
  · have kb : ∀ b, b ≠ 0 → b ≠ 1 → b ≠ 2 → cpS (up2 (bgS v) 0 0 k) 1 2 66 b = v b := by
      intro b h0 h1 h2
      rw [back_b h1, up2_o h0, bg_b v h0 h2]
    have k0 : ∀ j, j ≠ 0 → cpS (up2 (bgS v) 0 0 k) 1 2 66 0 j = v 0 j := by
      intro j hj
      rw [back_b (by omega), up2_r, upd_ne hj, bg_0 v hj]
    exact rl_same R (back_1 rfl (fun j hj => bg_2 v hj)) (kb 5 (by omega) (by omega) (by omega)) (fun j h1 h2 => k0 j (by omega)) ⟨kb 3 (by omega) (by omega) (by omega), kb 6 (by omega) (by omega) (by omega), kb 7 (by omega) (by omega) (by omega), kb 9 (by omega) (by omega) (by omega), kb 10 (by omega) (by omega) (by omega), fun j hj => k0 j (by omega)⟩
theorem opW_no {B : Nat} {a : mA} {u : vZ} {v : vS} {c : vS → Option (Int32 × vS)} {y d : Int32} (R : RLs B a u v) (hy : y ≠ 0) (hc : ∀ v, RR a (v 1) → c v = some (-100005, rfS v y d)) : ∃ v', opW c v = some (-100005, v') ∧ RLs B a (zKeep u y d) v' := by
  have q : RR a (bgS v 1) := R.1.2.2
  have r0 : ∀ j, j ≠ 0 → j ≠ 2 → j ≠ 3 → j ≠ 4 → rfS (bgS v) y d 0 j = v 0 j := by
    intro j h0 h2 h3 h4
    show upd (upd (upd (upd (bgS v 0) 2 y) 3 d) 4 0) 0 (-100005) j = _
    rw [upd_ne h0, upd_ne h4, upd_ne h3, upd_ne h2, bg_0 v h0]
  have rb : ∀ b, b ≠ 0 → rfS (bgS v) y d b = bgS v b := by
    intro b h0
    unfold rfS
    rw [up2_o h0, up2_o h0, up2_o h0, up2_o h0]
  refine ⟨cpS (rfS (bgS v) y d) 1 2 66, ?_, ?_⟩
  · show (fX8_begins v).bind _ = _
    rw [rl_begins, Option.bind_some]
    show obp (c (bgS v)) _ = _
    rw [hc _ q, obp_some, ends_fail _ (v := rfS (bgS v) y d) (show (-100005 : Int32) ≠ 0 by decide), obp_some]
    rfl
  · have kb : ∀ b, b ≠ 0 → b ≠ 1 → b ≠ 2 → cpS (rfS (bgS v) y d) 1 2 66 b = v b := by
      intro b h0 h1 h2
      rw [back_b h1, rb b h0, bg_b v h0 h2]
    have k0 : ∀ j, j ≠ 0 → j ≠ 2 → j ≠ 3 → j ≠ 4 → cpS (rfS (bgS v) y d) 1 2 66 0 j = v 0 j := by
      intro j h0 h2 h3 h4
      rw [back_b (by omega), r0 j h0 h2 h3 h4]
    obtain ⟨⟨w, r, q⟩, ⟨n, hs, c1, c2⟩, g1, g2, g3, g4, g5, g6⟩ := R
    have f : FRM v (cpS (rfS (bgS v) y d) 1 2 66) := ⟨kb 3 (by omega) (by omega) (by omega), kb 6 (by omega) (by omega) (by omega), kb 7 (by omega) (by omega) (by omega), kb 9 (by omega) (by omega) (by omega), kb 10 (by omega) (by omega) (by omega), fun j hj => k0 j (by omega) (by omega) (by omega) (by omega)⟩
    obtain ⟨k1, k2, k3, k4, k5⟩ := frm_rest f g1 g3 g4 g5 g6
    have e1 : cpS (rfS (bgS v) y d) 1 2 66 1 = v 1 := back_1 rfl (fun j hj => bg_2 v hj)
    refine ⟨⟨w, r, by rw [e1]; exact q⟩, ⟨n, hs, c1, rhr_eq c2 (kb 5 (by omega) (by omega) (by omega)) (k0 1 (by omega) (by omega) (by omega) (by omega))⟩, k1, Or.inr (Or.inl ⟨rfl, hy, rfl, rfl, rfl⟩), k2, k3, k4, k5⟩
theorem opW_ok {B B' : Nat} {a a' : mA} {u : vZ} {v : vS} {c : vS → Option (Int32 × vS)} {f : Nat} {y x ans : Int32} (R : RLs B a u v) (hB : B ≤ B') (hB' : B' < 1000000000) (w' : WF B' a') (hx : ∃ u', fX5_carryOut f y x u.2.1.1 = some u' ∧ RX a' u') (hc : ∀ v, RR a (v 1) → ∃ v', c v = some (ans, v') ∧ RR a' (v' 1) ∧ ∀ b, b ≠ 1 → v' b = v b) : ∃ u' v', fX7_change f y x u = some u' ∧ opW c v = some (ans, v') ∧ RLs B' a' u' v' := by
  obtain ⟨⟨w, r, q⟩, ⟨n, hs, c1, c2⟩, g1, g2, g3, g4, g5, g6⟩ := R
  obtain ⟨s', es, rs⟩ := hx
  obtain ⟨h', eh, rh⟩ := rem_ok (wf_n w) (wf_l w) r c1
  have q0 : RR a (bgS v 1) := q
  obtain ⟨v2, e2, q2, o2⟩ := hc _ q0
  have e00 : v2 0 0 = 0 := by rw [o2 0 (by omega)]; rfl
  have e01 : v2 0 1 = nI n := by rw [o2 0 (by omega), bg_0 v (by omega)]; exact c2.1
  obtain ⟨v', e3, p1, p2, p3, p4, p5⟩ := ends_ok ans c1.1 e00 e01
  have kb : ∀ b, b ≠ 0 → b ≠ 1 → b ≠ 2 → b ≠ 5 → v' b = v b := by
    intro b h0 h1 h2 h5
    rw [p1 b h0 h5, o2 b h1, bg_b v h0 h2]
  have k0 : ∀ j, j ≠ 0 → j ≠ 1 → v' 0 j = v 0 j := by
    intro j h0 h1
    rw [p2 j h1, o2 0 (by omega), bg_0 v h0]
  have fr : FRM v v' := ⟨kb 3 (by omega) (by omega) (by omega) (by omega), kb 6 (by omega) (by omega) (by omega) (by omega), kb 7 (by omega) (by omega) (by omega) (by omega), kb 9 (by omega) (by omega) (by omega) (by omega), kb 10 (by omega) (by omega) (by omega) (by omega), fun j hj => k0 j (by omega) (by omega)⟩
  obtain ⟨k1, k2, k3, k4, k5⟩ := frm_rest fr g1 g3 g4 g5 g6
  refine ⟨(u.1, ((s', h'), u.2.2)), v', ?_, ?_, ⟨w', rs, ?_⟩, ⟨pushN n, pushH a hs, rh, ?_⟩, rv_up k1 hB hB', re_eq g2 (k0 _ (by omega) (by omega)) (k0 _ (by omega) (by omega)) (k0 _ (by omega) (by omega)) (k0 _ (by omega) (by omega)), k2, k3, k4, k5⟩
  · rw [fX7_change, show u.2.1 = (u.2.1.1, u.2.1.2) from rfl, eh, Option.bind_some]
    dsimp only [bd]
    rw [es, Option.bind_some]
  · show (fX8_begins v).bind _ = _
    rw [rl_begins, Option.bind_some]
    show obp (c (bgS v)) _ = _
    rw [e2, obp_some, e3, obp_some]
  · rw [p1 1 (by omega) (by omega)]
    exact q2
  · have e5 : v2 5 = v 5 := by rw [o2 5 (by omega), bg_b v (by omega) (by omega)]
    exact rhr_up (push_hist c1.1 w q c2 e5 (fun k hk => by rw [o2 2 (by omega), bg_2 v hk]) p3 p4 p5) hB hB'
/-- a command that is called alike on both sides -/
theorem op_sim {B B' : Nat} {a : mA} {u : vZ} {v : vS} {c : vS → Option (Int32 × vS)} {g : vZ → Option (Int32 × vZ)} {f : Nat} {y x : Int32} (R : RLs B a u v) (hB : B ≤ B') (hB' : B' < 1000000000) (ho : ∃ o, OC B' a f y x c g o) : ∃ r a' u' v', g u = some (r, u') ∧ opW c v = some (r, v') ∧ RLs B' a' u' v' := by
  have up : ∀ {a u v}, RLs B a u v → RLs B' a u v := by
    intro a u v ⟨⟨w, r, q⟩, ⟨n, hs, c1, c2⟩, g1, g2, g3, g4, g5, g6⟩
    exact ⟨⟨wf_up w hB hB', r, q⟩, ⟨n, hs, c1, rhr_up c2 hB hB'⟩, rv_up g1 hB hB', g2, g3, g4, g5, g6⟩
  obtain ⟨o, ho⟩ := ho
  cases o using Oc.cs with
  | bad k =>
    obtain ⟨h1, h2, h3, h4⟩ := ho
    obtain ⟨v', e, R'⟩ := opW_bad R h1.1 h3
    exact ⟨k, a, u, v', h4 u R.1.2.1, e, up R'⟩
  | no y d =>
    obtain ⟨h1, h2, h3, h4⟩ := ho
    obtain ⟨v', e, R'⟩ := opW_no R h1 h3
    exact ⟨-100005, a, _, v', h4 u R.1.2.1, e, up R'⟩
  | ok ans a' =>
    obtain ⟨h1, h2, h3, h4⟩ := ho
    obtain ⟨u', v', e1, e2, R'⟩ := opW_ok R hB hB' h1 (h2 u.2.1.1 R.1.2.1).2.2 h3
    exact ⟨ans, a', u', v', h4 u R.1.2.1 u' e1 R'.1.2.1, e2, R'⟩
