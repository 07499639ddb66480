theorem nI_dec {k : Nat} (h : 1 ≤ k) : nI k + -nI 1 = nI (k - 1) := by
  rw [nI_iI, nI_iI, iI_neg, iI_add, nI_iI]
  congr 1
  omega
def takL (a : mA) : Nat := if a 0 3 < 10 then a 0 3 + 1 else 10
def takM (a : mA) (s : Nat) : mA := fun r => if r = 0 then (fun k => if k = 3 then takL a else if k = 4 then a 0 4 + 1 else a 0 k) else if r = 5 then (fun k => if k = 0 then s else a 5 (k - 1)) else if r = 6 then (fun k => if k = 0 then a 0 1 else a 6 (k - 1)) else if r = 7 then (fun k => if k = 0 then rdR a s else a 7 (k - 1)) else a r
theorem takL_b {B : Nat} {a : mA} (w : WF B a) : takL a ≤ 10 ∧ 1 ≤ takL a ∧ takL a ≤ a 0 3 + 1 := by
  have := wf_l w
  unfold takL
  split <;> omega
theorem wf_tak {B : Nat} {a : mA} (w : WF B a) {s : Nat} (hs : s < a 0 0) : WF B (takM a s) := by
  have hb := takL_b w
  have hr := rdR_lt w hs
  have hg := wf_g w
  have ho := wf_o w
  refine ⟨⟨w.1.1, hb.1, w.1.2.2.1, w.1.2.2.2⟩, w.2.1, w.2.2.1, fun k hk => ?_, fun k hk => ?_⟩
  · have hk2 : k < takL a := hk
    show (if k = 0 then s else a 5 (k - 1)) < a 0 0 ∧ (if k = 0 then a 0 1 else a 6 (k - 1)) ≤ a 0 1 ∧ (if k = 0 then rdR a s else a 7 (k - 1)) < 88
    by_cases e : k = 0
    · rw [if_pos e, if_pos e, if_pos e]
      exact ⟨hs, Nat.le_refl _, hr⟩
    · rw [if_neg e, if_neg e, if_neg e]
      exact hg (k - 1) (by omega)
  · have hk2 : k + 1 < takL a := hk
    show (if k + 1 = 0 then a 0 1 else a 6 (k + 1 - 1)) ≤ (if k = 0 then a 0 1 else a 6 (k - 1))
    rw [if_neg (by omega)]
    by_cases e : k = 0
    · rw [if_pos e]
      exact (hg _ (by omega)).2.1
    · rw [if_neg e]
      have := ho (k - 1) (by omega)
      rw [show k - 1 + 1 = k + 1 - 1 from by omega] at this
      exact this
section
variable {B : Nat} {a : mA}
theorem xq_addLoop (w : WF B a) {u1 : vH} {s : Nat} (hs : s < a 0 0) (r : RXs a u1) (T : Nat) (hT : T ≤ 9) : ∃ u', fX5_addSight_26 vF (nI s) (nI T) u1 = some u' ∧ (u'.1 0 11 = u1.1 0 11 + nI 1 ∧ (∀ k, k ≠ 11 → u'.1 0 k = u1.1 0 k) ∧ u'.1 1 = u1.1 1 ∧ u'.1 2 = u1.1 2 ∧ u'.1 3 = u1.1 3 ∧ u'.1 4 = u1.1 4) ∧ (u'.1 5 0 = nI s ∧ u'.1 6 0 = nI (a 0 1) ∧ u'.2 0 = fe (rdR a s)) ∧ (∀ j, 0 < j → j ≤ T → u'.1 5 j = u1.1 5 (j - 1) ∧ u'.1 6 j = u1.1 6 (j - 1) ∧ u'.2 j = u1.2 (j - 1)) := by
  have hn := wf_n w
  have h := loop_rel (F := fun n i (st : vH) => fX5_addSight_26 n (nI s) (nI (T - i)) st) (fun i st => (∀ b, b ≠ 5 → b ≠ 6 → st.1 b = u1.1 b) ∧ (∀ j, T - i < j → j ≤ T → st.1 5 j = u1.1 5 (j - 1) ∧ st.1 6 j = u1.1 6 (j - 1) ∧ st.2 j = u1.2 (j - 1)) ∧ (∀ j, j ≤ T - i → st.1 5 j = u1.1 5 j ∧ st.1 6 j = u1.1 6 j ∧ st.2 j = u1.2 j)) (fun u' => (u'.1 0 11 = u1.1 0 11 + nI 1 ∧ (∀ k, k ≠ 11 → u'.1 0 k = u1.1 0 k) ∧ u'.1 1 = u1.1 1 ∧ u'.1 2 = u1.1 2 ∧ u'.1 3 = u1.1 3 ∧ u'.1 4 = u1.1 4) ∧ (u'.1 5 0 = nI s ∧ u'.1 6 0 = nI (a 0 1) ∧ u'.2 0 = fe (rdR a s)) ∧ (∀ j, 0 < j → j ≤ T → u'.1 5 j = u1.1 5 (j - 1) ∧ u'.1 6 j = u1.1 6 (j - 1) ∧ u'.2 j = u1.2 (j - 1))) T 1 (fun n i st hi hP => ?_) (fun n st hn hP => ?_) vF 0 u1 (by omega) (by unfold vF; omega) ⟨fun b _ _ => rfl, fun j h1 h2 => by omega, fun j _ => ⟨rfl, rfl, rfl⟩⟩
  · exact h
  · obtain ⟨p1, p2, p3⟩ := hP
    refine ⟨(up2 (up2 st.1 5 (T - i) (st.1 5 (T - i - 1))) 6 (T - i) (up2 st.1 5 (T - i) (st.1 5 (T - i - 1)) 6 (T - i - 1)), vf_upd st.2 (T - i) (st.2 (T - i - 1))), ?_, ?_⟩
    · have e : T - (i + 1) = T - i - 1 := by omega
      rw [e]
      simp (disch := omega) only [fX5_addSight_26, nI_dec, lits, nJ_le, nJ_lt, nJ_eq, nJ_clamp, nJ_add, nI_mul, nI_sub, nI_and, nI_or, nI_xor, Nat.add_zero, Nat.not_lt_zero, leF, leT, ltF, ltT, eqF, eqT, bd, obp_some, Option.bind_some, reduceIte, reduceCtorEq, or_self, or_true, true_or, or_false, false_or]
    · refine ⟨fun b h5 h6 => ?_, fun j h1 h2 => ?_, fun j h1 => ?_⟩
      · show up2 (up2 st.1 5 _ _) 6 _ _ b = _
        unfold up2
        rw [if_neg h6, if_neg h5]
        exact p1 b h5 h6
      · show upd (st.1 5) (T - i) (st.1 5 (T - i - 1)) j = _ ∧ upd (st.1 6) (T - i) (st.1 6 (T - i - 1)) j = _ ∧ vf_upd st.2 (T - i) (st.2 (T - i - 1)) j = _
        unfold upd vf_upd
        by_cases e : j = T - i
        · rw [if_pos e, if_pos e, if_pos e, e]
          exact p3 _ (by omega)
        · rw [if_neg e, if_neg e, if_neg e]
          exact p2 j (by omega) h2
      · show upd (st.1 5) (T - i) (st.1 5 (T - i - 1)) j = _ ∧ upd (st.1 6) (T - i) (st.1 6 (T - i - 1)) j = _ ∧ vf_upd st.2 (T - i) (st.2 (T - i - 1)) j = _
        unfold upd vf_upd
        rw [if_neg (by omega), if_neg (by omega), if_neg (by omega)]
        exact p3 j (by omega)
  · obtain ⟨p1, p2, p3⟩ := hP
    obtain ⟨n, rfl⟩ : ∃ m, n = m + 1 := ⟨n - 1, by omega⟩
    have q0 := p1 0 (by omega) (by omega)
    have q1 := p1 1 (by omega) (by omega)
    have q2 := p1 2 (by omega) (by omega)
    have q3 := p1 3 (by omega) (by omega)
    have q4 := p1 4 (by omega) (by omega)
    have rs : RXs a (up2 (up2 st.1 5 0 (nI s)) 6 0 (up2 st.1 5 0 (nI s) 0 6), st.2) := by
      refine ⟨?_, ?_, ?_, ?_, ?_, ?_⟩
      · show st.1 0 5 = _
        rw [q0]; exact xs_e r
      · show st.1 0 6 = _
        rw [q0]; exact xs_h r
      · show ∀ i, i < a 0 0 → st.1 1 i = _
        rw [q1]; exact xs_m r
      · show ∀ i, i < a 0 0 → st.1 2 i = _
        rw [q2]; exact xs_c r
      · show ∀ i, i < a 0 0 → st.1 3 i = _
        rw [q3]; exact xs_w r
      · show ∀ i, i < 4 → st.1 4 i = _
        rw [q4]; exact xs_z r
    have e1 := xz_reading w rs hs
    have e0 : T - T = 0 := by omega
    refine ⟨_, by
      show fX5_addSight_26 (n + 1) (nI s) (nI (T - T)) st = _
      rw [e0, fX5_addSight_26, if_pos (by decide)]
      dsimp only [bd]
      rw [e1, obp_some], ?_⟩
    refine ⟨⟨?_, fun k hk => ?_, q1, q2, q3, q4⟩, ⟨rfl, ?_, rfl⟩, fun j h1 h2 => ?_⟩
    · show upd (st.1 0) 11 _ 11 = _
      rw [upd_eq rfl]
      show st.1 0 11 + 1 = _
      rw [q0]
      rfl
    · show upd (st.1 0) 11 _ k = _
      rw [upd_ne hk, q0]
    · show st.1 0 6 = _
      rw [q0]; exact xs_h r
    · show upd (st.1 5) 0 _ j = _ ∧ upd (st.1 6) 0 _ j = _ ∧ vf_upd st.2 0 _ j = _
      unfold upd vf_upd
      rw [if_neg (by omega), if_neg (by omega), if_neg (by omega)]
      exact p2 j (by omega) h2
theorem xq_addSight (w : WF B a) {u : vH} (r : RX a u) {s : Nat} (hs : s < a 0 0) : ∃ u', fX5_addSight (nI s) u = some u' ∧ RX (takM a s) u' := by
  have hn := wf_n w
  have hl := wf_l w
  have hb := takL_b w
  have rs : ∀ x, RXs a (up2 u.1 0 7 x, u.2) := fun x => ⟨(rx_e r :), (rx_h r :), (rx_m r :), (rx_c r :), (rx_w r :), (rx_z r :)⟩
  have fin : ∀ u1 : vH, u1.1 0 7 = nI (takL a) → (∀ k, k ≠ 7 → u1.1 0 k = u.1 0 k) → (∀ b, b ≠ 0 → u1.1 b = u.1 b) → u1.2 = u.2 → RXs a u1 → ∃ u', fX5_addSight_26 vF (nI s) (nI (takL a - 1)) u1 = some u' ∧ RX (takM a s) u' := by
    intro u1 h7 h0 h1 h2 hr
    obtain ⟨u', e, ⟨p1, p2, p3, p4, p5, p6⟩, ⟨p7, p8, p9⟩, p10⟩ := xq_addLoop w hs hr (takL a - 1) (by omega)
    refine ⟨u', e, ⟨⟨?_, ?_, ?_, ?_⟩, ⟨?_, ?_, ?_, ?_⟩, fun i hi => ?_, fun i hi => ?_, fun i hi => ?_, fun i hi => ?_, fun k hk => ?_, fun k hk => ?_, fun k hk => ?_⟩⟩
    · rw [p2 _ (by omega), h0 _ (by omega)]; exact (rx_n r :)
    · rw [p2 _ (by omega), h0 _ (by omega)]; exact (rx_e r :)
    · rw [p2 _ (by omega), h0 _ (by omega)]; exact (rx_h r :)
    · rw [p2 _ (by omega), h7]; rfl
    · rw [p1, h0 _ (by omega), rx_k4 r, nJ_add]; rfl
    · rw [p2 _ (by omega), h0 _ (by omega)]; exact (rx_k5 r :)
    · rw [p2 _ (by omega), h0 _ (by omega)]; exact (rx_k6 r :)
    · rw [p2 _ (by omega), h0 _ (by omega)]; exact (rx_k7 r :)
    · rw [p3, h1 _ (by omega)]; exact (rx_m r i hi :)
    · rw [p4, h1 _ (by omega)]; exact (rx_c r i hi :)
    · rw [p5, h1 _ (by omega)]; exact (rx_w r i hi :)
    · rw [p6, h1 _ (by omega)]; exact (rx_z r i hi :)
    · have hk2 : k < takL a := hk
      show _ = nI (if k = 0 then s else a 5 (k - 1))
      by_cases e : k = 0
      · rw [if_pos e, e, p7]
      · rw [if_neg e, (p10 k (by omega) (by omega)).1, h1 _ (by omega)]; exact (rx_s r (k - 1) (by omega) :)
    · have hk2 : k < takL a := hk
      show _ = nI (if k = 0 then a 0 1 else a 6 (k - 1))
      by_cases e : k = 0
      · rw [if_pos e, e, p8]
      · rw [if_neg e, (p10 k (by omega) (by omega)).2.1, h1 _ (by omega)]; exact (rx_t r (k - 1) (by omega) :)
    · have hk2 : k < takL a := hk
      show _ = fe (if k = 0 then rdR a s else a 7 (k - 1))
      by_cases e : k = 0
      · rw [if_pos e, e, p9]
      · rw [if_neg e, (p10 k (by omega) (by omega)).2.2, h2]; exact (rx_f r (k - 1) (by omega) :)
  have l10 : (10 : Int32) = nI 10 := rfl
  by_cases h : a 0 3 < 10
  · have hL : takL a = a 0 3 + 1 := if_pos h
    have i1 : ¬ (10 : Int32) ≤ u.1 0 7 := by
      rw [l10, rx_l r, nJ_le (by omega) (by omega)]
      omega
    have e7 : u.1 0 7 + 1 = nI (takL a) := by rw [rx_l r, l32_1, nJ_add, hL]
    have e8 : nI (takL a) - 1 = nI (takL a - 1) := nI_sub (b := 1) (by omega)
    rw [fX5_addSight, if_neg i1]
    dsimp only [bd]
    rw [e7]
    show ∃ u', fX5_addSight_26 vF (nI s) (nI (takL a) - 1) (up2 u.1 0 7 (nI (takL a)), u.2) = some u' ∧ _
    rw [e8]
    exact fin _ rfl (fun k hk => upd_ne hk) (fun b hb => if_neg hb) rfl (rs _)
  · have hL : takL a = 10 := if_neg h
    have e10 : a 0 3 = 10 := by omega
    have i1 : (10 : Int32) ≤ u.1 0 7 := by
      rw [l10, rx_l r, nJ_le (by omega) (by omega)]
      omega
    have e8 : nI 10 - 1 = nI (10 - 1) := nI_sub (b := 1) (by omega)
    rw [fX5_addSight, if_pos i1]
    dsimp only [bd]
    rw [rx_l r, e10, e8]
    rw [hL] at fin
    exact fin u (by rw [rx_l r, e10]) (fun k _ => rfl) (fun b _ => rfl) rfl ⟨rx_e r, rx_h r, rx_m r, rx_c r, rx_w r, rx_z r⟩
end

