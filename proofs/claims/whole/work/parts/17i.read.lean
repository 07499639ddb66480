theorem pr_end {c : Nat → Nat} {n p : Nat} {cs : List (Nat × Nat)} {out : Option Nat} (P : PR c n p cs out) : ∀ e, out = some e → e ≤ n := by
  induction P using PR.ind with
  | bad p hp h =>
    intro e he
    have he2 : p + far c n p 10 = e := by injection he
    have : far c n p 10 ≤ n - p := far_lub (fun f hf => by
      have := mm_fit (c := c) (n := n) (S := shp f) hp
      unfold Mf
      omega)
    omega
  | last p f hf h hq => intro e he; cases he
  | semi p f hf h hq hc =>
    intro e he
    have he2 : p + ln f = e := by injection he
    omega
  | next p f cs out hf h hq hc hr ih => exact ih
/-- the state in which the commands are read, the first time and the second -/
def rdB (v : vS) : vS := up2 (up2 (up2 (bgS v) 0 20 (bgS v 0 18)) 0 18 0) 0 23 0
def rdC (v : vS) : vS := up2 (up2 v 0 19 0) 0 22 0
theorem cmds_run (v : vS) : fX8_commands v = runC vF (nI 1) (rdC v) := rfl
theorem rdB_b (v : vS) {b : Nat} (h0 : b ≠ 0) (h2 : b ≠ 2) : rdB v b = v b := by
  unfold rdB
  rw [up2_o h0, up2_o h0, up2_o h0, bg_b v h0 h2]
theorem rdB_2 (v : vS) {k : Nat} (h : k < 66) : rdB v 2 k = v 1 k := by
  unfold rdB
  rw [up2_o (by omega), up2_o (by omega), up2_o (by omega), bg_2 v h]
theorem rdB_0 (v : vS) {k : Nat} (h0 : k ≠ 0) (h1 : k ≠ 20) (h2 : k ≠ 18) (h3 : k ≠ 23) : rdB v 0 k = v 0 k := by
  show upd (upd (upd (bgS v 0) 20 _) 18 _) 23 _ k = _
  rw [upd_ne h3, upd_ne h2, upd_ne h1, bg_0 v h0]
theorem rdC_b (v : vS) {b : Nat} (h0 : b ≠ 0) : rdC v b = v b := by
  unfold rdC
  rw [up2_o h0, up2_o h0]
theorem rdC_0 (v : vS) {k : Nat} (h1 : k ≠ 19) (h2 : k ≠ 22) : rdC v 0 k = v 0 k := by
  show upd (upd (v 0) 19 _) 22 _ k = _
  rw [upd_ne h2, upd_ne h1]
theorem s_read {B : Nat} {a : mA} {u : vZ} {v : vS} (R : RLs B a u v) (hB : B + 15 < 1000000000) : SIM (B + 15) (fX7_read u) (fX8_read v) := by
  obtain ⟨⟨w, r, q⟩, ⟨hn, hs, c1, c2⟩, g1, g2, ⟨n, hn60, t1, t2, t3⟩, g4, g5, g6⟩ := R
  -- the text
  obtain ⟨c, hc⟩ : ∃ c : Nat → Nat, ∀ i, i < n → u.2.2.2.2.2.1.1 1 i = nI (c i) ∧ v 6 i = nI (c i) ∧ c i < 127 := by
    refine ⟨fun i => Int32.toNatClampNeg (u.2.2.2.2.2.1.1 1 i), fun i hi => ?_⟩
    obtain ⟨d, d1, d2, d3, d4⟩ := t3 i hi
    have e : Int32.toNatClampNeg (u.2.2.2.2.2.1.1 1 i) = d := by rw [d3]; exact nJ_clamp (by omega)
    dsimp only
    rw [e]
    exact ⟨d3, d4, by omega⟩
  obtain ⟨cs, out, P⟩ := PR_all c n n 0 (Nat.zero_add n)
  have X0 : XT c n (up2 u.2.2.2.2.2.1.1 0 5 0, u.2.2.2.2.2.1.2) := ⟨hn60, t1, fun i hi => ⟨(hc i hi).1, (hc i hi).2.2⟩⟩
  obtain ⟨xp1, xp2⟩ := xt_parse P 0 _ vF (by unfold vF; omega) (by omega) (by omega) X0 rfl
  have h18 : bgS v 0 18 = nI n := by rw [bg_0 v (by omega)]; exact t2
  have h20 : rdB v 0 20 = nI n := by
    show bgS v 0 18 = nI n
    exact h18
  have C0 : CT c n (rdC (rdB v)) := by
    refine ⟨hn60, h20, fun i hi => ?_, ?_⟩
    · rw [rdC_b _ (by omega), rdB_b v (by omega) (by omega)]
      exact (hc i hi).2
    · unfold RC at g6 ⊢
      rw [rdC_b _ (by omega), rdC_b _ (by omega), rdB_b v (by omega) (by omega), rdB_b v (by omega) (by omega)]
      exact g6
  obtain ⟨y, v6, e6, f6, p1, p2⟩ := pass1 P 1 (rdC (rdB v)) vF (by unfold vF; omega) (by omega) C0 ⟨rfl, rfl⟩ rfl rfl
  have h8 : ∀ (K : Int32 → vS → Option (Int32 × vS)), (obp (fX8_commands (rdB v)) K) = K y v6 := by
    intro K
    rw [cmds_run, e6, obp_some]
  have start8 : fX8_read v = obp (fX8_commands (rdB v)) fun y6 u5 => (if u5 0 22 = 0 then bd (up2 u5 0 23 (1 : Int32)) fun u8 => obp (fX8_commands u8) fun y10 u9 => (if u9 0 0 = 0 then obp (fX8_ends y10 u9) fun y14 u13 => some (y14, u13) else (if u9 0 0 = (-100005 : Int32) then fX8_read_85 y10 (u9 0 2) u9 else fX8_read_85 y10 (0 : Int32) u9)) else bd (up2 u5 0 6 (u5 0 19)) fun u15 => some ((-100002 : Int32), u15)) := by
    rw [fX8_read, rl_begins, Option.bind_some]
    rfl
  -- the frame of the first pass
  have b6 : ∀ b, b ≠ 0 → b ≠ 2 → b ≠ 8 → v6 b = v b := fun b h0 h2 h8 => by
    rw [f6.1 b h0 h8, rdC_b _ h0, rdB_b v h0 h2]
  have b62 : ∀ k, k < 66 → v6 2 k = v 1 k := fun k hk => by
    rw [f6.1 2 (by omega) (by omega), rdC_b _ (by omega), rdB_2 v hk]
  have b60 : ∀ k, k ≠ 0 → k ≠ 18 → k ≠ 19 → k ≠ 20 → k ≠ 22 → k ≠ 23 → v6 0 k = v 0 k := fun k h0 h1 h2 h3 h4 h5 => by
    rw [f6.2 k h2 h4, rdC_0 _ h2 h4, rdB_0 v h0 h3 h1 h5]
  have b618 : v6 0 18 = nI 0 := by
    rw [f6.2 18 (by omega) (by omega), rdC_0 _ (by omega) (by omega)]
    rfl
  rw [start8, h8]
  have hw8 := wf_n w
  have hw10 := wf_l w
  cases out with
  | some e =>
    obtain ⟨t', ep⟩ := xp1 e rfl
    have he := pr_end P e rfl
    have S6 := p1 e rfl
    have c22 : ¬ v6 0 22 = 0 := by rw [S6.2]; decide
    have ene : ¬ nI e = -1 := fun h => neg1_ne e (by omega) h.symm
    rw [if_neg c22, S6.1]
    dsimp only [bd]
    refine ⟨-100002, a, (upd (upd u.1 8 1) 9 (nI e), (u.2.1, (u.2.2.1, (u.2.2.2.1, (u.2.2.2.2.1, ((up2 t'.1 0 1 0, t'.2), u.2.2.2.2.2.2)))))), up2 v6 0 6 (nI e), ?_, rfl, ?_⟩
    · have ep2 : fX6_parse u.2.2.2.2.2.1 = some (nI e, t') := ep
      rw [fX7_read, ep2, obp_some]
      dsimp only [bd]
      rw [fX6_clear]
      dsimp only [bd]
      rw [Option.bind_some, if_neg ene]
    · have d0 : ∀ k, k ≠ 6 → k ≠ 0 → k ≠ 18 → k ≠ 19 → k ≠ 20 → k ≠ 22 → k ≠ 23 → up2 v6 0 6 (nI e) 0 k = v 0 k := fun k h6 h0 h1 h2 h3 h4 h5 => by
        rw [up2_r, upd_ne h6, b60 k h0 h1 h2 h3 h4 h5]
      have db : ∀ b, b ≠ 0 → b ≠ 2 → b ≠ 8 → up2 v6 0 6 (nI e) b = v b := fun b h0 h2 h8 => by
        rw [up2_o h0, b6 b h0 h2 h8]
      refine rl_up (B := B) ⟨⟨w, r, ?_⟩, ⟨hn, hs, c1, rhr_eq c2 (db 5 (by omega) (by omega) (by omega)) (d0 1 (by omega) (by omega) (by omega) (by omega) (by omega) (by omega) (by omega))⟩, ?_, re_eq g2 (d0 2 (by omega) (by omega) (by omega) (by omega) (by omega) (by omega) (by omega)) (d0 3 (by omega) (by omega) (by omega) (by omega) (by omega) (by omega) (by omega)) (d0 4 (by omega) (by omega) (by omega) (by omega) (by omega) (by omega) (by omega)) (d0 5 (by omega) (by omega) (by omega) (by omega) (by omega) (by omega) (by omega)), ⟨0, by omega, rfl, ?_, fun i hi => absurd hi (Nat.not_lt_zero i)⟩, rn_eq g4 (db 7 (by omega) (by omega) (by omega)) (d0 21 (by omega) (by omega) (by omega) (by omega) (by omega) (by omega) (by omega)), Or.inr ⟨rfl, e, by omega, rfl, rfl⟩, rc_eq g6 (db 9 (by omega) (by omega) (by omega)) (db 10 (by omega) (by omega) (by omega))⟩ (by omega) hB
      · rw [db 1 (by omega) (by omega) (by omega)]; exact q
      · exact rv_eq (u := u) g1 (db 3 (by omega) (by omega) (by omega)) (d0 7 (by omega) (by omega) (by omega) (by omega) (by omega) (by omega) (by omega))
      · rw [up2_r, upd_ne (by omega)]; exact b618
  | none =>
    obtain ⟨t', ep, k5, k15, -, kk⟩ := xp2 rfl
    rw [Nat.zero_add] at k5 k15
    have S6 := p2 rfl
    have c22 : v6 0 22 = 0 := S6.2
    rw [if_pos c22]
    dsimp only [bd]
    -- the trial
    obtain ⟨d', ed, hd⟩ := xq_copy u.2.2.1 u.2.1.1
    have rd := hd a hw8 hw10 r
    have ep2 : fX6_parse u.2.2.2.2.2.1 = some (-1, t') := ep
    generalize hU : ((u.1, (u.2.1, (u.2.2.1, (u.2.2.2.1, (u.2.2.2.2.1, ((up2 t'.1 0 1 0, t'.2), u.2.2.2.2.2.2)))))) : vZ) = U
    have h7 : fX7_read u = obp (fX7_isTextDone_13 vF (nI 0) (setT U d')) fun y6 u5 => (if y6 = 0 then some ((-100005 : Int32), u5) else some (u5.2.2.2.2.2.1.1 0 5, u5)) := by
      subst hU
      rw [fX7_read, ep2, obp_some]
      dsimp only [bd]
      rw [fX6_clear]
      dsimp only [bd]
      rw [Option.bind_some, if_pos rfl, fX7_isTextDone]
      dsimp only
      rw [ed, Option.bind_some]
      rfl
    rw [h7]
    -- the second pass
    have C8 : CT c n (rdC (up2 v6 0 23 1)) := by
      obtain ⟨a1, a2, a3, a4⟩ := ct_pf C0 f6
      refine ⟨a1, a2, fun i hi => ?_, ?_⟩
      · rw [rdC_b _ (by omega), up2_o (by omega)]
        exact a3 i hi
      · unfold RC at a4 ⊢
        rw [rdC_b _ (by omega), rdC_b _ (by omega), up2_o (by omega), up2_o (by omega)]
        exact a4
    have q8 : RR a (rdC (up2 v6 0 23 1) 1) := by
      rw [rdC_b _ (by omega), up2_o (by omega), b6 1 (by omega) (by omega) (by omega)]
      exact q
    have c00 : rdC (up2 v6 0 23 1) 0 0 = 0 := by
      show v6 0 0 = 0
      rw [f6.2 0 (by omega) (by omega)]
      rfl
    have hU5 : U.2.2.2.2.2.1.1 0 5 = nI cs.length := by
      subst hU
      exact k5
    have hUk : ∀ i (hi : i < cs.length), kept c U.2.2.2.2.2.1 (0 + i) cs[i] := by
      subst hU
      exact kk
    have P2r := pass2 P rfl 0 cs.length a B U d' (rdC (up2 v6 0 23 1)) vF vF (Nat.zero_add _).symm k15 (by omega) (by unfold vF; omega) (by unfold vF; omega) (by omega) w rd q8 C8 ⟨rfl, rfl⟩ c00 rfl hU5 hUk
    rw [cmds_run]
    -- what the second pass starts from
    have s8b : ∀ b, b ≠ 0 → b ≠ 2 → b ≠ 8 → rdC (up2 v6 0 23 1) b = v b := fun b h0 h2 h8 => by
      rw [rdC_b _ h0, up2_o h0, b6 b h0 h2 h8]
    have s82 : ∀ k, k < 66 → rdC (up2 v6 0 23 1) 2 k = v 1 k := fun k hk => by
      rw [rdC_b _ (by omega), up2_o (by omega), b62 k hk]
    have s80 : ∀ k, k ≠ 0 → k ≠ 18 → k ≠ 19 → k ≠ 20 → k ≠ 22 → k ≠ 23 → rdC (up2 v6 0 23 1) 0 k = v 0 k := fun k h0 h1 h2 h3 h4 h5 => by
      rw [rdC_0 _ h2 h4, up2_r, upd_ne h5, b60 k h0 h1 h2 h3 h4 h5]
    have s818 : rdC (up2 v6 0 23 1) 0 18 = nI 0 := by
      rw [rdC_0 _ (by omega) (by omega), up2_r, upd_ne (by omega), b618]
    have u1 : U.1 = u.1 := by subst hU; rfl
    have u2 : U.2.1 = u.2.1 := by subst hU; rfl
    have u3 : U.2.2.2.1 = u.2.2.2.1 := by subst hU; rfl
    have u4 : U.2.2.2.2.1 = u.2.2.2.2.1 := by subst hU; rfl
    have u5 : U.2.2.2.2.2.1.1 0 1 = nI 0 := by subst hU; rfl
    have u6 : U.2.2.2.2.2.2 = u.2.2.2.2.2.2 := by subst hU; rfl
    -- the end of a refusal
    have refuse : ∀ (v9 : vS) (i : Nat) (x : Int32), QF (rdC (up2 v6 0 23 1)) v9 → ∃ v10, fX8_read_85 (nI (i + 1)) x v9 = some (-100005, v10) ∧ (∀ k, k < 66 → v10 1 k = v 1 k) ∧ (∀ b, b ≠ 0 → b ≠ 1 → b ≠ 2 → b ≠ 8 → v10 b = v b) ∧ (∀ k, k ≠ 0 → k ≠ 2 → k ≠ 3 → k ≠ 4 → k ≠ 5 → k ≠ 18 → k ≠ 19 → k ≠ 20 → k ≠ 22 → k ≠ 23 → v10 0 k = v 0 k) ∧ v10 0 18 = nI 0 ∧ v10 0 2 = nI 5 ∧ v10 0 3 = nI i ∧ v10 0 4 = x ∧ v10 0 5 = v9 0 3 := by
      intro v9 i x F
      have e1 : nI (i + 1) - 1 = nI i := nI_sub (a := i + 1) (b := 1) (by omega)
      refine ⟨cpS (up2 (up2 (rfS v9 5 (nI i)) 0 4 x) 0 5 (v9 0 3)) 1 2 66, ?_, fun k hk => ?_, fun b h0 h1 h2 h8 => ?_, fun k h0 h2 h3 h4 h5 h18 h19 h20 h22 h23 => ?_, ?_, rfl, rfl, rfl, rfl⟩
      · rw [fX8_read_85]
        dsimp only [bd]
        rw [e1, ref_refuses, obp_some, ends_fail _ (v := up2 (up2 (rfS v9 5 (nI i)) 0 4 x) 0 5 (v9 0 3)) (show (-100005 : Int32) ≠ 0 by decide), obp_some]
        rfl
      · show (if k < 66 then (up2 (up2 (rfS v9 5 (nI i)) 0 4 x) 0 5 (v9 0 3)) 2 k else _) = _
        rw [if_pos hk]
        show v9 2 k = _
        rw [F.1 2 (by omega) (by omega) (by omega), s82 k hk]
      · rw [back_b h1, up2_o h0, up2_o h0]
        unfold rfS
        rw [up2_o h0, up2_o h0, up2_o h0, up2_o h0, F.1 b h0 h1 h8, s8b b h0 h2 h8]
      · show upd (upd (upd (upd (upd (upd (v9 0) 2 5) 3 (nI i)) 4 0) 0 (-100005)) 4 x) 5 (v9 0 3) k = _
        rw [upd_ne h5, upd_ne h4, upd_ne h0, upd_ne h4, upd_ne h3, upd_ne h2, F.2 k h0 h2 h3 h4 h19 h22, s80 k h0 h18 h19 h20 h22 h23]
      · show upd (upd (upd (upd (upd (upd (v9 0) 2 5) 3 (nI i)) 4 0) 0 (-100005)) 4 x) 5 (v9 0 3) 18 = _
        rw [upd_ne (by omega), upd_ne (by omega), upd_ne (by omega), upd_ne (by omega), upd_ne (by omega), upd_ne (by omega), F.2 18 (by omega) (by omega) (by omega) (by omega) (by omega) (by omega), s818]
    have refEnd : ∀ (v10 : vS) (W : vZ), (∀ k, k < 66 → v10 1 k = v 1 k) → (∀ b, b ≠ 0 → b ≠ 1 → b ≠ 2 → b ≠ 8 → v10 b = v b) → (∀ k, k ≠ 0 → k ≠ 2 → k ≠ 3 → k ≠ 4 → k ≠ 5 → k ≠ 18 → k ≠ 19 → k ≠ 20 → k ≠ 22 → k ≠ 23 → v10 0 k = v 0 k) → v10 0 18 = nI 0 → W.1 = u.1 → W.2.1 = u.2.1 → W.2.2.2.1 = u.2.2.2.1 → W.2.2.2.2.2.1.1 0 1 = nI 0 → W.2.2.2.2.2.2 = u.2.2.2.2.2.2 → RE W.2.2.2.2.1 v10 → RLs B a W v10 := by
      intro v10 W k1 kb k0 k18 w1 w2 w3 w5 w6 hre
      refine ⟨⟨w, by rw [w2]; exact r, rr_congr hw8 hw10 k1 q⟩, ⟨hn, hs, by rw [w2]; exact c1, rhr_eq c2 (kb 5 (by omega) (by omega) (by omega) (by omega)) (k0 1 (by omega) (by omega) (by omega) (by omega) (by omega) (by omega) (by omega) (by omega) (by omega) (by omega))⟩, ?_, hre, ⟨0, by omega, w5, k18, fun i hi => absurd hi (Nat.not_lt_zero i)⟩, ?_, ?_, rc_eq g6 (kb 9 (by omega) (by omega) (by omega) (by omega)) (kb 10 (by omega) (by omega) (by omega) (by omega))⟩
      · have := rv_eq (u := u) g1 (kb 3 (by omega) (by omega) (by omega) (by omega)) (k0 7 (by omega) (by omega) (by omega) (by omega) (by omega) (by omega) (by omega) (by omega) (by omega) (by omega))
        unfold RV at this ⊢
        rw [w1, w3]
        exact this
      · rw [w6]
        exact rn_eq g4 (kb 7 (by omega) (by omega) (by omega) (by omega)) (k0 21 (by omega) (by omega) (by omega) (by omega) (by omega) (by omega) (by omega) (by omega) (by omega) (by omega))
      · have := rf_eq (u := u) g5 (k0 6 (by omega) (by omega) (by omega) (by omega) (by omega) (by omega) (by omega) (by omega) (by omega) (by omega))
        unfold RF at this ⊢
        rw [w1]
        exact this
    rcases P2r with ⟨a', z', v9, M', hM, w', e7, r7, e8, q9, F⟩ | ⟨i, z', v9, hi, e7, e8, F, n0, n5⟩ | ⟨i, y2, d2, z', v9, hi, hy, e7, e8, F, f0, f2, f3⟩
    · -- all are done
      obtain ⟨M', rfl⟩ : ∃ x, M' = x + 1 := ⟨M' - 1, by omega⟩
      have c9 : v9 0 0 = 0 := by rw [F.2 0 (by omega) (by omega)]; exact c00
      have c91 : v9 0 1 = nI hn := by
        rw [F.2 1 (by omega) (by omega), s80 1 (by omega) (by omega) (by omega) (by omega) (by omega) (by omega)]
        exact c2.1
      obtain ⟨v10, e10, m1, m2, m3, m4, m5⟩ := ends_ok (nI cs.length) c1.1 c9 c91
      obtain ⟨h', eh, rh⟩ := rem_ok hw8 hw10 r c1
      obtain ⟨d2, ed2, hd2⟩ := xq_copy u.2.1.1 z'
      have w'' : WF (B + 15) a' := wf_up w' (by omega) hB
      have rd2 := hd2 a' (wf_n w') (wf_l w') r7
      refine ⟨nI cs.length, a', (U.1, ((d2, h'), (z', U.2.2.2))), v10, ?_, ?_, ⟨w'', rd2, ?_⟩, ⟨pushN hn, pushH a hs, rh, ?_⟩, ?_, ?_, ⟨0, by omega, u5, ?_, fun i hi => absurd hi (Nat.not_lt_zero i)⟩, ?_, ?_, ?_⟩
      · rw [e7, fX7_isTextDone_13]
        have cc : (setT U z').2.2.2.2.2.1.1 0 5 ≤ nI cs.length := by
          show U.2.2.2.2.2.1.1 0 5 ≤ nI cs.length
          rw [hU5]
          exact Int32.le_refl _
        rw [if_pos cc]
        have er : fX2_remember (setT U z').2.1 = some (u.2.1.1, h') := by
          show fX2_remember U.2.1 = _
          rw [u2]
          exact eh
        rw [er, Option.bind_some]
        dsimp only [bd]
        have ec : fX5_copyFrom (u.2.1.1, (setT U z').2.2.1) = some (d2, z') := ed2
        rw [ec, Option.bind_some, obp_some, if_neg (by decide)]
        show some (U.2.2.2.2.2.1.1 0 5, _) = _
        rw [hU5]
        rfl
      · rw [show (1 : Nat) = 0 + 1 from rfl, e8, obp_some, if_pos c9, e10, obp_some]
      · rw [m1 1 (by omega) (by omega)]
        exact q9
      · refine rhr_up (push_hist (v := v) (v2 := v9) c1.1 w q c2 ?_ (fun k hk => ?_) m3 m4 m5) (by omega) hB
        · rw [F.1 5 (by omega) (by omega) (by omega), s8b 5 (by omega) (by omega) (by omega)]
        · rw [F.1 2 (by omega) (by omega) (by omega), s82 k hk]
      · have := rv_eq (u := u) (v' := v10) g1 (by rw [m1 3 (by omega) (by omega), F.1 3 (by omega) (by omega) (by omega), s8b 3 (by omega) (by omega) (by omega)]) (by rw [m2 7 (by omega), F.2 7 (by omega) (by omega), s80 7 (by omega) (by omega) (by omega) (by omega) (by omega) (by omega)])
        have := rv_up this (by omega : B ≤ B + 15) hB
        unfold RV at this ⊢
        rw [← u1, ← u3] at this
        exact this
      · have k : ∀ k, k ≠ 1 → k ≠ 0 → k ≠ 18 → k ≠ 19 → k ≠ 20 → k ≠ 22 → k ≠ 23 → v10 0 k = v 0 k := fun k h1 h0 h2 h3 h4 h5 h6 => by
          rw [m2 k h1, F.2 k h3 h5, s80 k h0 h2 h3 h4 h5 h6]
        show RE U.2.2.2.2.1 v10
        rw [u4]
        exact re_eq g2 (k 2 (by omega) (by omega) (by omega) (by omega) (by omega) (by omega) (by omega)) (k 3 (by omega) (by omega) (by omega) (by omega) (by omega) (by omega) (by omega)) (k 4 (by omega) (by omega) (by omega) (by omega) (by omega) (by omega) (by omega)) (k 5 (by omega) (by omega) (by omega) (by omega) (by omega) (by omega) (by omega))
      · rw [m2 18 (by omega), F.2 18 (by omega) (by omega), s818]
      · show RN U.2.2.2.2.2.2 v10
        rw [u6]
        exact rn_eq g4 (by rw [m1 7 (by omega) (by omega), F.1 7 (by omega) (by omega) (by omega), s8b 7 (by omega) (by omega) (by omega)]) (by rw [m2 21 (by omega), F.2 21 (by omega) (by omega), s80 21 (by omega) (by omega) (by omega) (by omega) (by omega) (by omega)])
      · have := rf_eq (u := u) (v' := v10) g5 (by rw [m2 6 (by omega), F.2 6 (by omega) (by omega), s80 6 (by omega) (by omega) (by omega) (by omega) (by omega) (by omega)])
        unfold RF at this ⊢
        rw [← u1] at this
        exact this
      · exact rc_eq g6 (by rw [m1 9 (by omega) (by omega), F.1 9 (by omega) (by omega) (by omega), s8b 9 (by omega) (by omega) (by omega)]) (by rw [m1 10 (by omega) (by omega), F.1 10 (by omega) (by omega) (by omega), s8b 10 (by omega) (by omega) (by omega)])
    · -- one is out of range
      obtain ⟨v10, e10, k1, kb, k0, k18, k2, k3, k4, k5'⟩ := refuse v9 i 0 F
      refine ⟨-100005, a, setT (zKeep U 5 (nI i)) z', v10, ?_, ?_, rl_up (refEnd v10 (setT (zKeep U 5 (nI i)) z') k1 kb k0 k18 u1 u2 u3 u5 u6 (Or.inr (Or.inl ⟨rfl, ?_, ?_, ?_, k4⟩))) (by omega) hB⟩
      · rw [e7, obp_some]
        exact if_pos rfl
      · rw [show (1 : Nat) = 0 + 1 from rfl, e8, obp_some, if_neg n0, if_neg n5, e10]
      · rw [k2]; decide
      · rw [k2]; rfl
      · rw [k3]; rfl
    · -- one is refused
      obtain ⟨v10, e10, k1, kb, k0, k18, k2, k3, k4, k5'⟩ := refuse v9 i (v9 0 2) F
      rw [f2] at k4
      rw [f3] at k5'
      refine ⟨-100005, a, setT (endNo U i y2 d2) z', v10, ?_, ?_, rl_up (refEnd v10 (setT (endNo U i y2 d2) z') k1 kb k0 k18 u1 u2 u3 u5 u6 (Or.inr (Or.inr ⟨rfl, ?_, ?_, ?_, ?_, ?_, ?_⟩))) (by omega) hB⟩
      · rw [e7, obp_some]
        exact if_pos rfl
      · rw [show (1 : Nat) = 0 + 1 from rfl, e8, obp_some, if_neg (by rw [f0]; decide), if_pos f0, e10]
      · rw [k2]; decide
      · rw [k4]; exact hy
      · rw [k2]; rfl
      · rw [k3]; rfl
      · rw [k4]; rfl
      · rw [k5']; rfl
