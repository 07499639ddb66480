theorem chr16 : ∀ c : Nat, c < 200 → (Int32.toUInt32 (nI c) % 65536).toInt32 = nI c := by decide +kernel
theorem ln_hex {m k j : Nat} {l v : vS} (hm : m < 65536) (hk : k < 16) (hj : j < 140) (L : LNp j l v) : ∃ l' v', (∀ n, fX3_putMood_3 (n + 1) (nI m) (nI k) l = fX3_putMood_3 n (nI m) (nI k + -4) l') ∧ (∀ n s, s < 8 → v 1 (12 + 3 * s) = nI m → fX8_write_19 (n + 1) (nI s) (nI k) v = fX8_write_19 n (nI s) (nI k + -4) v') ∧ LNp (j + 1) l' v' ∧ FL v v' := by
  have h15 : (m >>> k) &&& 15 ≤ 15 := Nat.and_le_right
  have hsh : m >>> k ≤ m := Nat.shiftRight_le _ _
  have k0 : ¬ nI k < 0 := nI_neg0 (by omega)
  have e1 : nI m >>> (nI k &&& 31) &&& (15 : Int32) = nI ((m >>> k) &&& 15) := by
    rw [nI_shr (by omega) (by omega), show (15 : Int32) = nI 15 from rfl, nI_and]
  generalize (m >>> k) &&& 15 = d at h15 e1
  by_cases h : 10 ≤ d
  · have c1 : (10 : Int32) ≤ nI d := (nJ_le (a := 10) (by omega) (by omega)).mpr h
    obtain ⟨l', v', p1, p2, L', f⟩ := ln_put (c := 97 + d - 10) hj (by omega) L
    have e2 : (97 : Int32) + nI d - (10 : Int32) = nI (97 + d - 10) := by
      rw [show (97 : Int32) = nI 97 from rfl, nJ_add, show (10 : Int32) = nI 10 from rfl, nI_sub (by omega)]
    refine ⟨l', v', fun n => ?_, fun n s hs hv => ?_, L', f⟩
    · rw [fX3_putMood_3, if_neg k0, e1]
      dsimp only [bd]
      rw [if_pos c1, e2, chr16 _ (by omega), p1, Option.bind_some]
    · rw [fX8_write_19, if_neg k0, at_0 (by omega), Option.bind_some, if_neg (in66 (by omega)), nJ_clamp (by omega), hv, e1]
      dsimp only [bd]
      rw [if_pos c1, e2, p2, Option.bind_some]
  · have c1 : ¬ (10 : Int32) ≤ nI d := fun h2 => h ((nJ_le (a := 10) (by omega) (by omega)).mp h2)
    obtain ⟨l', v', p1, p2, L', f⟩ := ln_put (c := 48 + d) hj (by omega) L
    have e2 : (48 : Int32) + nI d = nI (48 + d) := by
      rw [show (48 : Int32) = nI 48 from rfl, nJ_add]
    refine ⟨l', v', fun n => ?_, fun n s hs hv => ?_, L', f⟩
    · rw [fX3_putMood_3, if_neg k0, e1]
      dsimp only [bd]
      rw [if_neg c1, e2, chr16 _ (by omega), p1, Option.bind_some]
    · rw [fX8_write_19, if_neg k0, at_0 (by omega), Option.bind_some, if_neg (in66 (by omega)), nJ_clamp (by omega), hv, e1]
      dsimp only [bd]
      rw [if_neg c1, e2, p2, Option.bind_some]
theorem in8b {k : Nat} (hk : k < 8) : ¬ (nI k < 0 ∨ 8 ≤ k) := by
  have := in8 hk
  rw [nJ_clamp (by omega)] at this
  exact this
def wLine (u : vZ) (l : vS) : vZ := (u.1, (u.2.1, (u.2.2.1, (u.2.2.2.1, (u.2.2.2.2.1, (u.2.2.2.2.2.1, l))))))
theorem rl_line {B n : Nat} {a : mA} {u : vZ} {v v' l : vS} (R : RLs B a u v) (hn : n ≤ 140) (L : LNp n l v') (f : FL v v') : RLs B a (wLine u l) v' := by
  obtain ⟨⟨w, r, q⟩, ⟨m, hs, c1, c2⟩, g1, g2, g3, g4, g5, g6⟩ := R
  obtain ⟨f1, f2⟩ := f
  refine ⟨⟨w, r, by rw [f1 1 (by omega) (by omega)]; exact q⟩, ⟨m, hs, c1, rhr_eq c2 (f1 5 (by omega) (by omega)) (f2 1 (by omega))⟩, rv_eq g1 (f1 3 (by omega) (by omega)) (f2 7 (by omega)), re_eq g2 (f2 _ (by omega)) (f2 _ (by omega)) (f2 _ (by omega)) (f2 _ (by omega)), rt_eq g3 (f1 6 (by omega) (by omega)) (f2 _ (by omega)), ⟨n, hn, L.1, L.2.1, L.2.2⟩, rf_eq g5 (f2 _ (by omega)), rc_eq g6 (f1 9 (by omega) (by omega)) (f1 10 (by omega) (by omega))⟩
section
variable {B : Nat} {a : mA} {u : vZ} {v : vS}
theorem w_tail (w : WF B a) {u1 : vZ} (r : RX a u1.2.1.1) {v1 : vS} (q : RR a (v1 1)) {s j : Nat} (hs : s < a 0 0) (hj : j + 40 ≤ 140) (L : LNp j u1.2.2.2.2.2.2 v1) : ∃ n l' v', fX7_write_74 (nI s) u1 = some (nI n, wLine u1 l') ∧ fX8_write_102 (nI s) v1 = some (nI n, v') ∧ n ≤ 140 ∧ LNp n l' v' ∧ FL v1 v' := by
  have hn := wf_n w
  have g := wf_s w s hs
  have b := ang_b w hs
  obtain ⟨l1, v2, p1, p2, L1, f1⟩ := ln_put (c := 64) (by omega) (by omega) L
  have q2 : RR a (v2 1) := by rw [f1.1 1 (by omega) (by omega)]; exact q
  obtain ⟨j2, l2, v3, p3, p4, L2, hj2, f2⟩ := num_nn 0 (m := a 3 s) (by omega) (by omega) (by omega) L1
  have q3 : RR a (v3 1) := by rw [f2.1 1 (by omega) (by omega)]; exact q2
  obtain ⟨l3, v4, p5, p6, L3, f3⟩ := ln_put (c := 62) (by omega) (by omega) L2
  have q4 : RR a (v4 1) := by rw [f3.1 1 (by omega) (by omega)]; exact q3
  obtain ⟨j4, l4, v5, p7, p8, L4, hj4, f4⟩ := num_all (z := ang a s) (by omega) (by omega) (by omega) L3
  refine ⟨j4, l4, v5, ?_, ?_, by omega, L4, fl_trans f1 (fl_trans f2 (fl_trans f3 f4))⟩
  · rw [fX7_write_74, show (64 : Int32) = nI 64 from rfl, p1, Option.bind_some]
    try dsimp only [bd]
    rw [if_neg (in8 (by omega)), nJ_clamp (by omega), rx_w r s hs, p3, Option.bind_some]
    try dsimp only [bd]
    rw [show (62 : Int32) = nI 62 from rfl, p5, Option.bind_some]
    try dsimp only [bd]
    rw [l32_0, xq_angle0 w r hs, obp_some]
    try dsimp only [bd]
    rw [p7, Option.bind_some]
    try dsimp only [bd]
    rw [L4.1]
    rfl
  · rw [fX8_write_102, show (64 : Int32) = nI 64 from rfl, p2, Option.bind_some, at_2 (by omega), Option.bind_some, if_neg (in66 (by omega)), nJ_clamp (by omega), rr_w q2 s hs, p4, Option.bind_some, show (62 : Int32) = nI 62 from rfl, p6, Option.bind_some, rq_angled w q4 hs, obp_some, p8, Option.bind_some, L4.2.1]
theorem s_write (R : RLs B a u v) (x : Int32) : SIM B (fX7_write x u) (fX8_write x v) := by
  obtain ⟨w, r, q⟩ := R.1
  have hn := wf_n w
  rcases i32_cases x (a 0 0) (by omega) with ⟨s, hs, rfl⟩ | hx
  · have g := wf_s w s hs
    have L0 : LNp 0 (up2 u.2.2.2.2.2.2 0 1 (nI 0)) (up2 v 0 21 (nI 0)) := ⟨rfl, rfl, fun i hi => absurd hi (Nat.not_lt_zero i)⟩
    have f0 : FL v (up2 v 0 21 (nI 0)) := ⟨fun b h0 h7 => up2_o h0, fun k hk => upd_ne hk⟩
    obtain ⟨l1, v1, a1, b1, L1, f1⟩ := ln_hex (k := 12) g.1 (by omega) (by omega) L0
    obtain ⟨l2, v2, a2, b2, L2, f2⟩ := ln_hex (k := 8) g.1 (by omega) (by omega) L1
    obtain ⟨l3, v3, a3, b3, L3, f3⟩ := ln_hex (k := 4) g.1 (by omega) (by omega) L2
    obtain ⟨l4, v4, a4, b4, L4, f4⟩ := ln_hex (k := 0) g.1 (by omega) (by omega) L3
    have r1 : ∀ {v'}, FL v v' → RR a (v' 1) := fun f => by rw [f.1 1 (by omega) (by omega)]; exact q
    have q0 := r1 f0
    have q1 := r1 (fl_trans f0 f1)
    have q2 := r1 (fl_trans f0 (fl_trans f1 f2))
    have q3 := r1 (fl_trans f0 (fl_trans f1 (fl_trans f2 f3)))
    have f04 := fl_trans f0 (fl_trans f1 (fl_trans f2 (fl_trans f3 f4)))
    have q4 := r1 f04
    have pm : fX3_putMood (nI (a 1 s)) (up2 u.2.2.2.2.2.2 0 1 (nI 0)) = some l4 := by
      have e0 : fX3_putMood (nI (a 1 s)) (up2 u.2.2.2.2.2.2 0 1 (nI 0)) = fX3_putMood_3 (995 + 1 + 1 + 1 + 1 + 1) (nI (a 1 s)) (nI 12) (up2 u.2.2.2.2.2.2 0 1 (nI 0)) := rfl
      rw [e0, a1, show nI 12 + -4 = nI 8 from rfl, a2, show nI 8 + -4 = nI 4 from rfl, a3, show nI 4 + -4 = nI 0 from rfl, a4, fX3_putMood_3]
      exact if_pos (by decide)
    have w19 : fX8_write_19 vF (nI s) (nI 12) (up2 v 0 21 (nI 0)) = fX8_write_19 (995 + 1) (nI s) (nI 0 + -4) v4 := by
      have e0 : vF = 995 + 1 + 1 + 1 + 1 + 1 := rfl
      rw [e0, b1 _ s (by omega) (rr_m q0 s hs), show nI 12 + -4 = nI 8 from rfl, b2 _ s (by omega) (rr_m q1 s hs), show nI 8 + -4 = nI 4 from rfl, b3 _ s (by omega) (rr_m q2 s hs), show nI 4 + -4 = nI 0 from rfl, b4 _ s (by omega) (rr_m q3 s hs)]
    have h8 : fX8_write (nI s) v = fX8_write_19 vF (nI s) (nI 12) (up2 v 0 21 (nI 0)) := by
      rw [fX8_write, rq_is w q hs, obp_some, if_neg (by decide)]
      rfl
    have h7 : fX7_write (nI s) u = if nI (a 2 s) ≤ 0 then fX7_write_74 (nI s) (wLine u l4) else (fX3_put (42 : Int32) l4).bind fun u9b => (fX3_putNumber (nI (a 2 s)) u9b).bind fun u11b => fX7_write_74 (nI s) (wLine u u11b) := by
      rw [fX7_write, xq_has w r hs, obp_some]
      dsimp only [bd, peta]
      rw [if_neg (by decide), fX3_clear]
      dsimp only [bd]
      have pm' : fX3_putMood (nI (a 1 s)) (up2 u.2.2.2.2.2.2 0 1 (0 : Int32)) = some l4 := pm
      have i8 := in8b (k := s) (by omega)
      rw [Option.bind_some, nJ_clamp (by omega)]
      simp only [i8, if_false]
      rw [rx_m r s hs, pm', Option.bind_some, rx_c r s hs]
      rfl
    have h8b : fX8_write_19 (995 + 1) (nI s) (nI 0 + -4) v4 = if nI (a 2 s) ≤ 0 then fX8_write_102 (nI s) v4 else (fX8_writes (42 : Int32) v4).bind fun u5 => (fX8_at (nI s) (1 : Int32)).bind fun y6 => if y6 < 0 ∨ 66 ≤ Int32.toNatClampNeg y6 then none else (fX8_writesNumber (u5 1 (Int32.toNatClampNeg y6)) u5).bind fun u8 => fX8_write_102 (nI s) u8 := by
      rw [fX8_write_19, if_pos (by decide), at_1 (by omega), Option.bind_some, if_neg (in66 (by omega)), nJ_clamp (by omega), rr_c q4 s hs]
    rw [h7, h8, w19, h8b]
    by_cases c0 : a 2 s = 0
    · have cc : nI (a 2 s) ≤ 0 := by rw [c0]; decide
      obtain ⟨n, l', v', e1, e2, hn, L', f'⟩ := w_tail w (u1 := wLine u l4) r q4 hs (by omega) L4
      rw [if_pos cc, if_pos cc]
      exact ⟨nI n, a, wLine (wLine u l4) l', v', e1, e2, (rl_line R hn L' (fl_trans f04 f') :)⟩
    · have cc : ¬ nI (a 2 s) ≤ 0 := by rw [l32_0, nJ_le (by omega) (by omega)]; omega
      obtain ⟨l5, v5, p5, p6, L5, f5⟩ := ln_put (c := 42) (by omega) (by omega) L4
      have q5 := r1 (fl_trans f04 f5)
      obtain ⟨j6, l6, v6, p7, p8, L6, hj6, f6⟩ := num_nn 0 (m := a 2 s) (by omega) (by omega) (by omega) L5
      have q6 := r1 (fl_trans f04 (fl_trans f5 f6))
      obtain ⟨n, l', v', e1, e2, hn, L', f'⟩ := w_tail w (u1 := wLine u l6) r q6 hs (by omega) L6
      rw [if_neg cc, if_neg cc, show (42 : Int32) = nI 42 from rfl, p5, Option.bind_some, p7, Option.bind_some, p6, Option.bind_some, at_1 (by omega), Option.bind_some, if_neg (in66 (by omega)), nJ_clamp (by omega), rr_c q5 s hs, p8, Option.bind_some]
      exact ⟨nI n, a, wLine (wLine u l6) l', v', e1, e2, (rl_line R hn L' (fl_trans f04 (fl_trans f5 (fl_trans f6 f'))) :)⟩
  · exact ⟨-100001, a, u, v, (by rw [fX7_write, xq_hasnt w r hx, obp_some]; (try dsimp only [bd]); exact if_pos l32_0.symm), (by rw [fX8_write, rq_isnt w q hx, obp_some]; (try dsimp only [bd]); exact if_pos l32_0.symm), R⟩
theorem s_writeLog (R : RLs B a u v) : SIM B (fX7_writeLog u) (fX8_writeLog v) := by
  obtain ⟨w, r, q⟩ := R.1
  have hn := wf_n w
  have hl := wf_l w
  have hh := wf_h w
  have L0 : LNp 0 (up2 u.2.2.2.2.2.2 0 1 (nI 0)) (up2 v 0 21 (nI 0)) := ⟨rfl, rfl, fun i hi => absurd hi (Nat.not_lt_zero i)⟩
  have f0 : FL v (up2 v 0 21 (nI 0)) := ⟨fun b h0 h7 => up2_o h0, fun k hk => upd_ne hk⟩
  have h7 : fX7_writeLog u = fX7_writeLog_9 vF (nI 0) (wLine u (up2 u.2.2.2.2.2.2 0 1 (nI 0))) := by
    rw [fX7_writeLog, fX3_clear]
    rfl
  have h8 : fX8_writeLog v = fX8_writeLog_7 vF (nI 0) (up2 v 0 21 (nI 0)) := rfl
  have in10 : ∀ {k}, k < 10 → ¬ (nI k < 0 ∨ 10 ≤ Int32.toNatClampNeg (nI k)) := fun hk => (nJ_in (n := 10) hk (by omega)).mp
  -- one sight
  have st : ∀ n k j l v1, k < a 0 3 → j + 13 ≤ 140 → LNp j l v1 → FL v v1 → ∃ j' l' v', fX7_writeLog_33 (fun a0 a1 => fX7_writeLog_9 n a0 a1) (nI k) (wLine u l) = fX7_writeLog_9 n (nI (k + 1)) (wLine u l') ∧ (fX8_writeLog_27 (fun a0 a1 => fX8_writeLog_7 n a0 a1) (nI k) v1 = fX8_writeLog_7 n (nI (k + 1)) v') ∧ LNp j' l' v' ∧ j' ≤ j + 11 ∧ FL v v' := by
    intro n k j l v1 hk hj L f
    have g := wf_g w k hk
    have q1 : ∀ {v'}, FL v v' → RR a (v' 1) := fun f => by rw [f.1 1 (by omega) (by omega)]; exact q
    have e36 : (36 : Int32) + (3 : Int32) * nI k = nI (36 + 3 * k) := by
      rw [show (36 : Int32) = nI 36 from rfl, show (3 : Int32) = nI 3 from rfl, nI_mul, nJ_add]
    have e37 : nI (36 + 3 * k) + (1 : Int32) = nI (36 + 3 * k + 1) := nJ_add _ 1
    obtain ⟨j1, l1, v2, p1, p2, L1, hj1, f1⟩ := num_nn 0 (m := a 5 k) (by omega) (by omega) (by omega) L
    obtain ⟨l2, v3, p3, p4, L2, f2⟩ := ln_put (c := 58) (by omega) (by omega) L1
    obtain ⟨j3, l3, v4, p5, p6, L3, hj3, f3⟩ := num_nn 8 (m := a 6 k) (by omega) (by omega) (by omega) L2
    refine ⟨j3, l3, v4, ?_, ?_, L3, by omega, fl_trans f (fl_trans f1 (fl_trans f2 f3))⟩
    · rw [fX7_writeLog_33, if_neg (in10 (by omega)), nJ_clamp (by omega)]
      show ((fX3_putNumber (u.2.1.1.1 5 k) l).bind _) = _
      rw [rx_s r k hk, p1, Option.bind_some]
      dsimp only [bd]
      rw [show (58 : Int32) = nI 58 from rfl]
      show ((fX3_put (nI 58) l1).bind _) = _
      rw [p3, Option.bind_some]
      have i10 : ¬ (nI k < 0 ∨ 10 ≤ k) := by have := in10 (k := k) (by omega); rw [nJ_clamp (by omega)] at this; exact this
      simp only [i10, if_false]
      show ((fX3_putNumber (u.2.1.1.1 6 k) l2).bind _) = _
      rw [rx_t r k hk, p5, Option.bind_some, l32_1, nJ_add]
      rfl
    · rw [fX8_writeLog_27, e36, if_neg (in66 (by omega)), nJ_clamp (by omega), rr_s (q1 f) k hk, p2, Option.bind_some, show (58 : Int32) = nI 58 from rfl, p4, Option.bind_some, e37, if_neg (in66 (by omega)), nJ_clamp (by omega), rr_t (q1 (fl_trans f (fl_trans f1 f2))) k hk, p6, Option.bind_some]
      dsimp only [bd]
      rw [l32_1, nJ_add]
  have main : ∀ d k n j l v1, k + d = a 0 3 → d < n → j ≤ 12 * k → LNp j l v1 → FL v v1 → ∃ j' l' v', fX7_writeLog_9 n (nI k) (wLine u l) = some (nI j', wLine u l') ∧ fX8_writeLog_7 n (nI k) v1 = some (nI j', v') ∧ j' ≤ 140 ∧ LNp j' l' v' ∧ FL v v' := by
    intro d
    induction d with
    | zero =>
      intro k n j l v1 h1 h2 h3 L f
      obtain ⟨n, rfl⟩ : ∃ m, n = m + 1 := ⟨n - 1, by omega⟩
      have hk : k = a 0 3 := by omega
      have q1 : RR a (v1 1) := by rw [f.1 1 (by omega) (by omega)]; exact q
      refine ⟨j, l, v1, ?_, ?_, by omega, L, f⟩
      · rw [fX7_writeLog_9, show (wLine u l).2.1.1.1 0 7 = nI (a 0 3) from rx_l r, if_pos (by rw [hk]; exact Int32.le_refl _), show (wLine u l).2.2.2.2.2.2 0 1 = nI j from L.1]
      · rw [fX8_writeLog_7, rr_l q1, if_pos (by rw [hk]; exact Int32.le_refl _), L.2.1]
    | succ d ih =>
      intro k n j l v1 h1 h2 h3 L f
      obtain ⟨n, rfl⟩ : ∃ m, n = m + 1 := ⟨n - 1, by omega⟩
      have q1 : RR a (v1 1) := by rw [f.1 1 (by omega) (by omega)]; exact q
      have c7 : ¬ (wLine u l).2.1.1.1 0 7 ≤ nI k := by
        rw [show (wLine u l).2.1.1.1 0 7 = nI (a 0 3) from rx_l r, nJ_le (by omega) (by omega)]
        omega
      have c8 : ¬ v1 1 3 ≤ nI k := by
        rw [rr_l q1, nJ_le (by omega) (by omega)]
        omega
      rw [fX7_writeLog_9, if_neg c7, fX8_writeLog_7, if_neg c8]
      by_cases e : k = 0
      · have ck : nI k ≤ 0 := by rw [e]; decide
        obtain ⟨j', l', v', s1, s2, L', hj', f'⟩ := st n k j l v1 (by omega) (by omega) L f
        obtain ⟨j2, l2, v2, t1, t2, t3⟩ := ih (k + 1) n j' l' v' (by omega) (by omega) (by omega) L' f'
        rw [if_pos ck, if_pos ck, s1, s2]
        exact ⟨j2, l2, v2, t1, t2, t3⟩
      · have ck : ¬ nI k ≤ 0 := by rw [l32_0, nJ_le (by omega) (by omega)]; omega
        obtain ⟨l0, v0, p1, p2, Lp, fp⟩ := ln_put (c := 32) (by omega) (by omega) L
        obtain ⟨j', l', v', s1, s2, L', hj', f'⟩ := st n k (j + 1) l0 v0 (by omega) (by omega) Lp (fl_trans f fp)
        obtain ⟨j2, l2, v2, t1, t2, t3⟩ := ih (k + 1) n j' l' v' (by omega) (by omega) (by omega) L' f'
        rw [if_neg ck, if_neg ck, show (32 : Int32) = nI 32 from rfl, p2, Option.bind_some, s2]
        refine ⟨j2, l2, v2, ?_, t2, t3⟩
        show (fX3_put (nI 32) l).bind _ = _
        rw [p1, Option.bind_some]
        dsimp only [bd]
        rw [← t1, ← s1]
        rfl
  obtain ⟨j', l', v', e1, e2, hj', L', f'⟩ := main (a 0 3) 0 vF 0 _ _ (by omega) (by unfold vF; omega) (by omega) L0 f0
  exact ⟨nI j', a, wLine u l', v', by rw [h7, e1], by rw [h8, e2], rl_line R hj' L' f'⟩
end
