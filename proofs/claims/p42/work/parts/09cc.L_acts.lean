def hf_L_acts (x1 : Int32) (f0_0 : Int32) (u : vZ) : Option (Int32 × Int32 × vZ) := obp (fX7_account (0 : Int32) u) fun y2 u1 => (hf_L_some y2 f0_0).bind fun z3 => bd ((z3.1 : Int32)) fun y5 => bd ((x1 - x1 / (30 : Int32) * (30 : Int32) : Int32)) fun y6 => (if y6 = 0 then (hf_L_anyMood (z3.2)).bind fun z7 => obp (fX7_sail (z7.1) u1) fun y10 u9 => some (y10, z7.2, u9) else (if y6 = 1 then (hf_L_anyMood (z3.2)).bind fun z12 => obp (fX7_sail (z12.1) u1) fun y15 u14 => some (y15, z12.2, u14) else (if y6 = 2 then (hf_L_anyMood (z3.2)).bind fun z17 => obp (fX7_sail (z17.1) u1) fun y20 u19 => some (y20, z17.2, u19) else (if y6 = 3 then (hf_L_anyMood (z3.2)).bind fun z22 => obp (fX7_sail (z22.1) u1) fun y25 u24 => some (y25, z22.2, u24) else (if y6 = 4 then obp (fX7_shore y5 u1) fun y28 u27 => some (y28, z3.2, u27) else (if y6 = 5 then (hf_L_anyMood (z3.2)).bind fun z30 => obp (fX7_mood y5 (z30.1) u1) fun y33 u32 => some (y33, z30.2, u32) else (if y6 = 6 then (hf_L_anyMood (z3.2)).bind fun z35 => obp (fX7_mood y5 (z35.1) u1) fun y38 u37 => some (y38, z35.2, u37) else (if y6 = 7 then (hf_L_anyMood (z3.2)).bind fun z40 => obp (fX7_mood y5 (z40.1) u1) fun y43 u42 => some (y43, z40.2, u42) else (if y6 = 8 then (hf_X8_next (20 : Int32) (z3.2)).bind fun z45 => (if z45.1 = 0 then obp (fX7_rum y5 (10 : Int32) u1) fun y53 u52 => some (y53, z45.2, u52) else (hf_X8_next (5 : Int32) (z45.2)).bind fun z48 => obp (fX7_rum y5 ((1 : Int32) + (z48.1)) u1) fun y51 u50 => some (y51, z48.2, u50)) else (if y6 = 9 then (hf_X8_next (20 : Int32) (z3.2)).bind fun z55 => (if z55.1 = 0 then obp (fX7_rum y5 (10 : Int32) u1) fun y63 u62 => some (y63, z55.2, u62) else (hf_X8_next (5 : Int32) (z55.2)).bind fun z58 => obp (fX7_rum y5 ((1 : Int32) + (z58.1)) u1) fun y61 u60 => some (y61, z58.2, u60)) else (if y6 = 10 then (hf_X8_next (20 : Int32) (z3.2)).bind fun z65 => (if z65.1 = 0 then obp (fX7_rum y5 (10 : Int32) u1) fun y73 u72 => some (y73, z65.2, u72) else (hf_X8_next (5 : Int32) (z65.2)).bind fun z68 => obp (fX7_rum y5 ((1 : Int32) + (z68.1)) u1) fun y71 u70 => some (y71, z68.2, u70)) else (if y6 = 11 then (hf_L_some (4 : Int32) (z3.2)).bind fun z75 => obp (fX7_watch y5 (z75.1) u1) fun y78 u77 => some (y78, z75.2, u77) else (if y6 = 12 then (hf_L_some (4 : Int32) (z3.2)).bind fun z80 => obp (fX7_watch y5 (z80.1) u1) fun y83 u82 => some (y83, z80.2, u82) else (if y6 = 13 then (hf_L_some (4 : Int32) (z3.2)).bind fun z85 => (hf_X8_next (20 : Int32) (z85.2)).bind fun z87 => (if z87.1 = 0 then obp (fX7_horizon (z85.1) (9 : Int32) u1) fun y95 u94 => some (y95, z87.2, u94) else (hf_X8_next (9 : Int32) (z87.2)).bind fun z90 => obp (fX7_horizon (z85.1) (z90.1) u1) fun y93 u92 => some (y93, z90.2, u92)) else (if y6 = 14 then (hf_L_some (4 : Int32) (z3.2)).bind fun z97 => (hf_X8_next (20 : Int32) (z97.2)).bind fun z99 => (if z99.1 = 0 then obp (fX7_horizon (z97.1) (9 : Int32) u1) fun y107 u106 => some (y107, z99.2, u106) else (hf_X8_next (9 : Int32) (z99.2)).bind fun z102 => obp (fX7_horizon (z97.1) (z102.1) u1) fun y105 u104 => some (y105, z102.2, u104)) else (if y6 = 15 then (hf_X8_next (20 : Int32) (z3.2)).bind fun z109 => (if z109.1 = 0 then obp (fX7_error (4 : Int32) u1) fun y117 u116 => some (y117, z109.2, u116) else (hf_X8_next (7 : Int32) (z109.2)).bind fun z112 => obp (fX7_error ((z112.1) - (3 : Int32)) u1) fun y115 u114 => some (y115, z112.2, u114)) else (if y6 = 16 then (hf_X8_next (20 : Int32) (z3.2)).bind fun z119 => (if z119.1 = 0 then obp (fX7_error (4 : Int32) u1) fun y127 u126 => some (y127, z119.2, u126) else (hf_X8_next (7 : Int32) (z119.2)).bind fun z122 => obp (fX7_error ((z122.1) - (3 : Int32)) u1) fun y125 u124 => some (y125, z122.2, u124)) else (if y6 = 17 then obp (fX7_sight y5 u1) fun y130 u129 => some (y130, z3.2, u129) else (if y6 = 18 then obp (fX7_sight y5 u1) fun y133 u132 => some (y133, z3.2, u132) else (if y6 = 19 then obp (fX7_sight y5 u1) fun y136 u135 => some (y136, z3.2, u135) else (if y6 = 20 then obp (fX7_sight y5 u1) fun y139 u138 => some (y139, z3.2, u138) else (if y6 = 21 then obp (fX7_sight y5 u1) fun y142 u141 => some (y142, z3.2, u141) else (if y6 = 22 then obp (fX7_sight y5 u1) fun y145 u144 => some (y145, z3.2, u144) else (if y6 = 23 then obp (fX7_sight y5 u1) fun y148 u147 => some (y148, z3.2, u147) else obp (fX7_hour u1) fun y151 u150 => some (y151, z3.2, u150)))))))))))))))))))))))))
set_option maxRecDepth 100000 in
set_option maxHeartbeats 4000000 in
theorem hk_L_acts_e {ad adK adV : Nat → Nat} {tS tF : Nat} {tX sK sV : Nat → Nat} {p : Program} {l : Launch} {e : Env} {s : State} {m : MethodId} {args : Array Value} {below : List Frame} {meth : Method} {c : Code} {A : Nat → Prop} {D : va_G} {cI cF cC cS cO cB cZ : ClassId} {Q : State → Prop} {q0 qs qo qt qv qr qx ql : Nat → Nat} {qh : Nat → Nat → Nat} {a0 : Nat} (C : vC (vE ad adK adV tS tF tX sK sV) p l s m args meth c A D (vT7 cI cF cC cS cO cB cZ) cL_acts 4 RL) {r0 : Int32} {r_o1 : Int32} {u0 : vZ} (RET : ∀ (q : Nat → Nat) (kc ks : Nat) (pc : Nat) (lv : List (Nat × Value)), True → decode cL_acts pc = .ok (.ireturn, 1) → vV p l e { frames := 8, cells := 0, slots := 0, locals := 183 } s m args below meth c A D 4 0 0 Q ([(a0, .inr (8, [.int r_o1]))] ++ wX q0 qs qo qt qv qr qx ql ad qh cI cF cC cS cO u0) pc lv [.int r0]) {x1 : Int32} {f0_0 : Int32} {u : vZ} (h : hf_L_acts x1 f0_0 u = some (r0, r_o1, u0)) : vV p l e { frames := 8, cells := 0, slots := 0, locals := 183 } s m args below meth c A D 4 0 0 Q ([(a0, .inr (8, [.int f0_0]))] ++ wX q0 qs qo qt qv qr qx ql ad qh cI cF cC cS cO u) 0 [(0, .ref (q0 0)), (1, .int x1), (2, .ref a0)] [] := by
  rw [hf_L_acts] at h
  refine vi_aload_n C 2 dL_acts_0 rfl ?_
  refine vi_aload_n C 0 dL_acts_1 rfl ?_
  refine vi_iconst (v := 0) C dL_acts_2 (by decide) ?_
  obtain ⟨y2, u1, hgu1, h⟩ := ob_p h
  refine cY_i (As := [.int (0 : Int32)]) (rest := [.ref a0]) (ud := u1) C 1 (mX7_account C.2.2.2.2.2.2.2.2.1 hgu1) 1 rfl tcX7_account tlL_37 tiX7_account tsX7_account rfl tnX7 tdX7_account ⟨Nat.le_of_ble_eq_true rfl, Nat.le_of_ble_eq_true rfl⟩ ⟨Nat.le_refl 0, Nat.le_refl 0⟩ rfl rfl (Nat.le_of_ble_eq_true rfl) dL_acts_3 ?_
  obtain ⟨z3, hgz3, h⟩ := ob_bd h
  refine vi_w C (w' := ([] ++ [(a0, .inr (8, [.int f0_0]))]) ++ wX q0 qs qo qt qv qr qx ql ad qh cI cF cC cS cO u1) rfl ?_
  refine vi_swp ?_
  refine g_ci C (g_runS (As := [.ref a0, .int y2]) (rest := []) (w1 := ([] ++ wX q0 qs qo qt qv qr qx ql ad qh cI cF cC cS cO u1)) (wc := [(a0, .inr (8, [.int f0_0]))]) C (hm_L_some (a0 := a0) (x1 := y2) (f0_0 := f0_0) (r0 := z3.1) (r_o1 := z3.2) C.2.2.2.2.2.2.2.2.1 hgz3) 2 rfl tcL_some tlL_40 ttL_some tnL tdL_some ⟨Nat.le_of_ble_eq_true rfl, Nat.le_of_ble_eq_true rfl⟩ ⟨Nat.le_refl 0, Nat.le_refl 0⟩ rfl (Nat.le_of_ble_eq_true rfl) dL_acts_6 rfl) rfl (fun q4 => ?_)
  refine vi_swp ?_
  refine vi_w C (w' := ([(a0, .inr (8, [.int (z3.2)]))] ++ wX q0 qs qo qt qv qr qx ql ad qh cI cF cC cS cO u1)) rfl ?_
  refine vi_kk (kc1 := 0) (ks1 := 0) rfl rfl ?_
  obtain ⟨y5, ey5, h⟩ := ob_nm h
  refine vi_nmi ey5 ?_
  refine vi_istore_n (lv' := [(3, .int y5), (0, .ref (q0 0)), (1, .int x1), (2, .ref a0)]) C dL_acts_9 rfl (by decide) rfl ?_
  refine vi_iload_n C 2 dL_acts_10 rfl ?_
  refine vi_bipush (v := 30) C dL_acts_11 (by decide) ?_
  refine vi_irem C dL_acts_13 (by decide) ?_
  obtain ⟨y6, ey6, h⟩ := ob_nm h
  refine vi_nmi ey6 ?_
  by_cases hc11 : y6 = 0
  · have h := ob_t h hc11
    refine vi_tswIn (off := 110) (tgt := 124) C dL_acts_14 (by rw [hc11]; decide) (by rw [hc11]; decide) (by rw [hc11]; rfl) (by decide) ?_
    refine vi_aload_n C 1 dL_acts_124 rfl ?_
    refine vi_aload_n C 3 dL_acts_125 rfl ?_
    obtain ⟨z7, hgz7, h⟩ := ob_bd h
    refine vi_w C (w' := ([] ++ [(a0, .inr (8, [.int (z3.2)]))]) ++ wX q0 qs qo qt qv qr qx ql ad qh cI cF cC cS cO u1) rfl ?_
    refine vi_swp ?_
    refine g_ci C (g_runS (As := [.ref a0]) (rest := [.ref (q0 0)]) (w1 := ([] ++ wX q0 qs qo qt qv qr qx ql ad qh cI cF cC cS cO u1)) (wc := [(a0, .inr (8, [.int (z3.2)]))]) C (hm_L_anyMood (a0 := a0) (f0_0 := (z3.2)) (r0 := z7.1) (r_o1 := z7.2) C.2.2.2.2.2.2.2.2.1 hgz7) 1 rfl tcL_anyMood tlL_46 ttL_anyMood tnL tdL_anyMood ⟨Nat.le_of_ble_eq_true rfl, Nat.le_of_ble_eq_true rfl⟩ ⟨Nat.le_refl 0, Nat.le_refl 0⟩ rfl (Nat.le_of_ble_eq_true rfl) dL_acts_126 rfl) rfl (fun q8 => ?_)
    refine vi_swp ?_
    refine vi_w C (w' := ([(a0, .inr (8, [.int (z7.2)]))] ++ wX q0 qs qo qt qv qr qx ql ad qh cI cF cC cS cO u1)) rfl ?_
    refine vi_kk (kc1 := 0) (ks1 := 0) rfl rfl ?_
    obtain ⟨y10, u9, hgu9, h⟩ := ob_p h
    refine cY_i (As := [.int (z7.1)]) (rest := []) (ud := u9) C 1 (mX7_sail C.2.2.2.2.2.2.2.2.1 hgu9) 1 rfl tcX7_sail tlL_50 tiX7_sail tsX7_sail rfl tnX7 tdX7_sail ⟨Nat.le_of_ble_eq_true rfl, Nat.le_of_ble_eq_true rfl⟩ ⟨Nat.le_refl 0, Nat.le_refl 0⟩ rfl rfl (Nat.le_of_ble_eq_true rfl) dL_acts_129 ?_
    cases h
    exact RET (fun j => [].getD j 0) 0 0 _ _ trivial dL_acts_132
  · replace h := ob_f h hc11
    by_cases hc16 : y6 = 1
    · have h := ob_t h hc16
      refine vi_tswIn (off := 110) (tgt := 124) C dL_acts_14 (by rw [hc16]; decide) (by rw [hc16]; decide) (by rw [hc16]; rfl) (by decide) ?_
      refine vi_aload_n C 1 dL_acts_124 rfl ?_
      refine vi_aload_n C 3 dL_acts_125 rfl ?_
      obtain ⟨z12, hgz12, h⟩ := ob_bd h
      refine vi_w C (w' := ([] ++ [(a0, .inr (8, [.int (z3.2)]))]) ++ wX q0 qs qo qt qv qr qx ql ad qh cI cF cC cS cO u1) rfl ?_
      refine vi_swp ?_
      refine g_ci C (g_runS (As := [.ref a0]) (rest := [.ref (q0 0)]) (w1 := ([] ++ wX q0 qs qo qt qv qr qx ql ad qh cI cF cC cS cO u1)) (wc := [(a0, .inr (8, [.int (z3.2)]))]) C (hm_L_anyMood (a0 := a0) (f0_0 := (z3.2)) (r0 := z12.1) (r_o1 := z12.2) C.2.2.2.2.2.2.2.2.1 hgz12) 1 rfl tcL_anyMood tlL_46 ttL_anyMood tnL tdL_anyMood ⟨Nat.le_of_ble_eq_true rfl, Nat.le_of_ble_eq_true rfl⟩ ⟨Nat.le_refl 0, Nat.le_refl 0⟩ rfl (Nat.le_of_ble_eq_true rfl) dL_acts_126 rfl) rfl (fun q13 => ?_)
      refine vi_swp ?_
      refine vi_w C (w' := ([(a0, .inr (8, [.int (z12.2)]))] ++ wX q0 qs qo qt qv qr qx ql ad qh cI cF cC cS cO u1)) rfl ?_
      refine vi_kk (kc1 := 0) (ks1 := 0) rfl rfl ?_
      obtain ⟨y15, u14, hgu14, h⟩ := ob_p h
      refine cY_i (As := [.int (z12.1)]) (rest := []) (ud := u14) C 1 (mX7_sail C.2.2.2.2.2.2.2.2.1 hgu14) 1 rfl tcX7_sail tlL_50 tiX7_sail tsX7_sail rfl tnX7 tdX7_sail ⟨Nat.le_of_ble_eq_true rfl, Nat.le_of_ble_eq_true rfl⟩ ⟨Nat.le_refl 0, Nat.le_refl 0⟩ rfl rfl (Nat.le_of_ble_eq_true rfl) dL_acts_129 ?_
      cases h
      exact RET (fun j => [].getD j 0) 0 0 _ _ trivial dL_acts_132
    · replace h := ob_f h hc16
      by_cases hc21 : y6 = 2
      · have h := ob_t h hc21
        refine vi_tswIn (off := 110) (tgt := 124) C dL_acts_14 (by rw [hc21]; decide) (by rw [hc21]; decide) (by rw [hc21]; rfl) (by decide) ?_
        refine vi_aload_n C 1 dL_acts_124 rfl ?_
        refine vi_aload_n C 3 dL_acts_125 rfl ?_
        obtain ⟨z17, hgz17, h⟩ := ob_bd h
        refine vi_w C (w' := ([] ++ [(a0, .inr (8, [.int (z3.2)]))]) ++ wX q0 qs qo qt qv qr qx ql ad qh cI cF cC cS cO u1) rfl ?_
        refine vi_swp ?_
        refine g_ci C (g_runS (As := [.ref a0]) (rest := [.ref (q0 0)]) (w1 := ([] ++ wX q0 qs qo qt qv qr qx ql ad qh cI cF cC cS cO u1)) (wc := [(a0, .inr (8, [.int (z3.2)]))]) C (hm_L_anyMood (a0 := a0) (f0_0 := (z3.2)) (r0 := z17.1) (r_o1 := z17.2) C.2.2.2.2.2.2.2.2.1 hgz17) 1 rfl tcL_anyMood tlL_46 ttL_anyMood tnL tdL_anyMood ⟨Nat.le_of_ble_eq_true rfl, Nat.le_of_ble_eq_true rfl⟩ ⟨Nat.le_refl 0, Nat.le_refl 0⟩ rfl (Nat.le_of_ble_eq_true rfl) dL_acts_126 rfl) rfl (fun q18 => ?_)
        refine vi_swp ?_
        refine vi_w C (w' := ([(a0, .inr (8, [.int (z17.2)]))] ++ wX q0 qs qo qt qv qr qx ql ad qh cI cF cC cS cO u1)) rfl ?_
        refine vi_kk (kc1 := 0) (ks1 := 0) rfl rfl ?_
        obtain ⟨y20, u19, hgu19, h⟩ := ob_p h
        refine cY_i (As := [.int (z17.1)]) (rest := []) (ud := u19) C 1 (mX7_sail C.2.2.2.2.2.2.2.2.1 hgu19) 1 rfl tcX7_sail tlL_50 tiX7_sail tsX7_sail rfl tnX7 tdX7_sail ⟨Nat.le_of_ble_eq_true rfl, Nat.le_of_ble_eq_true rfl⟩ ⟨Nat.le_refl 0, Nat.le_refl 0⟩ rfl rfl (Nat.le_of_ble_eq_true rfl) dL_acts_129 ?_
        cases h
        exact RET (fun j => [].getD j 0) 0 0 _ _ trivial dL_acts_132
      · replace h := ob_f h hc21
        by_cases hc26 : y6 = 3
        · have h := ob_t h hc26
          refine vi_tswIn (off := 110) (tgt := 124) C dL_acts_14 (by rw [hc26]; decide) (by rw [hc26]; decide) (by rw [hc26]; rfl) (by decide) ?_
          refine vi_aload_n C 1 dL_acts_124 rfl ?_
          refine vi_aload_n C 3 dL_acts_125 rfl ?_
          obtain ⟨z22, hgz22, h⟩ := ob_bd h
          refine vi_w C (w' := ([] ++ [(a0, .inr (8, [.int (z3.2)]))]) ++ wX q0 qs qo qt qv qr qx ql ad qh cI cF cC cS cO u1) rfl ?_
          refine vi_swp ?_
          refine g_ci C (g_runS (As := [.ref a0]) (rest := [.ref (q0 0)]) (w1 := ([] ++ wX q0 qs qo qt qv qr qx ql ad qh cI cF cC cS cO u1)) (wc := [(a0, .inr (8, [.int (z3.2)]))]) C (hm_L_anyMood (a0 := a0) (f0_0 := (z3.2)) (r0 := z22.1) (r_o1 := z22.2) C.2.2.2.2.2.2.2.2.1 hgz22) 1 rfl tcL_anyMood tlL_46 ttL_anyMood tnL tdL_anyMood ⟨Nat.le_of_ble_eq_true rfl, Nat.le_of_ble_eq_true rfl⟩ ⟨Nat.le_refl 0, Nat.le_refl 0⟩ rfl (Nat.le_of_ble_eq_true rfl) dL_acts_126 rfl) rfl (fun q23 => ?_)
          refine vi_swp ?_
          refine vi_w C (w' := ([(a0, .inr (8, [.int (z22.2)]))] ++ wX q0 qs qo qt qv qr qx ql ad qh cI cF cC cS cO u1)) rfl ?_
          refine vi_kk (kc1 := 0) (ks1 := 0) rfl rfl ?_
          obtain ⟨y25, u24, hgu24, h⟩ := ob_p h
          refine cY_i (As := [.int (z22.1)]) (rest := []) (ud := u24) C 1 (mX7_sail C.2.2.2.2.2.2.2.2.1 hgu24) 1 rfl tcX7_sail tlL_50 tiX7_sail tsX7_sail rfl tnX7 tdX7_sail ⟨Nat.le_of_ble_eq_true rfl, Nat.le_of_ble_eq_true rfl⟩ ⟨Nat.le_refl 0, Nat.le_refl 0⟩ rfl rfl (Nat.le_of_ble_eq_true rfl) dL_acts_129 ?_
          cases h
          exact RET (fun j => [].getD j 0) 0 0 _ _ trivial dL_acts_132
        · replace h := ob_f h hc26
          by_cases hc29 : y6 = 4
          · have h := ob_t h hc29
            refine vi_tswIn (off := 119) (tgt := 133) C dL_acts_14 (by rw [hc29]; decide) (by rw [hc29]; decide) (by rw [hc29]; rfl) (by decide) ?_
            refine vi_aload_n C 1 dL_acts_133 rfl ?_
            refine vi_iload_n C 0 dL_acts_134 rfl ?_
            obtain ⟨y28, u27, hgu27, h⟩ := ob_p h
            refine cY_i (As := [.int y5]) (rest := []) (ud := u27) C 1 (mX7_shore C.2.2.2.2.2.2.2.2.1 hgu27) 1 rfl tcX7_shore tlL_53 tiX7_shore tsX7_shore rfl tnX7 tdX7_shore ⟨Nat.le_of_ble_eq_true rfl, Nat.le_of_ble_eq_true rfl⟩ ⟨Nat.le_refl 0, Nat.le_refl 0⟩ rfl rfl (Nat.le_of_ble_eq_true rfl) dL_acts_135 ?_
            cases h
            exact RET (fun j => [].getD j 0) 0 0 _ _ trivial dL_acts_138
          · replace h := ob_f h hc29
            by_cases hc34 : y6 = 5
            · have h := ob_t h hc34
              refine vi_tswIn (off := 125) (tgt := 139) C dL_acts_14 (by rw [hc34]; decide) (by rw [hc34]; decide) (by rw [hc34]; rfl) (by decide) ?_
              refine vi_aload_n C 1 dL_acts_139 rfl ?_
              refine vi_iload_n C 0 dL_acts_140 rfl ?_
              refine vi_aload_n C 3 dL_acts_141 rfl ?_
              obtain ⟨z30, hgz30, h⟩ := ob_bd h
              refine vi_w C (w' := ([] ++ [(a0, .inr (8, [.int (z3.2)]))]) ++ wX q0 qs qo qt qv qr qx ql ad qh cI cF cC cS cO u1) rfl ?_
              refine vi_swp ?_
              refine g_ci C (g_runS (As := [.ref a0]) (rest := [.int y5, .ref (q0 0)]) (w1 := ([] ++ wX q0 qs qo qt qv qr qx ql ad qh cI cF cC cS cO u1)) (wc := [(a0, .inr (8, [.int (z3.2)]))]) C (hm_L_anyMood (a0 := a0) (f0_0 := (z3.2)) (r0 := z30.1) (r_o1 := z30.2) C.2.2.2.2.2.2.2.2.1 hgz30) 1 rfl tcL_anyMood tlL_46 ttL_anyMood tnL tdL_anyMood ⟨Nat.le_of_ble_eq_true rfl, Nat.le_of_ble_eq_true rfl⟩ ⟨Nat.le_refl 0, Nat.le_refl 0⟩ rfl (Nat.le_of_ble_eq_true rfl) dL_acts_142 rfl) rfl (fun q31 => ?_)
              refine vi_swp ?_
              refine vi_w C (w' := ([(a0, .inr (8, [.int (z30.2)]))] ++ wX q0 qs qo qt qv qr qx ql ad qh cI cF cC cS cO u1)) rfl ?_
              refine vi_kk (kc1 := 0) (ks1 := 0) rfl rfl ?_
              obtain ⟨y33, u32, hgu32, h⟩ := ob_p h
              refine cY_i (As := [.int y5, .int (z30.1)]) (rest := []) (ud := u32) C 1 (mX7_mood C.2.2.2.2.2.2.2.2.1 hgu32) 2 rfl tcX7_mood tlL_56 tiX7_mood tsX7_mood rfl tnX7 tdX7_mood ⟨Nat.le_of_ble_eq_true rfl, Nat.le_of_ble_eq_true rfl⟩ ⟨Nat.le_refl 0, Nat.le_refl 0⟩ rfl rfl (Nat.le_of_ble_eq_true rfl) dL_acts_145 ?_
              cases h
              exact RET (fun j => [].getD j 0) 0 0 _ _ trivial dL_acts_148
            · replace h := ob_f h hc34
              by_cases hc39 : y6 = 6
              · have h := ob_t h hc39
                refine vi_tswIn (off := 125) (tgt := 139) C dL_acts_14 (by rw [hc39]; decide) (by rw [hc39]; decide) (by rw [hc39]; rfl) (by decide) ?_
                refine vi_aload_n C 1 dL_acts_139 rfl ?_
                refine vi_iload_n C 0 dL_acts_140 rfl ?_
                refine vi_aload_n C 3 dL_acts_141 rfl ?_
                obtain ⟨z35, hgz35, h⟩ := ob_bd h
                refine vi_w C (w' := ([] ++ [(a0, .inr (8, [.int (z3.2)]))]) ++ wX q0 qs qo qt qv qr qx ql ad qh cI cF cC cS cO u1) rfl ?_
                refine vi_swp ?_
                refine g_ci C (g_runS (As := [.ref a0]) (rest := [.int y5, .ref (q0 0)]) (w1 := ([] ++ wX q0 qs qo qt qv qr qx ql ad qh cI cF cC cS cO u1)) (wc := [(a0, .inr (8, [.int (z3.2)]))]) C (hm_L_anyMood (a0 := a0) (f0_0 := (z3.2)) (r0 := z35.1) (r_o1 := z35.2) C.2.2.2.2.2.2.2.2.1 hgz35) 1 rfl tcL_anyMood tlL_46 ttL_anyMood tnL tdL_anyMood ⟨Nat.le_of_ble_eq_true rfl, Nat.le_of_ble_eq_true rfl⟩ ⟨Nat.le_refl 0, Nat.le_refl 0⟩ rfl (Nat.le_of_ble_eq_true rfl) dL_acts_142 rfl) rfl (fun q36 => ?_)
                refine vi_swp ?_
                refine vi_w C (w' := ([(a0, .inr (8, [.int (z35.2)]))] ++ wX q0 qs qo qt qv qr qx ql ad qh cI cF cC cS cO u1)) rfl ?_
                refine vi_kk (kc1 := 0) (ks1 := 0) rfl rfl ?_
                obtain ⟨y38, u37, hgu37, h⟩ := ob_p h
                refine cY_i (As := [.int y5, .int (z35.1)]) (rest := []) (ud := u37) C 1 (mX7_mood C.2.2.2.2.2.2.2.2.1 hgu37) 2 rfl tcX7_mood tlL_56 tiX7_mood tsX7_mood rfl tnX7 tdX7_mood ⟨Nat.le_of_ble_eq_true rfl, Nat.le_of_ble_eq_true rfl⟩ ⟨Nat.le_refl 0, Nat.le_refl 0⟩ rfl rfl (Nat.le_of_ble_eq_true rfl) dL_acts_145 ?_
                cases h
                exact RET (fun j => [].getD j 0) 0 0 _ _ trivial dL_acts_148
              · replace h := ob_f h hc39
                by_cases hc44 : y6 = 7
                · have h := ob_t h hc44
                  refine vi_tswIn (off := 125) (tgt := 139) C dL_acts_14 (by rw [hc44]; decide) (by rw [hc44]; decide) (by rw [hc44]; rfl) (by decide) ?_
                  refine vi_aload_n C 1 dL_acts_139 rfl ?_
                  refine vi_iload_n C 0 dL_acts_140 rfl ?_
                  refine vi_aload_n C 3 dL_acts_141 rfl ?_
                  obtain ⟨z40, hgz40, h⟩ := ob_bd h
                  refine vi_w C (w' := ([] ++ [(a0, .inr (8, [.int (z3.2)]))]) ++ wX q0 qs qo qt qv qr qx ql ad qh cI cF cC cS cO u1) rfl ?_
                  refine vi_swp ?_
                  refine g_ci C (g_runS (As := [.ref a0]) (rest := [.int y5, .ref (q0 0)]) (w1 := ([] ++ wX q0 qs qo qt qv qr qx ql ad qh cI cF cC cS cO u1)) (wc := [(a0, .inr (8, [.int (z3.2)]))]) C (hm_L_anyMood (a0 := a0) (f0_0 := (z3.2)) (r0 := z40.1) (r_o1 := z40.2) C.2.2.2.2.2.2.2.2.1 hgz40) 1 rfl tcL_anyMood tlL_46 ttL_anyMood tnL tdL_anyMood ⟨Nat.le_of_ble_eq_true rfl, Nat.le_of_ble_eq_true rfl⟩ ⟨Nat.le_refl 0, Nat.le_refl 0⟩ rfl (Nat.le_of_ble_eq_true rfl) dL_acts_142 rfl) rfl (fun q41 => ?_)
                  refine vi_swp ?_
                  refine vi_w C (w' := ([(a0, .inr (8, [.int (z40.2)]))] ++ wX q0 qs qo qt qv qr qx ql ad qh cI cF cC cS cO u1)) rfl ?_
                  refine vi_kk (kc1 := 0) (ks1 := 0) rfl rfl ?_
                  obtain ⟨y43, u42, hgu42, h⟩ := ob_p h
                  refine cY_i (As := [.int y5, .int (z40.1)]) (rest := []) (ud := u42) C 1 (mX7_mood C.2.2.2.2.2.2.2.2.1 hgu42) 2 rfl tcX7_mood tlL_56 tiX7_mood tsX7_mood rfl tnX7 tdX7_mood ⟨Nat.le_of_ble_eq_true rfl, Nat.le_of_ble_eq_true rfl⟩ ⟨Nat.le_refl 0, Nat.le_refl 0⟩ rfl rfl (Nat.le_of_ble_eq_true rfl) dL_acts_145 ?_
                  cases h
                  exact RET (fun j => [].getD j 0) 0 0 _ _ trivial dL_acts_148
                · replace h := ob_f h hc44
                  by_cases hc54 : y6 = 8
                  · have h := ob_t h hc54
                    refine vi_tswIn (off := 135) (tgt := 149) C dL_acts_14 (by rw [hc54]; decide) (by rw [hc54]; decide) (by rw [hc54]; rfl) (by decide) ?_
                    refine vi_aload_n C 1 dL_acts_149 rfl ?_
                    refine vi_iload_n C 0 dL_acts_150 rfl ?_
                    refine vi_aload_n C 3 dL_acts_151 rfl ?_
                    refine vi_bipush (v := 20) C dL_acts_152 (by decide) ?_
                    obtain ⟨z45, hgz45, h⟩ := ob_bd h
                    refine vi_w C (w' := ([] ++ [(a0, .inr (8, [.int (z3.2)]))]) ++ wX q0 qs qo qt qv qr qx ql ad qh cI cF cC cS cO u1) rfl ?_
                    refine vi_swp ?_
                    refine g_ci C (g_runV (T := TX8) (N := 1) (ci := 8) (fs := [.int (z3.2)]) (As := [.int (20 : Int32)]) (rest := [.int y5, .ref (q0 0)]) (w1 := ([] ++ wX q0 qs qo qt qv qr qx ql ad qh cI cF cC cS cO u1)) (wc := [(a0, .inr (8, [.int (z3.2)]))]) C (hm_X8_next (a0 := a0) (x1 := (20 : Int32)) (f0_0 := (z3.2)) (r0 := z45.1) (r_o1 := z45.2) C.2.2.2.2.2.2.2.2.1 hgz45) 1 rfl tcX8_next tlL_23 tiX8_next tsX8_next tnX8 tdX8_next ⟨Nat.le_of_ble_eq_true rfl, Nat.le_of_ble_eq_true rfl⟩ ⟨Nat.le_refl 0, Nat.le_refl 0⟩ (0 + 101 + 0) rfl rfl rfl (Nat.le_of_ble_eq_true rfl) dL_acts_154 rfl) rfl (fun q46 => ?_)
                    refine vi_swp ?_
                    refine vi_w C (w' := ([(a0, .inr (8, [.int (z45.2)]))] ++ wX q0 qs qo qt qv qr qx ql ad qh cI cF cC cS cO u1)) rfl ?_
                    refine vi_kk (kc1 := 0) (ks1 := 0) rfl rfl ?_
                    refine vi_if_ne (tgt := 165) C dL_acts_157 (by decide) (fun hc47 => ?_) (fun hc47 => ?_)
                    · have h := ob_f h hc47
                      refine vi_iconst (v := 1) C dL_acts_165 (by decide) ?_
                      refine vi_aload_n C 3 dL_acts_166 rfl ?_
                      refine vi_iconst (v := 5) C dL_acts_167 (by decide) ?_
                      obtain ⟨z48, hgz48, h⟩ := ob_bd h
                      refine vi_w C (w' := ([] ++ [(a0, .inr (8, [.int (z45.2)]))]) ++ wX q0 qs qo qt qv qr qx ql ad qh cI cF cC cS cO u1) rfl ?_
                      refine vi_swp ?_
                      refine g_ci C (g_runV (T := TX8) (N := 1) (ci := 8) (fs := [.int (z45.2)]) (As := [.int (5 : Int32)]) (rest := [.int (1 : Int32), .int y5, .ref (q0 0)]) (w1 := ([] ++ wX q0 qs qo qt qv qr qx ql ad qh cI cF cC cS cO u1)) (wc := [(a0, .inr (8, [.int (z45.2)]))]) C (hm_X8_next (a0 := a0) (x1 := (5 : Int32)) (f0_0 := (z45.2)) (r0 := z48.1) (r_o1 := z48.2) C.2.2.2.2.2.2.2.2.1 hgz48) 1 rfl tcX8_next tlL_23 tiX8_next tsX8_next tnX8 tdX8_next ⟨Nat.le_of_ble_eq_true rfl, Nat.le_of_ble_eq_true rfl⟩ ⟨Nat.le_refl 0, Nat.le_refl 0⟩ (0 + 101 + 0) rfl rfl rfl (Nat.le_of_ble_eq_true rfl) dL_acts_168 rfl) rfl (fun q49 => ?_)
                      refine vi_swp ?_
                      refine vi_w C (w' := ([(a0, .inr (8, [.int (z48.2)]))] ++ wX q0 qs qo qt qv qr qx ql ad qh cI cF cC cS cO u1)) rfl ?_
                      refine vi_kk (kc1 := 0) (ks1 := 0) rfl rfl ?_
                      refine vi_iadd C dL_acts_171 ?_
                      obtain ⟨y51, u50, hgu50, h⟩ := ob_p h
                      refine cY_i (As := [.int y5, .int ((1 : Int32) + (z48.1))]) (rest := []) (ud := u50) C 1 (mX7_rum C.2.2.2.2.2.2.2.2.1 hgu50) 2 rfl tcX7_rum tlL_59 tiX7_rum tsX7_rum rfl tnX7 tdX7_rum ⟨Nat.le_of_ble_eq_true rfl, Nat.le_of_ble_eq_true rfl⟩ ⟨Nat.le_refl 0, Nat.le_refl 0⟩ rfl rfl (Nat.le_of_ble_eq_true rfl) dL_acts_172 ?_
                      cases h
                      exact RET (fun j => [].getD j 0) 0 0 _ _ trivial dL_acts_175
                    · have h := ob_t h hc47
                      refine vi_bipush (v := 10) C dL_acts_160 (by decide) ?_
                      refine vi_goto (tgt := 172) C dL_acts_162 (by decide) ?_
                      obtain ⟨y53, u52, hgu52, h⟩ := ob_p h
                      refine cY_i (As := [.int y5, .int (10 : Int32)]) (rest := []) (ud := u52) C 1 (mX7_rum C.2.2.2.2.2.2.2.2.1 hgu52) 2 rfl tcX7_rum tlL_59 tiX7_rum tsX7_rum rfl tnX7 tdX7_rum ⟨Nat.le_of_ble_eq_true rfl, Nat.le_of_ble_eq_true rfl⟩ ⟨Nat.le_refl 0, Nat.le_refl 0⟩ rfl rfl (Nat.le_of_ble_eq_true rfl) dL_acts_172 ?_
                      cases h
                      exact RET (fun j => [].getD j 0) 0 0 _ _ trivial dL_acts_175
                  · replace h := ob_f h hc54
                    by_cases hc64 : y6 = 9
                    · have h := ob_t h hc64
                      refine vi_tswIn (off := 135) (tgt := 149) C dL_acts_14 (by rw [hc64]; decide) (by rw [hc64]; decide) (by rw [hc64]; rfl) (by decide) ?_
                      refine vi_aload_n C 1 dL_acts_149 rfl ?_
                      refine vi_iload_n C 0 dL_acts_150 rfl ?_
                      refine vi_aload_n C 3 dL_acts_151 rfl ?_
                      refine vi_bipush (v := 20) C dL_acts_152 (by decide) ?_
                      obtain ⟨z55, hgz55, h⟩ := ob_bd h
                      refine vi_w C (w' := ([] ++ [(a0, .inr (8, [.int (z3.2)]))]) ++ wX q0 qs qo qt qv qr qx ql ad qh cI cF cC cS cO u1) rfl ?_
                      refine vi_swp ?_
                      refine g_ci C (g_runV (T := TX8) (N := 1) (ci := 8) (fs := [.int (z3.2)]) (As := [.int (20 : Int32)]) (rest := [.int y5, .ref (q0 0)]) (w1 := ([] ++ wX q0 qs qo qt qv qr qx ql ad qh cI cF cC cS cO u1)) (wc := [(a0, .inr (8, [.int (z3.2)]))]) C (hm_X8_next (a0 := a0) (x1 := (20 : Int32)) (f0_0 := (z3.2)) (r0 := z55.1) (r_o1 := z55.2) C.2.2.2.2.2.2.2.2.1 hgz55) 1 rfl tcX8_next tlL_23 tiX8_next tsX8_next tnX8 tdX8_next ⟨Nat.le_of_ble_eq_true rfl, Nat.le_of_ble_eq_true rfl⟩ ⟨Nat.le_refl 0, Nat.le_refl 0⟩ (0 + 101 + 0) rfl rfl rfl (Nat.le_of_ble_eq_true rfl) dL_acts_154 rfl) rfl (fun q56 => ?_)
                      refine vi_swp ?_
                      refine vi_w C (w' := ([(a0, .inr (8, [.int (z55.2)]))] ++ wX q0 qs qo qt qv qr qx ql ad qh cI cF cC cS cO u1)) rfl ?_
                      refine vi_kk (kc1 := 0) (ks1 := 0) rfl rfl ?_
                      refine vi_if_ne (tgt := 165) C dL_acts_157 (by decide) (fun hc57 => ?_) (fun hc57 => ?_)
                      · have h := ob_f h hc57
                        refine vi_iconst (v := 1) C dL_acts_165 (by decide) ?_
                        refine vi_aload_n C 3 dL_acts_166 rfl ?_
                        refine vi_iconst (v := 5) C dL_acts_167 (by decide) ?_
                        obtain ⟨z58, hgz58, h⟩ := ob_bd h
                        refine vi_w C (w' := ([] ++ [(a0, .inr (8, [.int (z55.2)]))]) ++ wX q0 qs qo qt qv qr qx ql ad qh cI cF cC cS cO u1) rfl ?_
                        refine vi_swp ?_
                        refine g_ci C (g_runV (T := TX8) (N := 1) (ci := 8) (fs := [.int (z55.2)]) (As := [.int (5 : Int32)]) (rest := [.int (1 : Int32), .int y5, .ref (q0 0)]) (w1 := ([] ++ wX q0 qs qo qt qv qr qx ql ad qh cI cF cC cS cO u1)) (wc := [(a0, .inr (8, [.int (z55.2)]))]) C (hm_X8_next (a0 := a0) (x1 := (5 : Int32)) (f0_0 := (z55.2)) (r0 := z58.1) (r_o1 := z58.2) C.2.2.2.2.2.2.2.2.1 hgz58) 1 rfl tcX8_next tlL_23 tiX8_next tsX8_next tnX8 tdX8_next ⟨Nat.le_of_ble_eq_true rfl, Nat.le_of_ble_eq_true rfl⟩ ⟨Nat.le_refl 0, Nat.le_refl 0⟩ (0 + 101 + 0) rfl rfl rfl (Nat.le_of_ble_eq_true rfl) dL_acts_168 rfl) rfl (fun q59 => ?_)
                        refine vi_swp ?_
                        refine vi_w C (w' := ([(a0, .inr (8, [.int (z58.2)]))] ++ wX q0 qs qo qt qv qr qx ql ad qh cI cF cC cS cO u1)) rfl ?_
                        refine vi_kk (kc1 := 0) (ks1 := 0) rfl rfl ?_
                        refine vi_iadd C dL_acts_171 ?_
                        obtain ⟨y61, u60, hgu60, h⟩ := ob_p h
                        refine cY_i (As := [.int y5, .int ((1 : Int32) + (z58.1))]) (rest := []) (ud := u60) C 1 (mX7_rum C.2.2.2.2.2.2.2.2.1 hgu60) 2 rfl tcX7_rum tlL_59 tiX7_rum tsX7_rum rfl tnX7 tdX7_rum ⟨Nat.le_of_ble_eq_true rfl, Nat.le_of_ble_eq_true rfl⟩ ⟨Nat.le_refl 0, Nat.le_refl 0⟩ rfl rfl (Nat.le_of_ble_eq_true rfl) dL_acts_172 ?_
                        cases h
                        exact RET (fun j => [].getD j 0) 0 0 _ _ trivial dL_acts_175
                      · have h := ob_t h hc57
                        refine vi_bipush (v := 10) C dL_acts_160 (by decide) ?_
                        refine vi_goto (tgt := 172) C dL_acts_162 (by decide) ?_
                        obtain ⟨y63, u62, hgu62, h⟩ := ob_p h
                        refine cY_i (As := [.int y5, .int (10 : Int32)]) (rest := []) (ud := u62) C 1 (mX7_rum C.2.2.2.2.2.2.2.2.1 hgu62) 2 rfl tcX7_rum tlL_59 tiX7_rum tsX7_rum rfl tnX7 tdX7_rum ⟨Nat.le_of_ble_eq_true rfl, Nat.le_of_ble_eq_true rfl⟩ ⟨Nat.le_refl 0, Nat.le_refl 0⟩ rfl rfl (Nat.le_of_ble_eq_true rfl) dL_acts_172 ?_
                        cases h
                        exact RET (fun j => [].getD j 0) 0 0 _ _ trivial dL_acts_175
                    · replace h := ob_f h hc64
                      by_cases hc74 : y6 = 10
                      · have h := ob_t h hc74
                        refine vi_tswIn (off := 135) (tgt := 149) C dL_acts_14 (by rw [hc74]; decide) (by rw [hc74]; decide) (by rw [hc74]; rfl) (by decide) ?_
                        refine vi_aload_n C 1 dL_acts_149 rfl ?_
                        refine vi_iload_n C 0 dL_acts_150 rfl ?_
                        refine vi_aload_n C 3 dL_acts_151 rfl ?_
                        refine vi_bipush (v := 20) C dL_acts_152 (by decide) ?_
                        obtain ⟨z65, hgz65, h⟩ := ob_bd h
                        refine vi_w C (w' := ([] ++ [(a0, .inr (8, [.int (z3.2)]))]) ++ wX q0 qs qo qt qv qr qx ql ad qh cI cF cC cS cO u1) rfl ?_
                        refine vi_swp ?_
                        refine g_ci C (g_runV (T := TX8) (N := 1) (ci := 8) (fs := [.int (z3.2)]) (As := [.int (20 : Int32)]) (rest := [.int y5, .ref (q0 0)]) (w1 := ([] ++ wX q0 qs qo qt qv qr qx ql ad qh cI cF cC cS cO u1)) (wc := [(a0, .inr (8, [.int (z3.2)]))]) C (hm_X8_next (a0 := a0) (x1 := (20 : Int32)) (f0_0 := (z3.2)) (r0 := z65.1) (r_o1 := z65.2) C.2.2.2.2.2.2.2.2.1 hgz65) 1 rfl tcX8_next tlL_23 tiX8_next tsX8_next tnX8 tdX8_next ⟨Nat.le_of_ble_eq_true rfl, Nat.le_of_ble_eq_true rfl⟩ ⟨Nat.le_refl 0, Nat.le_refl 0⟩ (0 + 101 + 0) rfl rfl rfl (Nat.le_of_ble_eq_true rfl) dL_acts_154 rfl) rfl (fun q66 => ?_)
                        refine vi_swp ?_
                        refine vi_w C (w' := ([(a0, .inr (8, [.int (z65.2)]))] ++ wX q0 qs qo qt qv qr qx ql ad qh cI cF cC cS cO u1)) rfl ?_
                        refine vi_kk (kc1 := 0) (ks1 := 0) rfl rfl ?_
                        refine vi_if_ne (tgt := 165) C dL_acts_157 (by decide) (fun hc67 => ?_) (fun hc67 => ?_)
                        · have h := ob_f h hc67
                          refine vi_iconst (v := 1) C dL_acts_165 (by decide) ?_
                          refine vi_aload_n C 3 dL_acts_166 rfl ?_
                          refine vi_iconst (v := 5) C dL_acts_167 (by decide) ?_
                          obtain ⟨z68, hgz68, h⟩ := ob_bd h
                          refine vi_w C (w' := ([] ++ [(a0, .inr (8, [.int (z65.2)]))]) ++ wX q0 qs qo qt qv qr qx ql ad qh cI cF cC cS cO u1) rfl ?_
                          refine vi_swp ?_
                          refine g_ci C (g_runV (T := TX8) (N := 1) (ci := 8) (fs := [.int (z65.2)]) (As := [.int (5 : Int32)]) (rest := [.int (1 : Int32), .int y5, .ref (q0 0)]) (w1 := ([] ++ wX q0 qs qo qt qv qr qx ql ad qh cI cF cC cS cO u1)) (wc := [(a0, .inr (8, [.int (z65.2)]))]) C (hm_X8_next (a0 := a0) (x1 := (5 : Int32)) (f0_0 := (z65.2)) (r0 := z68.1) (r_o1 := z68.2) C.2.2.2.2.2.2.2.2.1 hgz68) 1 rfl tcX8_next tlL_23 tiX8_next tsX8_next tnX8 tdX8_next ⟨Nat.le_of_ble_eq_true rfl, Nat.le_of_ble_eq_true rfl⟩ ⟨Nat.le_refl 0, Nat.le_refl 0⟩ (0 + 101 + 0) rfl rfl rfl (Nat.le_of_ble_eq_true rfl) dL_acts_168 rfl) rfl (fun q69 => ?_)
                          refine vi_swp ?_
                          refine vi_w C (w' := ([(a0, .inr (8, [.int (z68.2)]))] ++ wX q0 qs qo qt qv qr qx ql ad qh cI cF cC cS cO u1)) rfl ?_
                          refine vi_kk (kc1 := 0) (ks1 := 0) rfl rfl ?_
                          refine vi_iadd C dL_acts_171 ?_
                          obtain ⟨y71, u70, hgu70, h⟩ := ob_p h
                          refine cY_i (As := [.int y5, .int ((1 : Int32) + (z68.1))]) (rest := []) (ud := u70) C 1 (mX7_rum C.2.2.2.2.2.2.2.2.1 hgu70) 2 rfl tcX7_rum tlL_59 tiX7_rum tsX7_rum rfl tnX7 tdX7_rum ⟨Nat.le_of_ble_eq_true rfl, Nat.le_of_ble_eq_true rfl⟩ ⟨Nat.le_refl 0, Nat.le_refl 0⟩ rfl rfl (Nat.le_of_ble_eq_true rfl) dL_acts_172 ?_
                          cases h
                          exact RET (fun j => [].getD j 0) 0 0 _ _ trivial dL_acts_175
                        · have h := ob_t h hc67
                          refine vi_bipush (v := 10) C dL_acts_160 (by decide) ?_
                          refine vi_goto (tgt := 172) C dL_acts_162 (by decide) ?_
                          obtain ⟨y73, u72, hgu72, h⟩ := ob_p h
                          refine cY_i (As := [.int y5, .int (10 : Int32)]) (rest := []) (ud := u72) C 1 (mX7_rum C.2.2.2.2.2.2.2.2.1 hgu72) 2 rfl tcX7_rum tlL_59 tiX7_rum tsX7_rum rfl tnX7 tdX7_rum ⟨Nat.le_of_ble_eq_true rfl, Nat.le_of_ble_eq_true rfl⟩ ⟨Nat.le_refl 0, Nat.le_refl 0⟩ rfl rfl (Nat.le_of_ble_eq_true rfl) dL_acts_172 ?_
                          cases h
                          exact RET (fun j => [].getD j 0) 0 0 _ _ trivial dL_acts_175
                      · replace h := ob_f h hc74
                        by_cases hc79 : y6 = 11
                        · have h := ob_t h hc79
                          refine vi_tswIn (off := 162) (tgt := 176) C dL_acts_14 (by rw [hc79]; decide) (by rw [hc79]; decide) (by rw [hc79]; rfl) (by decide) ?_
                          refine vi_aload_n C 1 dL_acts_176 rfl ?_
                          refine vi_iload_n C 0 dL_acts_177 rfl ?_
                          refine vi_aload_n C 3 dL_acts_178 rfl ?_
                          refine vi_iconst (v := 4) C dL_acts_179 (by decide) ?_
                          obtain ⟨z75, hgz75, h⟩ := ob_bd h
                          refine vi_w C (w' := ([] ++ [(a0, .inr (8, [.int (z3.2)]))]) ++ wX q0 qs qo qt qv qr qx ql ad qh cI cF cC cS cO u1) rfl ?_
                          refine vi_swp ?_
                          refine g_ci C (g_runS (As := [.ref a0, .int (4 : Int32)]) (rest := [.int y5, .ref (q0 0)]) (w1 := ([] ++ wX q0 qs qo qt qv qr qx ql ad qh cI cF cC cS cO u1)) (wc := [(a0, .inr (8, [.int (z3.2)]))]) C (hm_L_some (a0 := a0) (x1 := (4 : Int32)) (f0_0 := (z3.2)) (r0 := z75.1) (r_o1 := z75.2) C.2.2.2.2.2.2.2.2.1 hgz75) 2 rfl tcL_some tlL_40 ttL_some tnL tdL_some ⟨Nat.le_of_ble_eq_true rfl, Nat.le_of_ble_eq_true rfl⟩ ⟨Nat.le_refl 0, Nat.le_refl 0⟩ rfl (Nat.le_of_ble_eq_true rfl) dL_acts_180 rfl) rfl (fun q76 => ?_)
                          refine vi_swp ?_
                          refine vi_w C (w' := ([(a0, .inr (8, [.int (z75.2)]))] ++ wX q0 qs qo qt qv qr qx ql ad qh cI cF cC cS cO u1)) rfl ?_
                          refine vi_kk (kc1 := 0) (ks1 := 0) rfl rfl ?_
                          obtain ⟨y78, u77, hgu77, h⟩ := ob_p h
                          refine cY_i (As := [.int y5, .int (z75.1)]) (rest := []) (ud := u77) C 1 (mX7_watch C.2.2.2.2.2.2.2.2.1 hgu77) 2 rfl tcX7_watch tlL_62 tiX7_watch tsX7_watch rfl tnX7 tdX7_watch ⟨Nat.le_of_ble_eq_true rfl, Nat.le_of_ble_eq_true rfl⟩ ⟨Nat.le_refl 0, Nat.le_refl 0⟩ rfl rfl (Nat.le_of_ble_eq_true rfl) dL_acts_183 ?_
                          cases h
                          exact RET (fun j => [].getD j 0) 0 0 _ _ trivial dL_acts_186
                        · replace h := ob_f h hc79
                          by_cases hc84 : y6 = 12
                          · have h := ob_t h hc84
                            refine vi_tswIn (off := 162) (tgt := 176) C dL_acts_14 (by rw [hc84]; decide) (by rw [hc84]; decide) (by rw [hc84]; rfl) (by decide) ?_
                            refine vi_aload_n C 1 dL_acts_176 rfl ?_
                            refine vi_iload_n C 0 dL_acts_177 rfl ?_
                            refine vi_aload_n C 3 dL_acts_178 rfl ?_
                            refine vi_iconst (v := 4) C dL_acts_179 (by decide) ?_
                            obtain ⟨z80, hgz80, h⟩ := ob_bd h
                            refine vi_w C (w' := ([] ++ [(a0, .inr (8, [.int (z3.2)]))]) ++ wX q0 qs qo qt qv qr qx ql ad qh cI cF cC cS cO u1) rfl ?_
                            refine vi_swp ?_
                            refine g_ci C (g_runS (As := [.ref a0, .int (4 : Int32)]) (rest := [.int y5, .ref (q0 0)]) (w1 := ([] ++ wX q0 qs qo qt qv qr qx ql ad qh cI cF cC cS cO u1)) (wc := [(a0, .inr (8, [.int (z3.2)]))]) C (hm_L_some (a0 := a0) (x1 := (4 : Int32)) (f0_0 := (z3.2)) (r0 := z80.1) (r_o1 := z80.2) C.2.2.2.2.2.2.2.2.1 hgz80) 2 rfl tcL_some tlL_40 ttL_some tnL tdL_some ⟨Nat.le_of_ble_eq_true rfl, Nat.le_of_ble_eq_true rfl⟩ ⟨Nat.le_refl 0, Nat.le_refl 0⟩ rfl (Nat.le_of_ble_eq_true rfl) dL_acts_180 rfl) rfl (fun q81 => ?_)
                            refine vi_swp ?_
                            refine vi_w C (w' := ([(a0, .inr (8, [.int (z80.2)]))] ++ wX q0 qs qo qt qv qr qx ql ad qh cI cF cC cS cO u1)) rfl ?_
                            refine vi_kk (kc1 := 0) (ks1 := 0) rfl rfl ?_
                            obtain ⟨y83, u82, hgu82, h⟩ := ob_p h
                            refine cY_i (As := [.int y5, .int (z80.1)]) (rest := []) (ud := u82) C 1 (mX7_watch C.2.2.2.2.2.2.2.2.1 hgu82) 2 rfl tcX7_watch tlL_62 tiX7_watch tsX7_watch rfl tnX7 tdX7_watch ⟨Nat.le_of_ble_eq_true rfl, Nat.le_of_ble_eq_true rfl⟩ ⟨Nat.le_refl 0, Nat.le_refl 0⟩ rfl rfl (Nat.le_of_ble_eq_true rfl) dL_acts_183 ?_
                            cases h
                            exact RET (fun j => [].getD j 0) 0 0 _ _ trivial dL_acts_186
                          · replace h := ob_f h hc84
                            by_cases hc96 : y6 = 13
                            · have h := ob_t h hc96
                              refine vi_tswIn (off := 173) (tgt := 187) C dL_acts_14 (by rw [hc96]; decide) (by rw [hc96]; decide) (by rw [hc96]; rfl) (by decide) ?_
                              refine vi_aload_n C 1 dL_acts_187 rfl ?_
                              refine vi_aload_n C 3 dL_acts_188 rfl ?_
                              refine vi_iconst (v := 4) C dL_acts_189 (by decide) ?_
                              obtain ⟨z85, hgz85, h⟩ := ob_bd h
                              refine vi_w C (w' := ([] ++ [(a0, .inr (8, [.int (z3.2)]))]) ++ wX q0 qs qo qt qv qr qx ql ad qh cI cF cC cS cO u1) rfl ?_
                              refine vi_swp ?_
                              refine g_ci C (g_runS (As := [.ref a0, .int (4 : Int32)]) (rest := [.ref (q0 0)]) (w1 := ([] ++ wX q0 qs qo qt qv qr qx ql ad qh cI cF cC cS cO u1)) (wc := [(a0, .inr (8, [.int (z3.2)]))]) C (hm_L_some (a0 := a0) (x1 := (4 : Int32)) (f0_0 := (z3.2)) (r0 := z85.1) (r_o1 := z85.2) C.2.2.2.2.2.2.2.2.1 hgz85) 2 rfl tcL_some tlL_40 ttL_some tnL tdL_some ⟨Nat.le_of_ble_eq_true rfl, Nat.le_of_ble_eq_true rfl⟩ ⟨Nat.le_refl 0, Nat.le_refl 0⟩ rfl (Nat.le_of_ble_eq_true rfl) dL_acts_190 rfl) rfl (fun q86 => ?_)
                              refine vi_swp ?_
                              refine vi_w C (w' := ([(a0, .inr (8, [.int (z85.2)]))] ++ wX q0 qs qo qt qv qr qx ql ad qh cI cF cC cS cO u1)) rfl ?_
                              refine vi_kk (kc1 := 0) (ks1 := 0) rfl rfl ?_
                              refine vi_aload_n C 3 dL_acts_193 rfl ?_
                              refine vi_bipush (v := 20) C dL_acts_194 (by decide) ?_
                              obtain ⟨z87, hgz87, h⟩ := ob_bd h
                              refine vi_w C (w' := ([] ++ [(a0, .inr (8, [.int (z85.2)]))]) ++ wX q0 qs qo qt qv qr qx ql ad qh cI cF cC cS cO u1) rfl ?_
                              refine vi_swp ?_
                              refine g_ci C (g_runV (T := TX8) (N := 1) (ci := 8) (fs := [.int (z85.2)]) (As := [.int (20 : Int32)]) (rest := [.int (z85.1), .ref (q0 0)]) (w1 := ([] ++ wX q0 qs qo qt qv qr qx ql ad qh cI cF cC cS cO u1)) (wc := [(a0, .inr (8, [.int (z85.2)]))]) C (hm_X8_next (a0 := a0) (x1 := (20 : Int32)) (f0_0 := (z85.2)) (r0 := z87.1) (r_o1 := z87.2) C.2.2.2.2.2.2.2.2.1 hgz87) 1 rfl tcX8_next tlL_23 tiX8_next tsX8_next tnX8 tdX8_next ⟨Nat.le_of_ble_eq_true rfl, Nat.le_of_ble_eq_true rfl⟩ ⟨Nat.le_refl 0, Nat.le_refl 0⟩ (0 + 101 + 0) rfl rfl rfl (Nat.le_of_ble_eq_true rfl) dL_acts_196 rfl) rfl (fun q88 => ?_)
                              refine vi_swp ?_
                              refine vi_w C (w' := ([(a0, .inr (8, [.int (z87.2)]))] ++ wX q0 qs qo qt qv qr qx ql ad qh cI cF cC cS cO u1)) rfl ?_
                              refine vi_kk (kc1 := 0) (ks1 := 0) rfl rfl ?_
                              refine vi_if_ne (tgt := 207) C dL_acts_199 (by decide) (fun hc89 => ?_) (fun hc89 => ?_)
                              · have h := ob_f h hc89
                                refine vi_aload_n C 3 dL_acts_207 rfl ?_
                                refine vi_bipush (v := 9) C dL_acts_208 (by decide) ?_
                                obtain ⟨z90, hgz90, h⟩ := ob_bd h
                                refine vi_w C (w' := ([] ++ [(a0, .inr (8, [.int (z87.2)]))]) ++ wX q0 qs qo qt qv qr qx ql ad qh cI cF cC cS cO u1) rfl ?_
                                refine vi_swp ?_
                                refine g_ci C (g_runV (T := TX8) (N := 1) (ci := 8) (fs := [.int (z87.2)]) (As := [.int (9 : Int32)]) (rest := [.int (z85.1), .ref (q0 0)]) (w1 := ([] ++ wX q0 qs qo qt qv qr qx ql ad qh cI cF cC cS cO u1)) (wc := [(a0, .inr (8, [.int (z87.2)]))]) C (hm_X8_next (a0 := a0) (x1 := (9 : Int32)) (f0_0 := (z87.2)) (r0 := z90.1) (r_o1 := z90.2) C.2.2.2.2.2.2.2.2.1 hgz90) 1 rfl tcX8_next tlL_23 tiX8_next tsX8_next tnX8 tdX8_next ⟨Nat.le_of_ble_eq_true rfl, Nat.le_of_ble_eq_true rfl⟩ ⟨Nat.le_refl 0, Nat.le_refl 0⟩ (0 + 101 + 0) rfl rfl rfl (Nat.le_of_ble_eq_true rfl) dL_acts_210 rfl) rfl (fun q91 => ?_)
                                refine vi_swp ?_
                                refine vi_w C (w' := ([(a0, .inr (8, [.int (z90.2)]))] ++ wX q0 qs qo qt qv qr qx ql ad qh cI cF cC cS cO u1)) rfl ?_
                                refine vi_kk (kc1 := 0) (ks1 := 0) rfl rfl ?_
                                obtain ⟨y93, u92, hgu92, h⟩ := ob_p h
                                refine cY_i (As := [.int (z85.1), .int (z90.1)]) (rest := []) (ud := u92) C 1 (mX7_horizon C.2.2.2.2.2.2.2.2.1 hgu92) 2 rfl tcX7_horizon tlL_65 tiX7_horizon tsX7_horizon rfl tnX7 tdX7_horizon ⟨Nat.le_of_ble_eq_true rfl, Nat.le_of_ble_eq_true rfl⟩ ⟨Nat.le_refl 0, Nat.le_refl 0⟩ rfl rfl (Nat.le_of_ble_eq_true rfl) dL_acts_213 ?_
                                cases h
                                exact RET (fun j => [].getD j 0) 0 0 _ _ trivial dL_acts_216
                              · have h := ob_t h hc89
                                refine vi_bipush (v := 9) C dL_acts_202 (by decide) ?_
                                refine vi_goto (tgt := 213) C dL_acts_204 (by decide) ?_
                                obtain ⟨y95, u94, hgu94, h⟩ := ob_p h
                                refine cY_i (As := [.int (z85.1), .int (9 : Int32)]) (rest := []) (ud := u94) C 1 (mX7_horizon C.2.2.2.2.2.2.2.2.1 hgu94) 2 rfl tcX7_horizon tlL_65 tiX7_horizon tsX7_horizon rfl tnX7 tdX7_horizon ⟨Nat.le_of_ble_eq_true rfl, Nat.le_of_ble_eq_true rfl⟩ ⟨Nat.le_refl 0, Nat.le_refl 0⟩ rfl rfl (Nat.le_of_ble_eq_true rfl) dL_acts_213 ?_
                                cases h
                                exact RET (fun j => [].getD j 0) 0 0 _ _ trivial dL_acts_216
                            · replace h := ob_f h hc96
                              by_cases hc108 : y6 = 14
                              · have h := ob_t h hc108
                                refine vi_tswIn (off := 173) (tgt := 187) C dL_acts_14 (by rw [hc108]; decide) (by rw [hc108]; decide) (by rw [hc108]; rfl) (by decide) ?_
                                refine vi_aload_n C 1 dL_acts_187 rfl ?_
                                refine vi_aload_n C 3 dL_acts_188 rfl ?_
                                refine vi_iconst (v := 4) C dL_acts_189 (by decide) ?_
                                obtain ⟨z97, hgz97, h⟩ := ob_bd h
                                refine vi_w C (w' := ([] ++ [(a0, .inr (8, [.int (z3.2)]))]) ++ wX q0 qs qo qt qv qr qx ql ad qh cI cF cC cS cO u1) rfl ?_
                                refine vi_swp ?_
                                refine g_ci C (g_runS (As := [.ref a0, .int (4 : Int32)]) (rest := [.ref (q0 0)]) (w1 := ([] ++ wX q0 qs qo qt qv qr qx ql ad qh cI cF cC cS cO u1)) (wc := [(a0, .inr (8, [.int (z3.2)]))]) C (hm_L_some (a0 := a0) (x1 := (4 : Int32)) (f0_0 := (z3.2)) (r0 := z97.1) (r_o1 := z97.2) C.2.2.2.2.2.2.2.2.1 hgz97) 2 rfl tcL_some tlL_40 ttL_some tnL tdL_some ⟨Nat.le_of_ble_eq_true rfl, Nat.le_of_ble_eq_true rfl⟩ ⟨Nat.le_refl 0, Nat.le_refl 0⟩ rfl (Nat.le_of_ble_eq_true rfl) dL_acts_190 rfl) rfl (fun q98 => ?_)
                                refine vi_swp ?_
                                refine vi_w C (w' := ([(a0, .inr (8, [.int (z97.2)]))] ++ wX q0 qs qo qt qv qr qx ql ad qh cI cF cC cS cO u1)) rfl ?_
                                refine vi_kk (kc1 := 0) (ks1 := 0) rfl rfl ?_
                                refine vi_aload_n C 3 dL_acts_193 rfl ?_
                                refine vi_bipush (v := 20) C dL_acts_194 (by decide) ?_
                                obtain ⟨z99, hgz99, h⟩ := ob_bd h
                                refine vi_w C (w' := ([] ++ [(a0, .inr (8, [.int (z97.2)]))]) ++ wX q0 qs qo qt qv qr qx ql ad qh cI cF cC cS cO u1) rfl ?_
                                refine vi_swp ?_
                                refine g_ci C (g_runV (T := TX8) (N := 1) (ci := 8) (fs := [.int (z97.2)]) (As := [.int (20 : Int32)]) (rest := [.int (z97.1), .ref (q0 0)]) (w1 := ([] ++ wX q0 qs qo qt qv qr qx ql ad qh cI cF cC cS cO u1)) (wc := [(a0, .inr (8, [.int (z97.2)]))]) C (hm_X8_next (a0 := a0) (x1 := (20 : Int32)) (f0_0 := (z97.2)) (r0 := z99.1) (r_o1 := z99.2) C.2.2.2.2.2.2.2.2.1 hgz99) 1 rfl tcX8_next tlL_23 tiX8_next tsX8_next tnX8 tdX8_next ⟨Nat.le_of_ble_eq_true rfl, Nat.le_of_ble_eq_true rfl⟩ ⟨Nat.le_refl 0, Nat.le_refl 0⟩ (0 + 101 + 0) rfl rfl rfl (Nat.le_of_ble_eq_true rfl) dL_acts_196 rfl) rfl (fun q100 => ?_)
                                refine vi_swp ?_
                                refine vi_w C (w' := ([(a0, .inr (8, [.int (z99.2)]))] ++ wX q0 qs qo qt qv qr qx ql ad qh cI cF cC cS cO u1)) rfl ?_
                                refine vi_kk (kc1 := 0) (ks1 := 0) rfl rfl ?_
                                refine vi_if_ne (tgt := 207) C dL_acts_199 (by decide) (fun hc101 => ?_) (fun hc101 => ?_)
                                · have h := ob_f h hc101
                                  refine vi_aload_n C 3 dL_acts_207 rfl ?_
                                  refine vi_bipush (v := 9) C dL_acts_208 (by decide) ?_
                                  obtain ⟨z102, hgz102, h⟩ := ob_bd h
                                  refine vi_w C (w' := ([] ++ [(a0, .inr (8, [.int (z99.2)]))]) ++ wX q0 qs qo qt qv qr qx ql ad qh cI cF cC cS cO u1) rfl ?_
                                  refine vi_swp ?_
                                  refine g_ci C (g_runV (T := TX8) (N := 1) (ci := 8) (fs := [.int (z99.2)]) (As := [.int (9 : Int32)]) (rest := [.int (z97.1), .ref (q0 0)]) (w1 := ([] ++ wX q0 qs qo qt qv qr qx ql ad qh cI cF cC cS cO u1)) (wc := [(a0, .inr (8, [.int (z99.2)]))]) C (hm_X8_next (a0 := a0) (x1 := (9 : Int32)) (f0_0 := (z99.2)) (r0 := z102.1) (r_o1 := z102.2) C.2.2.2.2.2.2.2.2.1 hgz102) 1 rfl tcX8_next tlL_23 tiX8_next tsX8_next tnX8 tdX8_next ⟨Nat.le_of_ble_eq_true rfl, Nat.le_of_ble_eq_true rfl⟩ ⟨Nat.le_refl 0, Nat.le_refl 0⟩ (0 + 101 + 0) rfl rfl rfl (Nat.le_of_ble_eq_true rfl) dL_acts_210 rfl) rfl (fun q103 => ?_)
                                  refine vi_swp ?_
                                  refine vi_w C (w' := ([(a0, .inr (8, [.int (z102.2)]))] ++ wX q0 qs qo qt qv qr qx ql ad qh cI cF cC cS cO u1)) rfl ?_
                                  refine vi_kk (kc1 := 0) (ks1 := 0) rfl rfl ?_
                                  obtain ⟨y105, u104, hgu104, h⟩ := ob_p h
                                  refine cY_i (As := [.int (z97.1), .int (z102.1)]) (rest := []) (ud := u104) C 1 (mX7_horizon C.2.2.2.2.2.2.2.2.1 hgu104) 2 rfl tcX7_horizon tlL_65 tiX7_horizon tsX7_horizon rfl tnX7 tdX7_horizon ⟨Nat.le_of_ble_eq_true rfl, Nat.le_of_ble_eq_true rfl⟩ ⟨Nat.le_refl 0, Nat.le_refl 0⟩ rfl rfl (Nat.le_of_ble_eq_true rfl) dL_acts_213 ?_
                                  cases h
                                  exact RET (fun j => [].getD j 0) 0 0 _ _ trivial dL_acts_216
                                · have h := ob_t h hc101
                                  refine vi_bipush (v := 9) C dL_acts_202 (by decide) ?_
                                  refine vi_goto (tgt := 213) C dL_acts_204 (by decide) ?_
                                  obtain ⟨y107, u106, hgu106, h⟩ := ob_p h
                                  refine cY_i (As := [.int (z97.1), .int (9 : Int32)]) (rest := []) (ud := u106) C 1 (mX7_horizon C.2.2.2.2.2.2.2.2.1 hgu106) 2 rfl tcX7_horizon tlL_65 tiX7_horizon tsX7_horizon rfl tnX7 tdX7_horizon ⟨Nat.le_of_ble_eq_true rfl, Nat.le_of_ble_eq_true rfl⟩ ⟨Nat.le_refl 0, Nat.le_refl 0⟩ rfl rfl (Nat.le_of_ble_eq_true rfl) dL_acts_213 ?_
                                  cases h
                                  exact RET (fun j => [].getD j 0) 0 0 _ _ trivial dL_acts_216
                              · replace h := ob_f h hc108
                                by_cases hc118 : y6 = 15
                                · have h := ob_t h hc118
                                  refine vi_tswIn (off := 203) (tgt := 217) C dL_acts_14 (by rw [hc118]; decide) (by rw [hc118]; decide) (by rw [hc118]; rfl) (by decide) ?_
                                  refine vi_aload_n C 1 dL_acts_217 rfl ?_
                                  refine vi_aload_n C 3 dL_acts_218 rfl ?_
                                  refine vi_bipush (v := 20) C dL_acts_219 (by decide) ?_
                                  obtain ⟨z109, hgz109, h⟩ := ob_bd h
                                  refine vi_w C (w' := ([] ++ [(a0, .inr (8, [.int (z3.2)]))]) ++ wX q0 qs qo qt qv qr qx ql ad qh cI cF cC cS cO u1) rfl ?_
                                  refine vi_swp ?_
                                  refine g_ci C (g_runV (T := TX8) (N := 1) (ci := 8) (fs := [.int (z3.2)]) (As := [.int (20 : Int32)]) (rest := [.ref (q0 0)]) (w1 := ([] ++ wX q0 qs qo qt qv qr qx ql ad qh cI cF cC cS cO u1)) (wc := [(a0, .inr (8, [.int (z3.2)]))]) C (hm_X8_next (a0 := a0) (x1 := (20 : Int32)) (f0_0 := (z3.2)) (r0 := z109.1) (r_o1 := z109.2) C.2.2.2.2.2.2.2.2.1 hgz109) 1 rfl tcX8_next tlL_23 tiX8_next tsX8_next tnX8 tdX8_next ⟨Nat.le_of_ble_eq_true rfl, Nat.le_of_ble_eq_true rfl⟩ ⟨Nat.le_refl 0, Nat.le_refl 0⟩ (0 + 101 + 0) rfl rfl rfl (Nat.le_of_ble_eq_true rfl) dL_acts_221 rfl) rfl (fun q110 => ?_)
                                  refine vi_swp ?_
                                  refine vi_w C (w' := ([(a0, .inr (8, [.int (z109.2)]))] ++ wX q0 qs qo qt qv qr qx ql ad qh cI cF cC cS cO u1)) rfl ?_
                                  refine vi_kk (kc1 := 0) (ks1 := 0) rfl rfl ?_
                                  refine vi_if_ne (tgt := 231) C dL_acts_224 (by decide) (fun hc111 => ?_) (fun hc111 => ?_)
                                  · have h := ob_f h hc111
                                    refine vi_aload_n C 3 dL_acts_231 rfl ?_
                                    refine vi_bipush (v := 7) C dL_acts_232 (by decide) ?_
                                    obtain ⟨z112, hgz112, h⟩ := ob_bd h
                                    refine vi_w C (w' := ([] ++ [(a0, .inr (8, [.int (z109.2)]))]) ++ wX q0 qs qo qt qv qr qx ql ad qh cI cF cC cS cO u1) rfl ?_
                                    refine vi_swp ?_
                                    refine g_ci C (g_runV (T := TX8) (N := 1) (ci := 8) (fs := [.int (z109.2)]) (As := [.int (7 : Int32)]) (rest := [.ref (q0 0)]) (w1 := ([] ++ wX q0 qs qo qt qv qr qx ql ad qh cI cF cC cS cO u1)) (wc := [(a0, .inr (8, [.int (z109.2)]))]) C (hm_X8_next (a0 := a0) (x1 := (7 : Int32)) (f0_0 := (z109.2)) (r0 := z112.1) (r_o1 := z112.2) C.2.2.2.2.2.2.2.2.1 hgz112) 1 rfl tcX8_next tlL_23 tiX8_next tsX8_next tnX8 tdX8_next ⟨Nat.le_of_ble_eq_true rfl, Nat.le_of_ble_eq_true rfl⟩ ⟨Nat.le_refl 0, Nat.le_refl 0⟩ (0 + 101 + 0) rfl rfl rfl (Nat.le_of_ble_eq_true rfl) dL_acts_234 rfl) rfl (fun q113 => ?_)
                                    refine vi_swp ?_
                                    refine vi_w C (w' := ([(a0, .inr (8, [.int (z112.2)]))] ++ wX q0 qs qo qt qv qr qx ql ad qh cI cF cC cS cO u1)) rfl ?_
                                    refine vi_kk (kc1 := 0) (ks1 := 0) rfl rfl ?_
                                    refine vi_iconst (v := 3) C dL_acts_237 (by decide) ?_
                                    refine vi_isub C dL_acts_238 ?_
                                    obtain ⟨y115, u114, hgu114, h⟩ := ob_p h
                                    refine cY_i (As := [.int ((z112.1) - (3 : Int32))]) (rest := []) (ud := u114) C 1 (mX7_error C.2.2.2.2.2.2.2.2.1 hgu114) 1 rfl tcX7_error tlL_68 tiX7_error tsX7_error rfl tnX7 tdX7_error ⟨Nat.le_of_ble_eq_true rfl, Nat.le_of_ble_eq_true rfl⟩ ⟨Nat.le_refl 0, Nat.le_refl 0⟩ rfl rfl (Nat.le_of_ble_eq_true rfl) dL_acts_239 ?_
                                    cases h
                                    exact RET (fun j => [].getD j 0) 0 0 _ _ trivial dL_acts_242
                                  · have h := ob_t h hc111
                                    refine vi_iconst (v := 4) C dL_acts_227 (by decide) ?_
                                    refine vi_goto (tgt := 239) C dL_acts_228 (by decide) ?_
                                    obtain ⟨y117, u116, hgu116, h⟩ := ob_p h
                                    refine cY_i (As := [.int (4 : Int32)]) (rest := []) (ud := u116) C 1 (mX7_error C.2.2.2.2.2.2.2.2.1 hgu116) 1 rfl tcX7_error tlL_68 tiX7_error tsX7_error rfl tnX7 tdX7_error ⟨Nat.le_of_ble_eq_true rfl, Nat.le_of_ble_eq_true rfl⟩ ⟨Nat.le_refl 0, Nat.le_refl 0⟩ rfl rfl (Nat.le_of_ble_eq_true rfl) dL_acts_239 ?_
                                    cases h
                                    exact RET (fun j => [].getD j 0) 0 0 _ _ trivial dL_acts_242
                                · replace h := ob_f h hc118
                                  by_cases hc128 : y6 = 16
                                  · have h := ob_t h hc128
                                    refine vi_tswIn (off := 203) (tgt := 217) C dL_acts_14 (by rw [hc128]; decide) (by rw [hc128]; decide) (by rw [hc128]; rfl) (by decide) ?_
                                    refine vi_aload_n C 1 dL_acts_217 rfl ?_
                                    refine vi_aload_n C 3 dL_acts_218 rfl ?_
                                    refine vi_bipush (v := 20) C dL_acts_219 (by decide) ?_
                                    obtain ⟨z119, hgz119, h⟩ := ob_bd h
                                    refine vi_w C (w' := ([] ++ [(a0, .inr (8, [.int (z3.2)]))]) ++ wX q0 qs qo qt qv qr qx ql ad qh cI cF cC cS cO u1) rfl ?_
                                    refine vi_swp ?_
                                    refine g_ci C (g_runV (T := TX8) (N := 1) (ci := 8) (fs := [.int (z3.2)]) (As := [.int (20 : Int32)]) (rest := [.ref (q0 0)]) (w1 := ([] ++ wX q0 qs qo qt qv qr qx ql ad qh cI cF cC cS cO u1)) (wc := [(a0, .inr (8, [.int (z3.2)]))]) C (hm_X8_next (a0 := a0) (x1 := (20 : Int32)) (f0_0 := (z3.2)) (r0 := z119.1) (r_o1 := z119.2) C.2.2.2.2.2.2.2.2.1 hgz119) 1 rfl tcX8_next tlL_23 tiX8_next tsX8_next tnX8 tdX8_next ⟨Nat.le_of_ble_eq_true rfl, Nat.le_of_ble_eq_true rfl⟩ ⟨Nat.le_refl 0, Nat.le_refl 0⟩ (0 + 101 + 0) rfl rfl rfl (Nat.le_of_ble_eq_true rfl) dL_acts_221 rfl) rfl (fun q120 => ?_)
                                    refine vi_swp ?_
                                    refine vi_w C (w' := ([(a0, .inr (8, [.int (z119.2)]))] ++ wX q0 qs qo qt qv qr qx ql ad qh cI cF cC cS cO u1)) rfl ?_
                                    refine vi_kk (kc1 := 0) (ks1 := 0) rfl rfl ?_
                                    refine vi_if_ne (tgt := 231) C dL_acts_224 (by decide) (fun hc121 => ?_) (fun hc121 => ?_)
                                    · have h := ob_f h hc121
                                      refine vi_aload_n C 3 dL_acts_231 rfl ?_
                                      refine vi_bipush (v := 7) C dL_acts_232 (by decide) ?_
                                      obtain ⟨z122, hgz122, h⟩ := ob_bd h
                                      refine vi_w C (w' := ([] ++ [(a0, .inr (8, [.int (z119.2)]))]) ++ wX q0 qs qo qt qv qr qx ql ad qh cI cF cC cS cO u1) rfl ?_
                                      refine vi_swp ?_
                                      refine g_ci C (g_runV (T := TX8) (N := 1) (ci := 8) (fs := [.int (z119.2)]) (As := [.int (7 : Int32)]) (rest := [.ref (q0 0)]) (w1 := ([] ++ wX q0 qs qo qt qv qr qx ql ad qh cI cF cC cS cO u1)) (wc := [(a0, .inr (8, [.int (z119.2)]))]) C (hm_X8_next (a0 := a0) (x1 := (7 : Int32)) (f0_0 := (z119.2)) (r0 := z122.1) (r_o1 := z122.2) C.2.2.2.2.2.2.2.2.1 hgz122) 1 rfl tcX8_next tlL_23 tiX8_next tsX8_next tnX8 tdX8_next ⟨Nat.le_of_ble_eq_true rfl, Nat.le_of_ble_eq_true rfl⟩ ⟨Nat.le_refl 0, Nat.le_refl 0⟩ (0 + 101 + 0) rfl rfl rfl (Nat.le_of_ble_eq_true rfl) dL_acts_234 rfl) rfl (fun q123 => ?_)
                                      refine vi_swp ?_
                                      refine vi_w C (w' := ([(a0, .inr (8, [.int (z122.2)]))] ++ wX q0 qs qo qt qv qr qx ql ad qh cI cF cC cS cO u1)) rfl ?_
                                      refine vi_kk (kc1 := 0) (ks1 := 0) rfl rfl ?_
                                      refine vi_iconst (v := 3) C dL_acts_237 (by decide) ?_
                                      refine vi_isub C dL_acts_238 ?_
                                      obtain ⟨y125, u124, hgu124, h⟩ := ob_p h
                                      refine cY_i (As := [.int ((z122.1) - (3 : Int32))]) (rest := []) (ud := u124) C 1 (mX7_error C.2.2.2.2.2.2.2.2.1 hgu124) 1 rfl tcX7_error tlL_68 tiX7_error tsX7_error rfl tnX7 tdX7_error ⟨Nat.le_of_ble_eq_true rfl, Nat.le_of_ble_eq_true rfl⟩ ⟨Nat.le_refl 0, Nat.le_refl 0⟩ rfl rfl (Nat.le_of_ble_eq_true rfl) dL_acts_239 ?_
                                      cases h
                                      exact RET (fun j => [].getD j 0) 0 0 _ _ trivial dL_acts_242
                                    · have h := ob_t h hc121
                                      refine vi_iconst (v := 4) C dL_acts_227 (by decide) ?_
                                      refine vi_goto (tgt := 239) C dL_acts_228 (by decide) ?_
                                      obtain ⟨y127, u126, hgu126, h⟩ := ob_p h
                                      refine cY_i (As := [.int (4 : Int32)]) (rest := []) (ud := u126) C 1 (mX7_error C.2.2.2.2.2.2.2.2.1 hgu126) 1 rfl tcX7_error tlL_68 tiX7_error tsX7_error rfl tnX7 tdX7_error ⟨Nat.le_of_ble_eq_true rfl, Nat.le_of_ble_eq_true rfl⟩ ⟨Nat.le_refl 0, Nat.le_refl 0⟩ rfl rfl (Nat.le_of_ble_eq_true rfl) dL_acts_239 ?_
                                      cases h
                                      exact RET (fun j => [].getD j 0) 0 0 _ _ trivial dL_acts_242
                                  · replace h := ob_f h hc128
                                    by_cases hc131 : y6 = 17
                                    · have h := ob_t h hc131
                                      refine vi_tswIn (off := 229) (tgt := 243) C dL_acts_14 (by rw [hc131]; decide) (by rw [hc131]; decide) (by rw [hc131]; rfl) (by decide) ?_
                                      refine vi_aload_n C 1 dL_acts_243 rfl ?_
                                      refine vi_iload_n C 0 dL_acts_244 rfl ?_
                                      obtain ⟨y130, u129, hgu129, h⟩ := ob_p h
                                      refine cY_i (As := [.int y5]) (rest := []) (ud := u129) C 1 (mX7_sight C.2.2.2.2.2.2.2.2.1 hgu129) 1 rfl tcX7_sight tlL_71 tiX7_sight tsX7_sight rfl tnX7 tdX7_sight ⟨Nat.le_of_ble_eq_true rfl, Nat.le_of_ble_eq_true rfl⟩ ⟨Nat.le_refl 0, Nat.le_refl 0⟩ rfl rfl (Nat.le_of_ble_eq_true rfl) dL_acts_245 ?_
                                      cases h
                                      exact RET (fun j => [].getD j 0) 0 0 _ _ trivial dL_acts_248
                                    · replace h := ob_f h hc131
                                      by_cases hc134 : y6 = 18
                                      · have h := ob_t h hc134
                                        refine vi_tswIn (off := 229) (tgt := 243) C dL_acts_14 (by rw [hc134]; decide) (by rw [hc134]; decide) (by rw [hc134]; rfl) (by decide) ?_
                                        refine vi_aload_n C 1 dL_acts_243 rfl ?_
                                        refine vi_iload_n C 0 dL_acts_244 rfl ?_
                                        obtain ⟨y133, u132, hgu132, h⟩ := ob_p h
                                        refine cY_i (As := [.int y5]) (rest := []) (ud := u132) C 1 (mX7_sight C.2.2.2.2.2.2.2.2.1 hgu132) 1 rfl tcX7_sight tlL_71 tiX7_sight tsX7_sight rfl tnX7 tdX7_sight ⟨Nat.le_of_ble_eq_true rfl, Nat.le_of_ble_eq_true rfl⟩ ⟨Nat.le_refl 0, Nat.le_refl 0⟩ rfl rfl (Nat.le_of_ble_eq_true rfl) dL_acts_245 ?_
                                        cases h
                                        exact RET (fun j => [].getD j 0) 0 0 _ _ trivial dL_acts_248
                                      · replace h := ob_f h hc134
                                        by_cases hc137 : y6 = 19
                                        · have h := ob_t h hc137
                                          refine vi_tswIn (off := 229) (tgt := 243) C dL_acts_14 (by rw [hc137]; decide) (by rw [hc137]; decide) (by rw [hc137]; rfl) (by decide) ?_
                                          refine vi_aload_n C 1 dL_acts_243 rfl ?_
                                          refine vi_iload_n C 0 dL_acts_244 rfl ?_
                                          obtain ⟨y136, u135, hgu135, h⟩ := ob_p h
                                          refine cY_i (As := [.int y5]) (rest := []) (ud := u135) C 1 (mX7_sight C.2.2.2.2.2.2.2.2.1 hgu135) 1 rfl tcX7_sight tlL_71 tiX7_sight tsX7_sight rfl tnX7 tdX7_sight ⟨Nat.le_of_ble_eq_true rfl, Nat.le_of_ble_eq_true rfl⟩ ⟨Nat.le_refl 0, Nat.le_refl 0⟩ rfl rfl (Nat.le_of_ble_eq_true rfl) dL_acts_245 ?_
                                          cases h
                                          exact RET (fun j => [].getD j 0) 0 0 _ _ trivial dL_acts_248
                                        · replace h := ob_f h hc137
                                          by_cases hc140 : y6 = 20
                                          · have h := ob_t h hc140
                                            refine vi_tswIn (off := 229) (tgt := 243) C dL_acts_14 (by rw [hc140]; decide) (by rw [hc140]; decide) (by rw [hc140]; rfl) (by decide) ?_
                                            refine vi_aload_n C 1 dL_acts_243 rfl ?_
                                            refine vi_iload_n C 0 dL_acts_244 rfl ?_
                                            obtain ⟨y139, u138, hgu138, h⟩ := ob_p h
                                            refine cY_i (As := [.int y5]) (rest := []) (ud := u138) C 1 (mX7_sight C.2.2.2.2.2.2.2.2.1 hgu138) 1 rfl tcX7_sight tlL_71 tiX7_sight tsX7_sight rfl tnX7 tdX7_sight ⟨Nat.le_of_ble_eq_true rfl, Nat.le_of_ble_eq_true rfl⟩ ⟨Nat.le_refl 0, Nat.le_refl 0⟩ rfl rfl (Nat.le_of_ble_eq_true rfl) dL_acts_245 ?_
                                            cases h
                                            exact RET (fun j => [].getD j 0) 0 0 _ _ trivial dL_acts_248
                                          · replace h := ob_f h hc140
                                            by_cases hc143 : y6 = 21
                                            · have h := ob_t h hc143
                                              refine vi_tswIn (off := 229) (tgt := 243) C dL_acts_14 (by rw [hc143]; decide) (by rw [hc143]; decide) (by rw [hc143]; rfl) (by decide) ?_
                                              refine vi_aload_n C 1 dL_acts_243 rfl ?_
                                              refine vi_iload_n C 0 dL_acts_244 rfl ?_
                                              obtain ⟨y142, u141, hgu141, h⟩ := ob_p h
                                              refine cY_i (As := [.int y5]) (rest := []) (ud := u141) C 1 (mX7_sight C.2.2.2.2.2.2.2.2.1 hgu141) 1 rfl tcX7_sight tlL_71 tiX7_sight tsX7_sight rfl tnX7 tdX7_sight ⟨Nat.le_of_ble_eq_true rfl, Nat.le_of_ble_eq_true rfl⟩ ⟨Nat.le_refl 0, Nat.le_refl 0⟩ rfl rfl (Nat.le_of_ble_eq_true rfl) dL_acts_245 ?_
                                              cases h
                                              exact RET (fun j => [].getD j 0) 0 0 _ _ trivial dL_acts_248
                                            · replace h := ob_f h hc143
                                              by_cases hc146 : y6 = 22
                                              · have h := ob_t h hc146
                                                refine vi_tswIn (off := 229) (tgt := 243) C dL_acts_14 (by rw [hc146]; decide) (by rw [hc146]; decide) (by rw [hc146]; rfl) (by decide) ?_
                                                refine vi_aload_n C 1 dL_acts_243 rfl ?_
                                                refine vi_iload_n C 0 dL_acts_244 rfl ?_
                                                obtain ⟨y145, u144, hgu144, h⟩ := ob_p h
                                                refine cY_i (As := [.int y5]) (rest := []) (ud := u144) C 1 (mX7_sight C.2.2.2.2.2.2.2.2.1 hgu144) 1 rfl tcX7_sight tlL_71 tiX7_sight tsX7_sight rfl tnX7 tdX7_sight ⟨Nat.le_of_ble_eq_true rfl, Nat.le_of_ble_eq_true rfl⟩ ⟨Nat.le_refl 0, Nat.le_refl 0⟩ rfl rfl (Nat.le_of_ble_eq_true rfl) dL_acts_245 ?_
                                                cases h
                                                exact RET (fun j => [].getD j 0) 0 0 _ _ trivial dL_acts_248
                                              · replace h := ob_f h hc146
                                                by_cases hc149 : y6 = 23
                                                · have h := ob_t h hc149
                                                  refine vi_tswIn (off := 229) (tgt := 243) C dL_acts_14 (by rw [hc149]; decide) (by rw [hc149]; decide) (by rw [hc149]; rfl) (by decide) ?_
                                                  refine vi_aload_n C 1 dL_acts_243 rfl ?_
                                                  refine vi_iload_n C 0 dL_acts_244 rfl ?_
                                                  obtain ⟨y148, u147, hgu147, h⟩ := ob_p h
                                                  refine cY_i (As := [.int y5]) (rest := []) (ud := u147) C 1 (mX7_sight C.2.2.2.2.2.2.2.2.1 hgu147) 1 rfl tcX7_sight tlL_71 tiX7_sight tsX7_sight rfl tnX7 tdX7_sight ⟨Nat.le_of_ble_eq_true rfl, Nat.le_of_ble_eq_true rfl⟩ ⟨Nat.le_refl 0, Nat.le_refl 0⟩ rfl rfl (Nat.le_of_ble_eq_true rfl) dL_acts_245 ?_
                                                  cases h
                                                  exact RET (fun j => [].getD j 0) 0 0 _ _ trivial dL_acts_248
                                                · replace h := ob_f h hc149
                                                  refine vi_tswOut (tgt := 249) C dL_acts_14 (by have thc11 := lv_neT hc11 (a := 0) (by decide); have thc16 := lv_neT hc16 (a := 1) (by decide); have thc21 := lv_neT hc21 (a := 2) (by decide); have thc26 := lv_neT hc26 (a := 3) (by decide); have thc29 := lv_neT hc29 (a := 4) (by decide); have thc34 := lv_neT hc34 (a := 5) (by decide); have thc39 := lv_neT hc39 (a := 6) (by decide); have thc44 := lv_neT hc44 (a := 7) (by decide); have thc54 := lv_neT hc54 (a := 8) (by decide); have thc64 := lv_neT hc64 (a := 9) (by decide); have thc74 := lv_neT hc74 (a := 10) (by decide); have thc79 := lv_neT hc79 (a := 11) (by decide); have thc84 := lv_neT hc84 (a := 12) (by decide); have thc96 := lv_neT hc96 (a := 13) (by decide); have thc108 := lv_neT hc108 (a := 14) (by decide); have thc118 := lv_neT hc118 (a := 15) (by decide); have thc128 := lv_neT hc128 (a := 16) (by decide); have thc131 := lv_neT hc131 (a := 17) (by decide); have thc134 := lv_neT hc134 (a := 18) (by decide); have thc137 := lv_neT hc137 (a := 19) (by decide); have thc140 := lv_neT hc140 (a := 20) (by decide); have thc143 := lv_neT hc143 (a := 21) (by decide); have thc146 := lv_neT hc146 (a := 22) (by decide); have thc149 := lv_neT hc149 (a := 23) (by decide); omega) (by decide) ?_
                                                  refine vi_aload_n C 1 dL_acts_249 rfl ?_
                                                  obtain ⟨y151, u150, hgu150, h⟩ := ob_p h
                                                  refine cY_i (As := []) (rest := []) (ud := u150) C 1 (mX7_hour C.2.2.2.2.2.2.2.2.1 hgu150) 0 rfl tcX7_hour tlL_74 tiX7_hour tsX7_hour rfl tnX7 tdX7_hour ⟨Nat.le_of_ble_eq_true rfl, Nat.le_of_ble_eq_true rfl⟩ ⟨Nat.le_refl 0, Nat.le_refl 0⟩ rfl rfl (Nat.le_of_ble_eq_true rfl) dL_acts_250 ?_
                                                  cases h
                                                  exact RET (fun j => [].getD j 0) 0 0 _ _ trivial dL_acts_253
theorem hm_L_acts {ad adK adV : Nat → Nat} {tS tF : Nat} {tX sK sV : Nat → Nat} (hE : vEok (vE ad adK adV tS tF tX sK sV)) {l : Launch} {D : va_G} {cI cF cC cS cO cB cZ : ClassId} {q0 qs qo qt qv qr qx ql : Nat → Nat} {qh : Nat → Nat → Nat} {a0 : Nat} {r0 : Int32} {r_o1 : Int32} {u0 : vZ} {x1 : Int32} {f0_0 : Int32} {u : vZ} (h : hf_L_acts x1 f0_0 u = some (r0, r_o1, u0)) : vG (vE ad adK adV tS tF tX sK sV) l yL_acts cL_acts 4 (some .int) 8 183 0 0 D (vT7 cI cF cC cS cO cB cZ) [.ref (q0 0), .int x1, .ref a0] ([(a0, .inr (8, [.int f0_0]))] ++ wX q0 qs qo qt qv qr qx ql ad qh cI cF cC cS cO u) (gQi D (fun q => ([(a0, .inr (8, [.int r_o1]))] ++ wX q0 qs qo qt qv qr qx ql ad qh cI cF cC cS cO u0)) r0) :=
  vG_of hE (by decide +kernel) (Nat.le_of_ble_eq_true rfl) (fun p e s m args below meth c A C hr hin => hk_L_acts_e C (fun q kc ks pc lv hk hd => g_reti (WQ := (fun q => ([(a0, .inr (8, [.int r_o1]))] ++ wX q0 qs qo qt qv qr qx ql ad qh cI cF cC cS cO u0))) C hr rfl q rfl ⟨Nat.le_refl 0, Nat.le_refl 0⟩ hd) h)
