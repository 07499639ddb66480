def hf_L_alike_338 (mc : Nat) (ms : Nat) (rec_267 : Int32 → Int32 → Int32 → Nat → (Nat → Int32) → vZ → Nat → Nat → Option (Int32 × vZ)) (x1 : Int32) (x2 : Int32) (x3 : Int32) (x4 : Int32) (x5 : Int32) (n6 : Nat) (g7 : Nat → Int32) (u : vZ) (kc : Nat) (ks : Nat) : Option (Int32 × vZ) := bd ((x5 + x4 : Int32)) fun y1 => obp (fX7_sailorOf x2 (7 : Int32) u) fun y3 u2 => (if y3 = x3 then obp (fX7_sailorOf x2 (8 : Int32) u2) fun y6 u5 => if x2 < 0 ∨ n6 ≤ Int32.toNatClampNeg x2 then none else (if y6 = g7 (Int32.toNatClampNeg x2) then bd ((x2 + 1 : Int32)) fun y9 => rec_267 x1 y1 y9 n6 g7 u5 kc ks else some ((0 : Int32), u5)) else some ((0 : Int32), u2))
set_option maxRecDepth 100000 in
set_option maxHeartbeats 4000000 in
theorem hk_L_alike_338 {ad adK adV : Nat → Nat} {tS tF : Nat} {tX sK sV : Nat → Nat} {p : Program} {l : Launch} {e : Env} {s : State} {m : MethodId} {args : Array Value} {below : List Frame} {meth : Method} {c : Code} {A : Nat → Prop} {D : va_G} {cI cF cC cS cO cB cZ : ClassId} {Q : State → Prop} {q0 qs qo qt qv qr qx ql : Nat → Nat} {qh : Nat → Nat → Nat} {mc : Nat} {ms : Nat} (C : vC (vE ad adK adV tS tF tX sK sV) p l s m args meth c A D (vT7 cI cF cC cS cO cB cZ) cL_alike 12 RL) {r0 : Int32} {u0 : vZ} (RET : ∀ (q : Nat → Nat) (kc ks : Nat) (pc : Nat) (lv : List (Nat × Value)), (kc ≤ mc ∧ ks ≤ ms) → decode cL_alike pc = .ok (.ireturn, 1) → (r0 = 0 ∨ r0 = 1) → vV p l e { frames := 7, cells := mc, slots := ms, locals := 154 } s m args below meth c A D 12 kc ks Q ([] ++ wX q0 qs qo qt qv qr qx ql ad qh cI cF cC cS cO u0) pc lv [.int r0]) {rec_267 : Int32 → Int32 → Int32 → Nat → (Nat → Int32) → vZ → Nat → Nat → Option (Int32 × vZ)} (REC_267 : ∀ (b0 : Nat) (x1 : Int32) (x2 : Int32) (x3 : Int32) (n4 : Nat) (g5 : Nat → Int32) (u : vZ) (kc : Nat) (ks : Nat), (kc ≤ mc ∧ ks ≤ ms) → rec_267 x1 x2 x3 n4 g5 u kc ks = some (r0, u0) → vV p l e { frames := 7, cells := mc, slots := ms, locals := 154 } s m args below meth c A D 12 kc ks Q ([(b0, .inl (cI, n4, .inl (g5)))] ++ wX q0 qs qo qt qv qr qx ql ad qh cI cF cC cS cO u) 267 [(0, .ref (q0 0)), (1, .int x1), (2, .ref b0), (3, .int x2), (4, .int x3)] []) : ∀ (b0 : Nat) (x1 : Int32) (x2 : Int32) (x3 : Int32) (x4 : Int32) (x5 : Int32) (n6 : Nat) (g7 : Nat → Int32) (u : vZ) (kc : Nat) (ks : Nat), (kc ≤ mc ∧ ks ≤ ms) → hf_L_alike_338 mc ms rec_267 x1 x2 x3 x4 x5 n6 g7 u kc ks = some (r0, u0) → vV p l e { frames := 7, cells := mc, slots := ms, locals := 154 } s m args below meth c A D 12 kc ks Q ([(b0, .inl (cI, n6, .inl (g7)))] ++ wX q0 qs qo qt qv qr qx ql ad qh cI cF cC cS cO u) 338 [(0, .ref (q0 0)), (1, .int x1), (2, .ref b0), (4, .int x2), (5, .int x3)] [.int x4, .int x5] := by
  intro b0 x1 x2 x3 x4 x5 n6 g7 u kc ks hkc h
  rw [hf_L_alike_338] at h
  refine vi_iadd C dL_alike_338 ?_
  obtain ⟨y1, ey1, h⟩ := ob_nm h
  refine vi_nmi ey1 ?_
  refine vi_istore_n (lv' := [(3, .int y1), (0, .ref (q0 0)), (1, .int x1), (2, .ref b0), (4, .int x2), (5, .int x3)]) C dL_alike_339 rfl (by decide) rfl ?_
  refine vi_aload_n C 1 dL_alike_340 rfl ?_
  refine vi_iload C 4 dL_alike_341 rfl ?_
  refine vi_bipush (v := 7) C dL_alike_343 (by decide) ?_
  obtain ⟨y3, u2, hgu2, h⟩ := ob_p h
  refine cY_i (As := [.int x2, .int (7 : Int32)]) (rest := []) (ud := u2) C 1 (mX7_sailorOf C.2.2.2.2.2.2.2.2.1 hgu2) 2 rfl tcX7_sailorOf tlL_110 tiX7_sailorOf tsX7_sailorOf rfl tnX7 tdX7_sailorOf ⟨Nat.le_of_ble_eq_true rfl, Nat.le_of_ble_eq_true rfl⟩ hkc rfl rfl (Nat.le_of_ble_eq_true rfl) dL_alike_345 ?_
  refine vi_iload C 5 dL_alike_348 rfl ?_
  refine vi_icmp_ne (tgt := 368) C dL_alike_350 (by decide) (fun hc4 => ?_) (fun hc4 => ?_)
  · have h := ob_f h hc4
    refine vi_iconst (v := 0) C dL_alike_368 (by decide) ?_
    refine vi_pickX (ex2 := []) [] (by decide) rfl ?_
    cases h
    exact RET (fun j => [].getD j 0) _ _ _ _ hkc dL_alike_369 (by decide)
  · have h := ob_t h hc4
    refine vi_aload_n C 1 dL_alike_353 rfl ?_
    refine vi_iload C 4 dL_alike_354 rfl ?_
    refine vi_bipush (v := 8) C dL_alike_356 (by decide) ?_
    obtain ⟨y6, u5, hgu5, h⟩ := ob_p h
    refine cY_i (As := [.int x2, .int (8 : Int32)]) (rest := []) (ud := u5) C 1 (mX7_sailorOf C.2.2.2.2.2.2.2.2.1 hgu5) 2 rfl tcX7_sailorOf tlL_110 tiX7_sailorOf tsX7_sailorOf rfl tnX7 tdX7_sailorOf ⟨Nat.le_of_ble_eq_true rfl, Nat.le_of_ble_eq_true rfl⟩ hkc rfl rfl (Nat.le_of_ble_eq_true rfl) dL_alike_358 ?_
    refine vi_aload_n C 3 dL_alike_361 rfl ?_
    refine vi_iload C 4 dL_alike_362 rfl ?_
    obtain ⟨hz7, h⟩ := ob_if h
    refine vi_iald C 0 0 rfl rfl hz7 dL_alike_364 ?_
    refine vi_icmp_eq (tgt := 370) C dL_alike_365 (by decide) (fun hc8 => ?_) (fun hc8 => ?_)
    · have h := ob_t h hc8
      obtain ⟨y9, ey9, h⟩ := ob_nm h
      refine vi_iinc (v := y9) (lv' := [(4, .int y9), (3, .int y1), (0, .ref (q0 0)), (1, .int x1), (2, .ref b0), (5, .int x3)]) C 4 dL_alike_370 rfl (by rw [ey9]; rfl) (by decide) rfl ?_
      refine vi_goto (tgt := 267) C dL_alike_373 (by decide) ?_
      refine vi_sub C [2, 3, 4, 1, 0] rfl ?_
      exact REC_267 _ _ _ _ _ _ _ _ _ hkc h
    · have h := ob_f h hc8
      refine vi_iconst (v := 0) C dL_alike_368 (by decide) ?_
      refine vi_pickX (ex2 := []) [] (by decide) rfl ?_
      cases h
      exact RET (fun j => [].getD j 0) _ _ _ _ hkc dL_alike_369 (by decide)
def hf_L_alike_279 (mc : Nat) (ms : Nat) : Nat → (Int32 → Int32 → Int32 → Nat → (Nat → Int32) → vZ → Nat → Nat → Option (Int32 × vZ)) → Int32 → Int32 → Int32 → Int32 → Int32 → Nat → (Nat → Int32) → vZ → Nat → Nat → Option (Int32 × vZ)
  | 0, _, _, _, _, _, _, _, _, _, _, _ => none
  | n + 1, rec_267, x1, x2, x3, x4, x5, n6, g7, u, kc, ks => (if x1 ≤ x5 then if x3 < 0 ∨ n6 ≤ Int32.toNatClampNeg x3 then none else (fJ6_numberOfTrailingZeros_0f7a4 (g7 (Int32.toNatClampNeg x3))).bind fun y3 => (if y3 = x3 then hf_L_alike_338 mc ms rec_267 x1 x3 x4 (1 : Int32) x2 n6 g7 u kc ks else hf_L_alike_338 mc ms rec_267 x1 x3 x4 (0 : Int32) x2 n6 g7 u kc ks) else (if x5 = x3 then bd ((x4 + (0 : Int32) : Int32)) fun y6 => bd ((x5 + 1 : Int32)) fun y7 => hf_L_alike_279 mc ms n rec_267 x1 x2 x3 y6 y7 n6 g7 u kc ks else obp (fX7_unlike x3 x5 u) fun y9 u8 => (if (4 : Int32) < y9 then bd ((x4 + (0 : Int32) : Int32)) fun y11 => bd ((x5 + 1 : Int32)) fun y12 => hf_L_alike_279 mc ms n rec_267 x1 x2 x3 y11 y12 n6 g7 u8 kc ks else bd ((x4 + (1 : Int32) : Int32)) fun y13 => bd ((x5 + 1 : Int32)) fun y14 => hf_L_alike_279 mc ms n rec_267 x1 x2 x3 y13 y14 n6 g7 u8 kc ks)))
set_option maxRecDepth 100000 in
set_option maxHeartbeats 4000000 in
theorem hk_L_alike_279 {ad adK adV : Nat → Nat} {tS tF : Nat} {tX sK sV : Nat → Nat} {p : Program} {l : Launch} {e : Env} {s : State} {m : MethodId} {args : Array Value} {below : List Frame} {meth : Method} {c : Code} {A : Nat → Prop} {D : va_G} {cI cF cC cS cO cB cZ : ClassId} {Q : State → Prop} {q0 qs qo qt qv qr qx ql : Nat → Nat} {qh : Nat → Nat → Nat} {mc : Nat} {ms : Nat} (C : vC (vE ad adK adV tS tF tX sK sV) p l s m args meth c A D (vT7 cI cF cC cS cO cB cZ) cL_alike 12 RL) {r0 : Int32} {u0 : vZ} (RET : ∀ (q : Nat → Nat) (kc ks : Nat) (pc : Nat) (lv : List (Nat × Value)), (kc ≤ mc ∧ ks ≤ ms) → decode cL_alike pc = .ok (.ireturn, 1) → (r0 = 0 ∨ r0 = 1) → vV p l e { frames := 7, cells := mc, slots := ms, locals := 154 } s m args below meth c A D 12 kc ks Q ([] ++ wX q0 qs qo qt qv qr qx ql ad qh cI cF cC cS cO u0) pc lv [.int r0]) {rec_267 : Int32 → Int32 → Int32 → Nat → (Nat → Int32) → vZ → Nat → Nat → Option (Int32 × vZ)} (REC_267 : ∀ (b0 : Nat) (x1 : Int32) (x2 : Int32) (x3 : Int32) (n4 : Nat) (g5 : Nat → Int32) (u : vZ) (kc : Nat) (ks : Nat), (kc ≤ mc ∧ ks ≤ ms) → rec_267 x1 x2 x3 n4 g5 u kc ks = some (r0, u0) → vV p l e { frames := 7, cells := mc, slots := ms, locals := 154 } s m args below meth c A D 12 kc ks Q ([(b0, .inl (cI, n4, .inl (g5)))] ++ wX q0 qs qo qt qv qr qx ql ad qh cI cF cC cS cO u) 267 [(0, .ref (q0 0)), (1, .int x1), (2, .ref b0), (3, .int x2), (4, .int x3)] []) : ∀ (n : Nat) (b0 : Nat) (x1 : Int32) (x2 : Int32) (x3 : Int32) (x4 : Int32) (x5 : Int32) (n6 : Nat) (g7 : Nat → Int32) (u : vZ) (kc : Nat) (ks : Nat), (kc ≤ mc ∧ ks ≤ ms) → hf_L_alike_279 mc ms n rec_267 x1 x2 x3 x4 x5 n6 g7 u kc ks = some (r0, u0) → vV p l e { frames := 7, cells := mc, slots := ms, locals := 154 } s m args below meth c A D 12 kc ks Q ([(b0, .inl (cI, n6, .inl (g7)))] ++ wX q0 qs qo qt qv qr qx ql ad qh cI cF cC cS cO u) 279 [(0, .ref (q0 0)), (1, .int x1), (2, .ref b0), (3, .int x2), (4, .int x3), (5, .int x4), (6, .int x5)] [] := by
  intro n
  induction n with
  | zero => intro b0 x1 x2 x3 x4 x5 n6 g7 u kc ks hkc h; rw [hf_L_alike_279] at h; cases h
  | succ n ih =>
    intro b0 x1 x2 x3 x4 x5 n6 g7 u kc ks hkc h
    rw [hf_L_alike_279] at h
    refine vi_iload C 6 dL_alike_279 rfl ?_
    refine vi_iload_n C 1 dL_alike_281 rfl ?_
    refine vi_icmp_ge (tgt := 320) C dL_alike_282 (by decide) (fun hc1 => ?_) (fun hc1 => ?_)
    · have h := ob_t h hc1
      refine vi_iload_n C 3 dL_alike_320 rfl ?_
      refine vi_aload_n C 2 dL_alike_321 rfl ?_
      refine vi_iload C 4 dL_alike_322 rfl ?_
      obtain ⟨hz2, h⟩ := ob_if h
      refine vi_iald C 0 0 rfl rfl hz2 dL_alike_324 ?_
      obtain ⟨y3, hgy3, h⟩ := ob_bd h
      refine vi_callS1i (As := [.int (g7 (Int32.toNatClampNeg x3))]) (rest := [.int x2]) C (mJ6_numberOfTrailingZeros_0f7a4 C.2.2.2.2.2.2.2.2.1 hgy3) 1 rfl tcJ6_numberOfTrailingZeros_0f7a4 tlL_205 ttJ6_numberOfTrailingZeros_0f7a4 tnJ6 tdJ6_numberOfTrailingZeros_0f7a4 ⟨Nat.le_of_ble_eq_true rfl, Nat.le_of_ble_eq_true rfl⟩ hkc rfl (Nat.le_of_ble_eq_true rfl) dL_alike_325 ?_
      refine vi_iload C 4 dL_alike_328 rfl ?_
      refine vi_icmp_ne (tgt := 337) C dL_alike_330 (by decide) (fun hc4 => ?_) (fun hc4 => ?_)
      · have h := ob_f h hc4
        refine vi_iconst (v := 0) C dL_alike_337 (by decide) ?_
        refine vi_sub C [0, 1, 2, 4, 5] rfl ?_
        exact hk_L_alike_338 C RET REC_267  _ _ _ _ _ _ _ _ _ _ _ hkc h
      · have h := ob_t h hc4
        refine vi_iconst (v := 1) C dL_alike_333 (by decide) ?_
        refine vi_goto (tgt := 338) C dL_alike_334 (by decide) ?_
        refine vi_sub C [0, 1, 2, 4, 5] rfl ?_
        exact hk_L_alike_338 C RET REC_267  _ _ _ _ _ _ _ _ _ _ _ hkc h
    · have h := ob_f h hc1
      refine vi_iload C 5 dL_alike_285 rfl ?_
      refine vi_iload C 6 dL_alike_287 rfl ?_
      refine vi_iload C 4 dL_alike_289 rfl ?_
      refine vi_icmp_eq (tgt := 310) C dL_alike_291 (by decide) (fun hc5 => ?_) (fun hc5 => ?_)
      · have h := ob_t h hc5
        refine vi_iconst (v := 0) C dL_alike_310 (by decide) ?_
        refine vi_iadd C dL_alike_311 ?_
        obtain ⟨y6, ey6, h⟩ := ob_nm h
        refine vi_nmi ey6 ?_
        refine vi_istore (lv' := [(5, .int y6), (0, .ref (q0 0)), (1, .int x1), (2, .ref b0), (3, .int x2), (4, .int x3), (6, .int x5)]) C dL_alike_312 (by decide) rfl ?_
        obtain ⟨y7, ey7, h⟩ := ob_nm h
        refine vi_iinc (v := y7) (lv' := [(6, .int y7), (5, .int y6), (0, .ref (q0 0)), (1, .int x1), (2, .ref b0), (3, .int x2), (4, .int x3)]) C 6 dL_alike_314 rfl (by rw [ey7]; rfl) (by decide) rfl ?_
        refine vi_goto (tgt := 279) C dL_alike_317 (by decide) ?_
        refine vi_sub C [2, 3, 4, 5, 6, 1, 0] rfl ?_
        exact ih _ _ _ _ _ _ _ _ _ _ _ hkc h
      · have h := ob_f h hc5
        refine vi_aload_n C 0 dL_alike_294 rfl ?_
        refine vi_iload C 4 dL_alike_295 rfl ?_
        refine vi_iload C 6 dL_alike_297 rfl ?_
        obtain ⟨y9, u8, hgu8, h⟩ := ob_p h
        refine cY_i (As := [.int x3, .int x5]) (rest := [.int x4]) (ud := u8) C 1 (mX7_unlike C.2.2.2.2.2.2.2.2.1 hgu8) 2 rfl tcX7_unlike tlL_196 tiX7_unlike tsX7_unlike rfl tnX7 tdX7_unlike ⟨Nat.le_of_ble_eq_true rfl, Nat.le_of_ble_eq_true rfl⟩ hkc rfl rfl (Nat.le_of_ble_eq_true rfl) dL_alike_299 ?_
        refine vi_iconst (v := 4) C dL_alike_302 (by decide) ?_
        refine vi_icmp_gt (tgt := 310) C dL_alike_303 (by decide) (fun hc10 => ?_) (fun hc10 => ?_)
        · have h := ob_t h hc10
          refine vi_iconst (v := 0) C dL_alike_310 (by decide) ?_
          refine vi_iadd C dL_alike_311 ?_
          obtain ⟨y11, ey11, h⟩ := ob_nm h
          refine vi_nmi ey11 ?_
          refine vi_istore (lv' := [(5, .int y11), (0, .ref (q0 0)), (1, .int x1), (2, .ref b0), (3, .int x2), (4, .int x3), (6, .int x5)]) C dL_alike_312 (by decide) rfl ?_
          obtain ⟨y12, ey12, h⟩ := ob_nm h
          refine vi_iinc (v := y12) (lv' := [(6, .int y12), (5, .int y11), (0, .ref (q0 0)), (1, .int x1), (2, .ref b0), (3, .int x2), (4, .int x3)]) C 6 dL_alike_314 rfl (by rw [ey12]; rfl) (by decide) rfl ?_
          refine vi_goto (tgt := 279) C dL_alike_317 (by decide) ?_
          refine vi_sub C [2, 3, 4, 5, 6, 1, 0] rfl ?_
          exact ih _ _ _ _ _ _ _ _ _ _ _ hkc h
        · have h := ob_f h hc10
          refine vi_iconst (v := 1) C dL_alike_306 (by decide) ?_
          refine vi_goto (tgt := 311) C dL_alike_307 (by decide) ?_
          refine vi_iadd C dL_alike_311 ?_
          obtain ⟨y13, ey13, h⟩ := ob_nm h
          refine vi_nmi ey13 ?_
          refine vi_istore (lv' := [(5, .int y13), (0, .ref (q0 0)), (1, .int x1), (2, .ref b0), (3, .int x2), (4, .int x3), (6, .int x5)]) C dL_alike_312 (by decide) rfl ?_
          obtain ⟨y14, ey14, h⟩ := ob_nm h
          refine vi_iinc (v := y14) (lv' := [(6, .int y14), (5, .int y13), (0, .ref (q0 0)), (1, .int x1), (2, .ref b0), (3, .int x2), (4, .int x3)]) C 6 dL_alike_314 rfl (by rw [ey14]; rfl) (by decide) rfl ?_
          refine vi_goto (tgt := 279) C dL_alike_317 (by decide) ?_
          refine vi_sub C [2, 3, 4, 5, 6, 1, 0] rfl ?_
          exact ih _ _ _ _ _ _ _ _ _ _ _ hkc h
def hf_L_alike_267 (mc : Nat) (ms : Nat) : Nat → Int32 → Int32 → Int32 → Nat → (Nat → Int32) → vZ → Nat → Nat → Option (Int32 × vZ)
  | 0, _, _, _, _, _, _, _, _ => none
  | n + 1, x1, x2, x3, n4, g5, u, kc, ks => (if x1 ≤ x3 then obp (fX7_messes u) fun y3 u2 => (if y3 = x2 then obp (fX7_unlike (0 : Int32) x1 u2) fun y6 u5 => (if y6 = (-100001 : Int32) then obp (fX7_closest x1 (0 : Int32) u5) fun y9 u8 => (if y9 = (-100001 : Int32) then some ((1 : Int32), u8) else some ((0 : Int32), u8)) else some ((0 : Int32), u5)) else some ((0 : Int32), u2)) else hf_L_alike_279 mc ms vF (fun c0 c1 c2 c3 c4 c5 c6 c7 => hf_L_alike_267 mc ms n  c0 c1 c2 c3 c4 c5 c6 c7) x1 x2 x3 (0 : Int32) (0 : Int32) n4 g5 u kc ks)
set_option maxRecDepth 100000 in
set_option maxHeartbeats 4000000 in
theorem hk_L_alike_267 {ad adK adV : Nat → Nat} {tS tF : Nat} {tX sK sV : Nat → Nat} {p : Program} {l : Launch} {e : Env} {s : State} {m : MethodId} {args : Array Value} {below : List Frame} {meth : Method} {c : Code} {A : Nat → Prop} {D : va_G} {cI cF cC cS cO cB cZ : ClassId} {Q : State → Prop} {q0 qs qo qt qv qr qx ql : Nat → Nat} {qh : Nat → Nat → Nat} {mc : Nat} {ms : Nat} (C : vC (vE ad adK adV tS tF tX sK sV) p l s m args meth c A D (vT7 cI cF cC cS cO cB cZ) cL_alike 12 RL) {r0 : Int32} {u0 : vZ} (RET : ∀ (q : Nat → Nat) (kc ks : Nat) (pc : Nat) (lv : List (Nat × Value)), (kc ≤ mc ∧ ks ≤ ms) → decode cL_alike pc = .ok (.ireturn, 1) → (r0 = 0 ∨ r0 = 1) → vV p l e { frames := 7, cells := mc, slots := ms, locals := 154 } s m args below meth c A D 12 kc ks Q ([] ++ wX q0 qs qo qt qv qr qx ql ad qh cI cF cC cS cO u0) pc lv [.int r0]) : ∀ (n : Nat) (b0 : Nat) (x1 : Int32) (x2 : Int32) (x3 : Int32) (n4 : Nat) (g5 : Nat → Int32) (u : vZ) (kc : Nat) (ks : Nat), (kc ≤ mc ∧ ks ≤ ms) → hf_L_alike_267 mc ms n x1 x2 x3 n4 g5 u kc ks = some (r0, u0) → vV p l e { frames := 7, cells := mc, slots := ms, locals := 154 } s m args below meth c A D 12 kc ks Q ([(b0, .inl (cI, n4, .inl (g5)))] ++ wX q0 qs qo qt qv qr qx ql ad qh cI cF cC cS cO u) 267 [(0, .ref (q0 0)), (1, .int x1), (2, .ref b0), (3, .int x2), (4, .int x3)] [] := by
  intro n
  induction n with
  | zero => intro b0 x1 x2 x3 n4 g5 u kc ks hkc h; rw [hf_L_alike_267] at h; cases h
  | succ n ih =>
    intro b0 x1 x2 x3 n4 g5 u kc ks hkc h
    rw [hf_L_alike_267] at h
    refine vi_iload C 4 dL_alike_267 rfl ?_
    refine vi_iload_n C 1 dL_alike_269 rfl ?_
    refine vi_icmp_ge (tgt := 376) C dL_alike_270 (by decide) (fun hc1 => ?_) (fun hc1 => ?_)
    · have h := ob_t h hc1
      refine vi_aload_n C 0 dL_alike_376 rfl ?_
      obtain ⟨y3, u2, hgu2, h⟩ := ob_p h
      refine cY_i (As := []) (rest := []) (ud := u2) C 1 (mX7_messes C.2.2.2.2.2.2.2.2.1 hgu2) 0 rfl tcX7_messes tlL_208 tiX7_messes tsX7_messes rfl tnX7 tdX7_messes ⟨Nat.le_of_ble_eq_true rfl, Nat.le_of_ble_eq_true rfl⟩ hkc rfl rfl (Nat.le_of_ble_eq_true rfl) dL_alike_377 ?_
      refine vi_iload_n C 3 dL_alike_380 rfl ?_
      refine vi_icmp_ne (tgt := 410) C dL_alike_381 (by decide) (fun hc4 => ?_) (fun hc4 => ?_)
      · have h := ob_f h hc4
        refine vi_iconst (v := 0) C dL_alike_410 (by decide) ?_
        refine vi_pickX (ex2 := []) [] (by decide) rfl ?_
        cases h
        exact RET (fun j => [].getD j 0) _ _ _ _ hkc dL_alike_411 (by decide)
      · have h := ob_t h hc4
        refine vi_aload_n C 0 dL_alike_384 rfl ?_
        refine vi_iconst (v := 0) C dL_alike_385 (by decide) ?_
        refine vi_iload_n C 1 dL_alike_386 rfl ?_
        obtain ⟨y6, u5, hgu5, h⟩ := ob_p h
        refine cY_i (As := [.int (0 : Int32), .int x1]) (rest := []) (ud := u5) C 1 (mX7_unlike C.2.2.2.2.2.2.2.2.1 hgu5) 2 rfl tcX7_unlike tlL_196 tiX7_unlike tsX7_unlike rfl tnX7 tdX7_unlike ⟨Nat.le_of_ble_eq_true rfl, Nat.le_of_ble_eq_true rfl⟩ hkc rfl rfl (Nat.le_of_ble_eq_true rfl) dL_alike_387 ?_
        refine vi_ldc (v := (-100001)) C dL_alike_390 tkL_166 ?_
        refine vi_icmp_ne (tgt := 410) C dL_alike_392 (by decide) (fun hc7 => ?_) (fun hc7 => ?_)
        · have h := ob_f h hc7
          refine vi_iconst (v := 0) C dL_alike_410 (by decide) ?_
          refine vi_pickX (ex2 := []) [] (by decide) rfl ?_
          cases h
          exact RET (fun j => [].getD j 0) _ _ _ _ hkc dL_alike_411 (by decide)
        · have h := ob_t h hc7
          refine vi_aload_n C 0 dL_alike_395 rfl ?_
          refine vi_iload_n C 1 dL_alike_396 rfl ?_
          refine vi_iconst (v := 0) C dL_alike_397 (by decide) ?_
          obtain ⟨y9, u8, hgu8, h⟩ := ob_p h
          refine cY_i (As := [.int x1, .int (0 : Int32)]) (rest := []) (ud := u8) C 1 (mX7_closest C.2.2.2.2.2.2.2.2.1 hgu8) 2 rfl tcX7_closest tlL_202 tiX7_closest tsX7_closest rfl tnX7 tdX7_closest ⟨Nat.le_of_ble_eq_true rfl, Nat.le_of_ble_eq_true rfl⟩ hkc rfl rfl (Nat.le_of_ble_eq_true rfl) dL_alike_398 ?_
          refine vi_ldc (v := (-100001)) C dL_alike_401 tkL_166 ?_
          refine vi_icmp_ne (tgt := 410) C dL_alike_403 (by decide) (fun hc10 => ?_) (fun hc10 => ?_)
          · have h := ob_f h hc10
            refine vi_iconst (v := 0) C dL_alike_410 (by decide) ?_
            refine vi_pickX (ex2 := []) [] (by decide) rfl ?_
            cases h
            exact RET (fun j => [].getD j 0) _ _ _ _ hkc dL_alike_411 (by decide)
          · have h := ob_t h hc10
            refine vi_iconst (v := 1) C dL_alike_406 (by decide) ?_
            refine vi_goto (tgt := 411) C dL_alike_407 (by decide) ?_
            refine vi_pickX (ex2 := []) [] (by decide) rfl ?_
            cases h
            exact RET (fun j => [].getD j 0) _ _ _ _ hkc dL_alike_411 (by decide)
    · have h := ob_f h hc1
      refine vi_iconst (v := 0) C dL_alike_273 (by decide) ?_
      refine vi_istore (lv' := [(5, .int (0 : Int32)), (0, .ref (q0 0)), (1, .int x1), (2, .ref b0), (3, .int x2), (4, .int x3)]) C dL_alike_274 (by decide) rfl ?_
      refine vi_iconst (v := 0) C dL_alike_276 (by decide) ?_
      refine vi_istore (lv' := [(6, .int (0 : Int32)), (5, .int (0 : Int32)), (0, .ref (q0 0)), (1, .int x1), (2, .ref b0), (3, .int x2), (4, .int x3)]) C dL_alike_277 (by decide) rfl ?_
      refine vi_sub C [2, 3, 4, 5, 6, 1, 0] rfl ?_
      exact hk_L_alike_279 C RET ih vF _ _ _ _ _ _ _ _ _ _ _ hkc h
def hf_L_alike_220 (mc : Nat) (ms : Nat) : Nat → (Int32 → Int32 → Nat → (Nat → Int32) → vZ → Nat → Nat → Option (Int32 × vZ)) → Int32 → Int32 → Int32 → Int32 → Nat → (Nat → Int32) → vZ → Nat → Nat → Option (Int32 × vZ)
  | 0, _, _, _, _, _, _, _, _, _, _ => none
  | n + 1, rec_31, x1, x2, x3, x4, n5, g6, u, kc, ks => (if x1 ≤ x4 then bd ((x2 + 1 : Int32)) fun y2 => rec_31 x1 y2 n5 g6 u kc ks else (if (x3 >>> (x4 &&& 31)) &&& (1 : Int32) = (1 : Int32) then if x4 < 0 ∨ n5 ≤ Int32.toNatClampNeg x4 then none else bd ((upd g6 (Int32.toNatClampNeg x4) x3 : Nat → Int32)) fun g9 => bd ((x4 + 1 : Int32)) fun y10 => hf_L_alike_220 mc ms n rec_31 x1 x2 x3 y10 n5 g9 u kc ks else if x4 < 0 ∨ n5 ≤ Int32.toNatClampNeg x4 then none else if x4 < 0 ∨ n5 ≤ Int32.toNatClampNeg x4 then none else bd ((upd g6 (Int32.toNatClampNeg x4) (g6 (Int32.toNatClampNeg x4)) : Nat → Int32)) fun g6 => bd ((x4 + 1 : Int32)) fun y7 => hf_L_alike_220 mc ms n rec_31 x1 x2 x3 y7 n5 g6 u kc ks))
set_option maxRecDepth 100000 in
set_option maxHeartbeats 4000000 in
theorem hk_L_alike_220 {ad adK adV : Nat → Nat} {tS tF : Nat} {tX sK sV : Nat → Nat} {p : Program} {l : Launch} {e : Env} {s : State} {m : MethodId} {args : Array Value} {below : List Frame} {meth : Method} {c : Code} {A : Nat → Prop} {D : va_G} {cI cF cC cS cO cB cZ : ClassId} {Q : State → Prop} {q0 qs qo qt qv qr qx ql : Nat → Nat} {qh : Nat → Nat → Nat} {mc : Nat} {ms : Nat} (C : vC (vE ad adK adV tS tF tX sK sV) p l s m args meth c A D (vT7 cI cF cC cS cO cB cZ) cL_alike 12 RL) {r0 : Int32} {u0 : vZ} (RET : ∀ (q : Nat → Nat) (kc ks : Nat) (pc : Nat) (lv : List (Nat × Value)), (kc ≤ mc ∧ ks ≤ ms) → decode cL_alike pc = .ok (.ireturn, 1) → (r0 = 0 ∨ r0 = 1) → vV p l e { frames := 7, cells := mc, slots := ms, locals := 154 } s m args below meth c A D 12 kc ks Q ([] ++ wX q0 qs qo qt qv qr qx ql ad qh cI cF cC cS cO u0) pc lv [.int r0]) {rec_31 : Int32 → Int32 → Nat → (Nat → Int32) → vZ → Nat → Nat → Option (Int32 × vZ)} (REC_31 : ∀ (b0 : Nat) (x1 : Int32) (x2 : Int32) (n3 : Nat) (g4 : Nat → Int32) (u : vZ) (kc : Nat) (ks : Nat), (kc ≤ mc ∧ ks ≤ ms) → rec_31 x1 x2 n3 g4 u kc ks = some (r0, u0) → vV p l e { frames := 7, cells := mc, slots := ms, locals := 154 } s m args below meth c A D 12 kc ks Q ([(b0, .inl (cI, n3, .inl (g4)))] ++ wX q0 qs qo qt qv qr qx ql ad qh cI cF cC cS cO u) 31 [(0, .ref (q0 0)), (1, .int x1), (2, .ref b0), (3, .int x2)] []) : ∀ (n : Nat) (b0 : Nat) (x1 : Int32) (x2 : Int32) (x3 : Int32) (x4 : Int32) (n5 : Nat) (g6 : Nat → Int32) (u : vZ) (kc : Nat) (ks : Nat), (kc ≤ mc ∧ ks ≤ ms) → hf_L_alike_220 mc ms n rec_31 x1 x2 x3 x4 n5 g6 u kc ks = some (r0, u0) → vV p l e { frames := 7, cells := mc, slots := ms, locals := 154 } s m args below meth c A D 12 kc ks Q ([(b0, .inl (cI, n5, .inl (g6)))] ++ wX q0 qs qo qt qv qr qx ql ad qh cI cF cC cS cO u) 220 [(0, .ref (q0 0)), (1, .int x1), (2, .ref b0), (3, .int x2), (10, .int x3), (11, .int x4)] [] := by
  intro n
  induction n with
  | zero => intro b0 x1 x2 x3 x4 n5 g6 u kc ks hkc h; rw [hf_L_alike_220] at h; cases h
  | succ n ih =>
    intro b0 x1 x2 x3 x4 n5 g6 u kc ks hkc h
    rw [hf_L_alike_220] at h
    refine vi_iload C 5 dL_alike_220 rfl ?_
    refine vi_iload_n C 1 dL_alike_222 rfl ?_
    refine vi_icmp_ge (tgt := 256) C dL_alike_223 (by decide) (fun hc1 => ?_) (fun hc1 => ?_)
    · have h := ob_t h hc1
      obtain ⟨y2, ey2, h⟩ := ob_nm h
      refine vi_iinc (v := y2) (lv' := [(3, .int y2), (0, .ref (q0 0)), (1, .int x1), (2, .ref b0), (10, .int x3), (11, .int x4)]) C 3 dL_alike_256 rfl (by rw [ey2]; rfl) (by decide) rfl ?_
      refine vi_goto (tgt := 31) C dL_alike_259 (by decide) ?_
      refine vi_sub C [1, 2, 3, 0] rfl ?_
      exact REC_31 _ _ _ _ _ _ _ _ hkc h
    · have h := ob_f h hc1
      refine vi_aload_n C 2 dL_alike_226 rfl ?_
      refine vi_iload C 5 dL_alike_227 rfl ?_
      refine vi_iload C 4 dL_alike_229 rfl ?_
      refine vi_iload C 5 dL_alike_231 rfl ?_
      refine vi_ishr C dL_alike_233 ?_
      refine vi_iconst (v := 1) C dL_alike_234 (by decide) ?_
      refine vi_iand C dL_alike_235 ?_
      refine vi_iconst (v := 1) C dL_alike_236 (by decide) ?_
      refine vi_icmp_ne (tgt := 245) C dL_alike_237 (by decide) (fun hc3 => ?_) (fun hc3 => ?_)
      · have h := ob_f h hc3
        refine vi_aload_n C 2 dL_alike_245 rfl ?_
        refine vi_iload C 5 dL_alike_246 rfl ?_
        obtain ⟨hz4, h⟩ := ob_if h
        refine vi_iald C 0 0 rfl rfl hz4 dL_alike_248 ?_
        obtain ⟨hz5, h⟩ := ob_if h
        obtain ⟨g6, eg6, h⟩ := ob_nm h
        refine vi_iast (w' := ([(b0, .inl (cI, n5, .inl (g6)))] ++ wX q0 qs qo qt qv qr qx ql ad qh cI cF cC cS cO u)) C 0 0 rfl rfl hz5 (by rw [eg6]; rfl) dL_alike_249 ?_
        obtain ⟨y7, ey7, h⟩ := ob_nm h
        refine vi_iinc (v := y7) (lv' := [(11, .int y7), (0, .ref (q0 0)), (1, .int x1), (2, .ref b0), (3, .int x2), (10, .int x3)]) C 5 dL_alike_250 rfl (by rw [ey7]; rfl) (by decide) rfl ?_
        refine vi_goto (tgt := 220) C dL_alike_253 (by decide) ?_
        refine vi_sub C [1, 2, 3, 4, 5, 0] rfl ?_
        exact ih _ _ _ _ _ _ _ _ _ _ hkc h
      · have h := ob_t h hc3
        refine vi_iload C 4 dL_alike_240 rfl ?_
        refine vi_goto (tgt := 249) C dL_alike_242 (by decide) ?_
        obtain ⟨hz8, h⟩ := ob_if h
        obtain ⟨g9, eg9, h⟩ := ob_nm h
        refine vi_iast (w' := ([(b0, .inl (cI, n5, .inl (g9)))] ++ wX q0 qs qo qt qv qr qx ql ad qh cI cF cC cS cO u)) C 0 0 rfl rfl hz8 (by rw [eg9]; rfl) dL_alike_249 ?_
        obtain ⟨y10, ey10, h⟩ := ob_nm h
        refine vi_iinc (v := y10) (lv' := [(11, .int y10), (0, .ref (q0 0)), (1, .int x1), (2, .ref b0), (3, .int x2), (10, .int x3)]) C 5 dL_alike_250 rfl (by rw [ey10]; rfl) (by decide) rfl ?_
        refine vi_goto (tgt := 220) C dL_alike_253 (by decide) ?_
        refine vi_sub C [1, 2, 3, 4, 5, 0] rfl ?_
        exact ih _ _ _ _ _ _ _ _ _ _ hkc h
def hf_L_alike_123 (mc : Nat) (ms : Nat) (rec_31 : Int32 → Int32 → Nat → (Nat → Int32) → vZ → Nat → Nat → Option (Int32 × vZ)) (rec_87 : Int32 → Int32 → Int32 → Int32 → Int32 → Int32 → Int32 → Int32 → Int32 → Nat → (Nat → Int32) → vZ → Nat → Nat → Option (Int32 × vZ)) (x1 : Int32) (x2 : Int32) (x3 : Int32) (x4 : Int32) (x5 : Int32) (x6 : Int32) (x7 : Int32) (x8 : Int32) (x9 : Int32) (x10 : Int32) (n11 : Nat) (g12 : Nat → Int32) (u : vZ) (kc : Nat) (ks : Nat) : Option (Int32 × vZ) := (fJ9_min_7cf53 x6 x9).bind fun y1 => bd ((((x7 <<< ((1 : Int32) &&& 31)) ||| (x7 >>> ((15 : Int32) &&& 31))) &&& (65535 : Int32) : Int32)) fun y2 => bd ((x8 + 1 : Int32)) fun y3 => rec_87 x1 x2 x3 x4 x5 x10 y1 y2 y3 n11 g12 u kc ks
set_option maxRecDepth 100000 in
set_option maxHeartbeats 4000000 in
theorem hk_L_alike_123 {ad adK adV : Nat → Nat} {tS tF : Nat} {tX sK sV : Nat → Nat} {p : Program} {l : Launch} {e : Env} {s : State} {m : MethodId} {args : Array Value} {below : List Frame} {meth : Method} {c : Code} {A : Nat → Prop} {D : va_G} {cI cF cC cS cO cB cZ : ClassId} {Q : State → Prop} {q0 qs qo qt qv qr qx ql : Nat → Nat} {qh : Nat → Nat → Nat} {mc : Nat} {ms : Nat} (C : vC (vE ad adK adV tS tF tX sK sV) p l s m args meth c A D (vT7 cI cF cC cS cO cB cZ) cL_alike 12 RL) {r0 : Int32} {u0 : vZ} (RET : ∀ (q : Nat → Nat) (kc ks : Nat) (pc : Nat) (lv : List (Nat × Value)), (kc ≤ mc ∧ ks ≤ ms) → decode cL_alike pc = .ok (.ireturn, 1) → (r0 = 0 ∨ r0 = 1) → vV p l e { frames := 7, cells := mc, slots := ms, locals := 154 } s m args below meth c A D 12 kc ks Q ([] ++ wX q0 qs qo qt qv qr qx ql ad qh cI cF cC cS cO u0) pc lv [.int r0]) {rec_31 : Int32 → Int32 → Nat → (Nat → Int32) → vZ → Nat → Nat → Option (Int32 × vZ)} (REC_31 : ∀ (b0 : Nat) (x1 : Int32) (x2 : Int32) (n3 : Nat) (g4 : Nat → Int32) (u : vZ) (kc : Nat) (ks : Nat), (kc ≤ mc ∧ ks ≤ ms) → rec_31 x1 x2 n3 g4 u kc ks = some (r0, u0) → vV p l e { frames := 7, cells := mc, slots := ms, locals := 154 } s m args below meth c A D 12 kc ks Q ([(b0, .inl (cI, n3, .inl (g4)))] ++ wX q0 qs qo qt qv qr qx ql ad qh cI cF cC cS cO u) 31 [(0, .ref (q0 0)), (1, .int x1), (2, .ref b0), (3, .int x2)] []) {rec_87 : Int32 → Int32 → Int32 → Int32 → Int32 → Int32 → Int32 → Int32 → Int32 → Nat → (Nat → Int32) → vZ → Nat → Nat → Option (Int32 × vZ)} (REC_87 : ∀ (b0 : Nat) (x1 : Int32) (x2 : Int32) (x3 : Int32) (x4 : Int32) (x5 : Int32) (x6 : Int32) (x7 : Int32) (x8 : Int32) (x9 : Int32) (n10 : Nat) (g11 : Nat → Int32) (u : vZ) (kc : Nat) (ks : Nat), (kc ≤ mc ∧ ks ≤ ms) → rec_87 x1 x2 x3 x4 x5 x6 x7 x8 x9 n10 g11 u kc ks = some (r0, u0) → vV p l e { frames := 7, cells := mc, slots := ms, locals := 154 } s m args below meth c A D 12 kc ks Q ([(b0, .inl (cI, n10, .inl (g11)))] ++ wX q0 qs qo qt qv qr qx ql ad qh cI cF cC cS cO u) 87 [(0, .ref (q0 0)), (1, .int x1), (2, .ref b0), (3, .int x2), (4, .int x3), (5, .int x4), (6, .int x5), (7, .int x6), (8, .int x7), (9, .int x8), (10, .int x9)] []) : ∀ (b0 : Nat) (x1 : Int32) (x2 : Int32) (x3 : Int32) (x4 : Int32) (x5 : Int32) (x6 : Int32) (x7 : Int32) (x8 : Int32) (x9 : Int32) (x10 : Int32) (n11 : Nat) (g12 : Nat → Int32) (u : vZ) (kc : Nat) (ks : Nat), (kc ≤ mc ∧ ks ≤ ms) → hf_L_alike_123 mc ms rec_31 rec_87 x1 x2 x3 x4 x5 x6 x7 x8 x9 x10 n11 g12 u kc ks = some (r0, u0) → vV p l e { frames := 7, cells := mc, slots := ms, locals := 154 } s m args below meth c A D 12 kc ks Q ([(b0, .inl (cI, n11, .inl (g12)))] ++ wX q0 qs qo qt qv qr qx ql ad qh cI cF cC cS cO u) 123 [(0, .ref (q0 0)), (1, .int x1), (2, .ref b0), (3, .int x2), (4, .int x3), (5, .int x4), (6, .int x5), (8, .int x6), (9, .int x7), (10, .int x8), (11, .int x9)] [.int x10] := by
  intro b0 x1 x2 x3 x4 x5 x6 x7 x8 x9 x10 n11 g12 u kc ks hkc h
  rw [hf_L_alike_123] at h
  refine vi_istore (lv' := [(7, .int x10), (0, .ref (q0 0)), (1, .int x1), (2, .ref b0), (3, .int x2), (4, .int x3), (5, .int x4), (6, .int x5), (8, .int x6), (9, .int x7), (10, .int x8), (11, .int x9)]) C dL_alike_123 (by decide) rfl ?_
  refine vi_iload C 8 dL_alike_125 rfl ?_
  refine vi_iload C 11 dL_alike_127 rfl ?_
  obtain ⟨y1, hgy1, h⟩ := ob_bd h
  refine vi_callS1i (As := [.int x6, .int x9]) (rest := []) C (mJ9_min_7cf53 C.2.2.2.2.2.2.2.2.1 hgy1) 2 rfl tcJ9_min_7cf53 tlL_193 ttJ9_min_7cf53 tnJ9 tdJ9_min_7cf53 ⟨Nat.le_of_ble_eq_true rfl, Nat.le_of_ble_eq_true rfl⟩ hkc rfl (Nat.le_of_ble_eq_true rfl) dL_alike_129 ?_
  refine vi_istore (lv' := [(8, .int y1), (7, .int x10), (0, .ref (q0 0)), (1, .int x1), (2, .ref b0), (3, .int x2), (4, .int x3), (5, .int x4), (6, .int x5), (9, .int x7), (10, .int x8), (11, .int x9)]) C dL_alike_132 (by decide) rfl ?_
  refine vi_iload C 9 dL_alike_134 rfl ?_
  refine vi_iconst (v := 1) C dL_alike_136 (by decide) ?_
  refine vi_ishl C dL_alike_137 ?_
  refine vi_iload C 9 dL_alike_138 rfl ?_
  refine vi_bipush (v := 15) C dL_alike_140 (by decide) ?_
  refine vi_ishr C dL_alike_142 ?_
  refine vi_ior C dL_alike_143 ?_
  refine vi_ldc (v := 65535) C dL_alike_144 tkL_36 ?_
  refine vi_iand C dL_alike_146 ?_
  obtain ⟨y2, ey2, h⟩ := ob_nm h
  refine vi_nmi ey2 ?_
  refine vi_istore (lv' := [(9, .int y2), (8, .int y1), (7, .int x10), (0, .ref (q0 0)), (1, .int x1), (2, .ref b0), (3, .int x2), (4, .int x3), (5, .int x4), (6, .int x5), (10, .int x8), (11, .int x9)]) C dL_alike_147 (by decide) rfl ?_
  obtain ⟨y3, ey3, h⟩ := ob_nm h
  refine vi_iinc (v := y3) (lv' := [(10, .int y3), (9, .int y2), (8, .int y1), (7, .int x10), (0, .ref (q0 0)), (1, .int x1), (2, .ref b0), (3, .int x2), (4, .int x3), (5, .int x4), (6, .int x5), (11, .int x9)]) C 10 dL_alike_149 rfl (by rw [ey3]; rfl) (by decide) rfl ?_
  refine vi_goto (tgt := 87) C dL_alike_152 (by decide) ?_
  refine vi_sub C [4, 5, 6, 7, 8, 9, 10, 3, 2, 1, 0] rfl ?_
  exact REC_87 _ _ _ _ _ _ _ _ _ _ _ _ _ _ _ hkc h
def hf_L_alike_87 (mc : Nat) (ms : Nat) : Nat → (Int32 → Int32 → Nat → (Nat → Int32) → vZ → Nat → Nat → Option (Int32 × vZ)) → Int32 → Int32 → Int32 → Int32 → Int32 → Int32 → Int32 → Int32 → Int32 → Nat → (Nat → Int32) → vZ → Nat → Nat → Option (Int32 × vZ)
  | 0, _, _, _, _, _, _, _, _, _, _, _, _, _, _, _ => none
  | n + 1, rec_31, x1, x2, x3, x4, x5, x6, x7, x8, x9, n10, g11, u, kc, ks => (if (16 : Int32) ≤ x9 then obp (fX7_unlike x3 x4 u) fun y3 u2 => (if y3 = x5 then obp (fX7_unlikeAgain x3 x4 u2) fun y6 u5 => (if y6 = x5 then obp (fX7_closest x3 x4 u5) fun y9 u8 => (if y9 = x6 then (if (4 : Int32) < x5 then hf_L_alike_220 mc ms vF rec_31 x1 x2 (0 : Int32) (0 : Int32) n10 g11 u8 kc ks else if x3 < 0 ∨ n10 ≤ Int32.toNatClampNeg x3 then none else if x4 < 0 ∨ n10 ≤ Int32.toNatClampNeg x4 then none else bd (((g11 (Int32.toNatClampNeg x3)) ||| (g11 (Int32.toNatClampNeg x4)) : Int32)) fun y14 => hf_L_alike_220 mc ms vF rec_31 x1 x2 y14 (0 : Int32) n10 g11 u8 kc ks) else some ((0 : Int32), u8)) else some ((0 : Int32), u5)) else some ((0 : Int32), u2)) else obp (fX7_sailorOf x4 (0 : Int32) u) fun y16 u15 => (fJ6_bitCount_0f7a4 (x8 ^^^ y16)).bind fun y17 => (if x7 ≤ y17 then hf_L_alike_123 mc ms rec_31 (fun c0 c1 c2 c3 c4 c5 c6 c7 c8 c9 c10 c11 c12 c13 => hf_L_alike_87 mc ms n rec_31 c0 c1 c2 c3 c4 c5 c6 c7 c8 c9 c10 c11 c12 c13) x1 x2 x3 x4 x5 x7 x8 x9 y17 x6 n10 g11 u15 kc ks else hf_L_alike_123 mc ms rec_31 (fun c0 c1 c2 c3 c4 c5 c6 c7 c8 c9 c10 c11 c12 c13 => hf_L_alike_87 mc ms n rec_31 c0 c1 c2 c3 c4 c5 c6 c7 c8 c9 c10 c11 c12 c13) x1 x2 x3 x4 x5 x7 x8 x9 y17 x9 n10 g11 u15 kc ks))
set_option maxRecDepth 100000 in
set_option maxHeartbeats 4000000 in
theorem hk_L_alike_87 {ad adK adV : Nat → Nat} {tS tF : Nat} {tX sK sV : Nat → Nat} {p : Program} {l : Launch} {e : Env} {s : State} {m : MethodId} {args : Array Value} {below : List Frame} {meth : Method} {c : Code} {A : Nat → Prop} {D : va_G} {cI cF cC cS cO cB cZ : ClassId} {Q : State → Prop} {q0 qs qo qt qv qr qx ql : Nat → Nat} {qh : Nat → Nat → Nat} {mc : Nat} {ms : Nat} (C : vC (vE ad adK adV tS tF tX sK sV) p l s m args meth c A D (vT7 cI cF cC cS cO cB cZ) cL_alike 12 RL) {r0 : Int32} {u0 : vZ} (RET : ∀ (q : Nat → Nat) (kc ks : Nat) (pc : Nat) (lv : List (Nat × Value)), (kc ≤ mc ∧ ks ≤ ms) → decode cL_alike pc = .ok (.ireturn, 1) → (r0 = 0 ∨ r0 = 1) → vV p l e { frames := 7, cells := mc, slots := ms, locals := 154 } s m args below meth c A D 12 kc ks Q ([] ++ wX q0 qs qo qt qv qr qx ql ad qh cI cF cC cS cO u0) pc lv [.int r0]) {rec_31 : Int32 → Int32 → Nat → (Nat → Int32) → vZ → Nat → Nat → Option (Int32 × vZ)} (REC_31 : ∀ (b0 : Nat) (x1 : Int32) (x2 : Int32) (n3 : Nat) (g4 : Nat → Int32) (u : vZ) (kc : Nat) (ks : Nat), (kc ≤ mc ∧ ks ≤ ms) → rec_31 x1 x2 n3 g4 u kc ks = some (r0, u0) → vV p l e { frames := 7, cells := mc, slots := ms, locals := 154 } s m args below meth c A D 12 kc ks Q ([(b0, .inl (cI, n3, .inl (g4)))] ++ wX q0 qs qo qt qv qr qx ql ad qh cI cF cC cS cO u) 31 [(0, .ref (q0 0)), (1, .int x1), (2, .ref b0), (3, .int x2)] []) : ∀ (n : Nat) (b0 : Nat) (x1 : Int32) (x2 : Int32) (x3 : Int32) (x4 : Int32) (x5 : Int32) (x6 : Int32) (x7 : Int32) (x8 : Int32) (x9 : Int32) (n10 : Nat) (g11 : Nat → Int32) (u : vZ) (kc : Nat) (ks : Nat), (kc ≤ mc ∧ ks ≤ ms) → hf_L_alike_87 mc ms n rec_31 x1 x2 x3 x4 x5 x6 x7 x8 x9 n10 g11 u kc ks = some (r0, u0) → vV p l e { frames := 7, cells := mc, slots := ms, locals := 154 } s m args below meth c A D 12 kc ks Q ([(b0, .inl (cI, n10, .inl (g11)))] ++ wX q0 qs qo qt qv qr qx ql ad qh cI cF cC cS cO u) 87 [(0, .ref (q0 0)), (1, .int x1), (2, .ref b0), (3, .int x2), (4, .int x3), (5, .int x4), (6, .int x5), (7, .int x6), (8, .int x7), (9, .int x8), (10, .int x9)] [] := by
  intro n
  induction n with
  | zero => intro b0 x1 x2 x3 x4 x5 x6 x7 x8 x9 n10 g11 u kc ks hkc h; rw [hf_L_alike_87] at h; cases h
  | succ n ih =>
    intro b0 x1 x2 x3 x4 x5 x6 x7 x8 x9 n10 g11 u kc ks hkc h
    rw [hf_L_alike_87] at h
    refine vi_iload C 10 dL_alike_87 rfl ?_
    refine vi_bipush (v := 16) C dL_alike_89 (by decide) ?_
    refine vi_icmp_ge (tgt := 155) C dL_alike_91 (by decide) (fun hc1 => ?_) (fun hc1 => ?_)
    · have h := ob_t h hc1
      refine vi_aload_n C 0 dL_alike_155 rfl ?_
      refine vi_iload C 4 dL_alike_156 rfl ?_
      refine vi_iload C 5 dL_alike_158 rfl ?_
      obtain ⟨y3, u2, hgu2, h⟩ := ob_p h
      refine cY_i (As := [.int x3, .int x4]) (rest := []) (ud := u2) C 1 (mX7_unlike C.2.2.2.2.2.2.2.2.1 hgu2) 2 rfl tcX7_unlike tlL_196 tiX7_unlike tsX7_unlike rfl tnX7 tdX7_unlike ⟨Nat.le_of_ble_eq_true rfl, Nat.le_of_ble_eq_true rfl⟩ hkc rfl rfl (Nat.le_of_ble_eq_true rfl) dL_alike_160 ?_
      refine vi_iload C 6 dL_alike_163 rfl ?_
      refine vi_icmp_ne (tgt := 194) C dL_alike_165 (by decide) (fun hc4 => ?_) (fun hc4 => ?_)
      · have h := ob_f h hc4
        refine vi_iconst (v := 0) C dL_alike_194 (by decide) ?_
        refine vi_pickX (ex2 := []) [] (by decide) rfl ?_
        cases h
        exact RET (fun j => [].getD j 0) _ _ _ _ hkc dL_alike_195 (by decide)
      · have h := ob_t h hc4
        refine vi_aload_n C 0 dL_alike_168 rfl ?_
        refine vi_iload C 4 dL_alike_169 rfl ?_
        refine vi_iload C 5 dL_alike_171 rfl ?_
        obtain ⟨y6, u5, hgu5, h⟩ := ob_p h
        refine cY_i (As := [.int x3, .int x4]) (rest := []) (ud := u5) C 1 (mX7_unlikeAgain C.2.2.2.2.2.2.2.2.1 hgu5) 2 rfl tcX7_unlikeAgain tlL_199 tiX7_unlikeAgain tsX7_unlikeAgain rfl tnX7 tdX7_unlikeAgain ⟨Nat.le_of_ble_eq_true rfl, Nat.le_of_ble_eq_true rfl⟩ hkc rfl rfl (Nat.le_of_ble_eq_true rfl) dL_alike_173 ?_
        refine vi_iload C 6 dL_alike_176 rfl ?_
        refine vi_icmp_ne (tgt := 194) C dL_alike_178 (by decide) (fun hc7 => ?_) (fun hc7 => ?_)
        · have h := ob_f h hc7
          refine vi_iconst (v := 0) C dL_alike_194 (by decide) ?_
          refine vi_pickX (ex2 := []) [] (by decide) rfl ?_
          cases h
          exact RET (fun j => [].getD j 0) _ _ _ _ hkc dL_alike_195 (by decide)
        · have h := ob_t h hc7
          refine vi_aload_n C 0 dL_alike_181 rfl ?_
          refine vi_iload C 4 dL_alike_182 rfl ?_
          refine vi_iload C 5 dL_alike_184 rfl ?_
          obtain ⟨y9, u8, hgu8, h⟩ := ob_p h
          refine cY_i (As := [.int x3, .int x4]) (rest := []) (ud := u8) C 1 (mX7_closest C.2.2.2.2.2.2.2.2.1 hgu8) 2 rfl tcX7_closest tlL_202 tiX7_closest tsX7_closest rfl tnX7 tdX7_closest ⟨Nat.le_of_ble_eq_true rfl, Nat.le_of_ble_eq_true rfl⟩ hkc rfl rfl (Nat.le_of_ble_eq_true rfl) dL_alike_186 ?_
          refine vi_iload C 7 dL_alike_189 rfl ?_
          refine vi_icmp_eq (tgt := 196) C dL_alike_191 (by decide) (fun hc10 => ?_) (fun hc10 => ?_)
          · have h := ob_t h hc10
            refine vi_iload C 6 dL_alike_196 rfl ?_
            refine vi_iconst (v := 4) C dL_alike_198 (by decide) ?_
            refine vi_icmp_gt (tgt := 214) C dL_alike_199 (by decide) (fun hc11 => ?_) (fun hc11 => ?_)
            · have h := ob_t h hc11
              refine vi_iconst (v := 0) C dL_alike_214 (by decide) ?_
              refine vi_istore (lv' := [(10, .int (0 : Int32)), (0, .ref (q0 0)), (1, .int x1), (2, .ref b0), (3, .int x2), (4, .int x3), (5, .int x4), (6, .int x5), (7, .int x6), (8, .int x7), (9, .int x8)]) C dL_alike_215 (by decide) rfl ?_
              refine vi_iconst (v := 0) C dL_alike_217 (by decide) ?_
              refine vi_istore (lv' := [(11, .int (0 : Int32)), (10, .int (0 : Int32)), (0, .ref (q0 0)), (1, .int x1), (2, .ref b0), (3, .int x2), (4, .int x3), (5, .int x4), (6, .int x5), (7, .int x6), (8, .int x7), (9, .int x8)]) C dL_alike_218 (by decide) rfl ?_
              refine vi_sub C [2, 3, 4, 5, 1, 0] rfl ?_
              exact hk_L_alike_220 C RET REC_31 vF _ _ _ _ _ _ _ _ _ _ hkc h
            · have h := ob_f h hc11
              refine vi_aload_n C 2 dL_alike_202 rfl ?_
              refine vi_iload C 4 dL_alike_203 rfl ?_
              obtain ⟨hz12, h⟩ := ob_if h
              refine vi_iald C 0 0 rfl rfl hz12 dL_alike_205 ?_
              refine vi_aload_n C 2 dL_alike_206 rfl ?_
              refine vi_iload C 5 dL_alike_207 rfl ?_
              obtain ⟨hz13, h⟩ := ob_if h
              refine vi_iald C 0 0 rfl rfl hz13 dL_alike_209 ?_
              refine vi_ior C dL_alike_210 ?_
              refine vi_goto (tgt := 215) C dL_alike_211 (by decide) ?_
              obtain ⟨y14, ey14, h⟩ := ob_nm h
              refine vi_nmi ey14 ?_
              refine vi_istore (lv' := [(10, .int y14), (0, .ref (q0 0)), (1, .int x1), (2, .ref b0), (3, .int x2), (4, .int x3), (5, .int x4), (6, .int x5), (7, .int x6), (8, .int x7), (9, .int x8)]) C dL_alike_215 (by decide) rfl ?_
              refine vi_iconst (v := 0) C dL_alike_217 (by decide) ?_
              refine vi_istore (lv' := [(11, .int (0 : Int32)), (10, .int y14), (0, .ref (q0 0)), (1, .int x1), (2, .ref b0), (3, .int x2), (4, .int x3), (5, .int x4), (6, .int x5), (7, .int x6), (8, .int x7), (9, .int x8)]) C dL_alike_218 (by decide) rfl ?_
              refine vi_sub C [2, 3, 4, 5, 1, 0] rfl ?_
              exact hk_L_alike_220 C RET REC_31 vF _ _ _ _ _ _ _ _ _ _ hkc h
          · have h := ob_f h hc10
            refine vi_iconst (v := 0) C dL_alike_194 (by decide) ?_
            refine vi_pickX (ex2 := []) [] (by decide) rfl ?_
            cases h
            exact RET (fun j => [].getD j 0) _ _ _ _ hkc dL_alike_195 (by decide)
    · have h := ob_f h hc1
      refine vi_iload C 9 dL_alike_94 rfl ?_
      refine vi_aload_n C 0 dL_alike_96 rfl ?_
      refine vi_iload C 5 dL_alike_97 rfl ?_
      refine vi_iconst (v := 0) C dL_alike_99 (by decide) ?_
      obtain ⟨y16, u15, hgu15, h⟩ := ob_p h
      refine cY_i (As := [.int x4, .int (0 : Int32)]) (rest := [.int x8]) (ud := u15) C 1 (mX7_sailorOf C.2.2.2.2.2.2.2.2.1 hgu15) 2 rfl tcX7_sailorOf tlL_110 tiX7_sailorOf tsX7_sailorOf rfl tnX7 tdX7_sailorOf ⟨Nat.le_of_ble_eq_true rfl, Nat.le_of_ble_eq_true rfl⟩ hkc rfl rfl (Nat.le_of_ble_eq_true rfl) dL_alike_100 ?_
      refine vi_ixor C dL_alike_103 ?_
      obtain ⟨y17, hgy17, h⟩ := ob_bd h
      refine vi_callS1i (As := [.int (x8 ^^^ y16)]) (rest := []) C (mJ6_bitCount_0f7a4 C.2.2.2.2.2.2.2.2.1 hgy17) 1 rfl tcJ6_bitCount_0f7a4 tlL_113 ttJ6_bitCount_0f7a4 tnJ6 tdJ6_bitCount_0f7a4 ⟨Nat.le_of_ble_eq_true rfl, Nat.le_of_ble_eq_true rfl⟩ hkc rfl (Nat.le_of_ble_eq_true rfl) dL_alike_104 ?_
      refine vi_istore (lv' := [(11, .int y17), (0, .ref (q0 0)), (1, .int x1), (2, .ref b0), (3, .int x2), (4, .int x3), (5, .int x4), (6, .int x5), (7, .int x6), (8, .int x7), (9, .int x8), (10, .int x9)]) C dL_alike_107 (by decide) rfl ?_
      refine vi_iload C 0 dL_alike_109 rfl ?_
      refine vi_iload C 9 dL_alike_111 rfl ?_
      refine vi_icmp_ge (tgt := 121) C dL_alike_113 (by decide) (fun hc18 => ?_) (fun hc18 => ?_)
      · have h := ob_t h hc18
        refine vi_iload C 8 dL_alike_121 rfl ?_
        refine vi_sub C [1, 2, 3, 4, 5, 6, 7, 9, 10, 11, 0] rfl ?_
        exact hk_L_alike_123 C RET REC_31 ih  _ _ _ _ _ _ _ _ _ _ _ _ _ _ _ _ hkc h
      · have h := ob_f h hc18
        refine vi_iload C 11 dL_alike_116 rfl ?_
        refine vi_goto (tgt := 123) C dL_alike_118 (by decide) ?_
        refine vi_sub C [1, 2, 3, 4, 5, 6, 7, 9, 10, 11, 0] rfl ?_
        exact hk_L_alike_123 C RET REC_31 ih  _ _ _ _ _ _ _ _ _ _ _ _ _ _ _ _ hkc h
def hf_L_alike_31 (mc : Nat) (ms : Nat) : Nat → Int32 → Int32 → Nat → (Nat → Int32) → vZ → Nat → Nat → Option (Int32 × vZ)
  | 0, _, _, _, _, _, _, _ => none
  | n + 1, x1, x2, n3, g4, u, kc, ks => (if x1 * x1 ≤ x2 then hf_L_alike_267 mc ms vF x1 (0 : Int32) (0 : Int32) n3 g4 u kc ks else if x1 = 0 then none else bd ((x2 / x1 : Int32)) fun y3 => if x1 = 0 then none else bd ((x2 - x2 / x1 * x1 : Int32)) fun y5 => obp (fX7_sailorOf y3 (0 : Int32) u) fun y7 u6 => obp (fX7_sailorOf y5 (0 : Int32) u6) fun y9 u8 => (fJ6_bitCount_0f7a4 (y7 ^^^ y9)).bind fun y10 => obp (fX7_sailorOf y3 (0 : Int32) u8) fun y12 u11 => hf_L_alike_87 mc ms vF (fun c0 c1 c2 c3 c4 c5 c6 => hf_L_alike_31 mc ms n  c0 c1 c2 c3 c4 c5 c6) x1 x2 y3 y5 y10 (0 : Int32) (17 : Int32) y12 (0 : Int32) n3 g4 u11 kc ks)
set_option maxRecDepth 100000 in
set_option maxHeartbeats 4000000 in
theorem hk_L_alike_31 {ad adK adV : Nat → Nat} {tS tF : Nat} {tX sK sV : Nat → Nat} {p : Program} {l : Launch} {e : Env} {s : State} {m : MethodId} {args : Array Value} {below : List Frame} {meth : Method} {c : Code} {A : Nat → Prop} {D : va_G} {cI cF cC cS cO cB cZ : ClassId} {Q : State → Prop} {q0 qs qo qt qv qr qx ql : Nat → Nat} {qh : Nat → Nat → Nat} {mc : Nat} {ms : Nat} (C : vC (vE ad adK adV tS tF tX sK sV) p l s m args meth c A D (vT7 cI cF cC cS cO cB cZ) cL_alike 12 RL) {r0 : Int32} {u0 : vZ} (RET : ∀ (q : Nat → Nat) (kc ks : Nat) (pc : Nat) (lv : List (Nat × Value)), (kc ≤ mc ∧ ks ≤ ms) → decode cL_alike pc = .ok (.ireturn, 1) → (r0 = 0 ∨ r0 = 1) → vV p l e { frames := 7, cells := mc, slots := ms, locals := 154 } s m args below meth c A D 12 kc ks Q ([] ++ wX q0 qs qo qt qv qr qx ql ad qh cI cF cC cS cO u0) pc lv [.int r0]) : ∀ (n : Nat) (b0 : Nat) (x1 : Int32) (x2 : Int32) (n3 : Nat) (g4 : Nat → Int32) (u : vZ) (kc : Nat) (ks : Nat), (kc ≤ mc ∧ ks ≤ ms) → hf_L_alike_31 mc ms n x1 x2 n3 g4 u kc ks = some (r0, u0) → vV p l e { frames := 7, cells := mc, slots := ms, locals := 154 } s m args below meth c A D 12 kc ks Q ([(b0, .inl (cI, n3, .inl (g4)))] ++ wX q0 qs qo qt qv qr qx ql ad qh cI cF cC cS cO u) 31 [(0, .ref (q0 0)), (1, .int x1), (2, .ref b0), (3, .int x2)] [] := by
  intro n
  induction n with
  | zero => intro b0 x1 x2 n3 g4 u kc ks hkc h; rw [hf_L_alike_31] at h; cases h
  | succ n ih =>
    intro b0 x1 x2 n3 g4 u kc ks hkc h
    rw [hf_L_alike_31] at h
    refine vi_iload_n C 3 dL_alike_31 rfl ?_
    refine vi_iload_n C 1 dL_alike_32 rfl ?_
    refine vi_iload_n C 1 dL_alike_33 rfl ?_
    refine vi_imul C dL_alike_34 ?_
    refine vi_icmp_ge (tgt := 262) C dL_alike_35 (by decide) (fun hc1 => ?_) (fun hc1 => ?_)
    · have h := ob_t h hc1
      refine vi_iconst (v := 0) C dL_alike_262 (by decide) ?_
      refine vi_istore_n (lv' := [(3, .int (0 : Int32)), (0, .ref (q0 0)), (1, .int x1), (2, .ref b0)]) C dL_alike_263 rfl (by decide) rfl ?_
      refine vi_iconst (v := 0) C dL_alike_264 (by decide) ?_
      refine vi_istore (lv' := [(4, .int (0 : Int32)), (3, .int (0 : Int32)), (0, .ref (q0 0)), (1, .int x1), (2, .ref b0)]) C dL_alike_265 (by decide) rfl ?_
      refine vi_sub C [2, 3, 4, 1, 0] rfl ?_
      exact hk_L_alike_267 C RET  vF _ _ _ _ _ _ _ _ _ hkc h
    · have h := ob_f h hc1
      refine vi_iload_n C 3 dL_alike_38 rfl ?_
      refine vi_iload_n C 1 dL_alike_39 rfl ?_
      obtain ⟨hz2, h⟩ := ob_if h
      refine vi_idiv C dL_alike_40 hz2 ?_
      obtain ⟨y3, ey3, h⟩ := ob_nm h
      refine vi_nmi ey3 ?_
      refine vi_istore (lv' := [(4, .int y3), (0, .ref (q0 0)), (1, .int x1), (2, .ref b0), (3, .int x2)]) C dL_alike_41 (by decide) rfl ?_
      refine vi_iload_n C 4 dL_alike_43 rfl ?_
      refine vi_iload_n C 2 dL_alike_44 rfl ?_
      obtain ⟨hz4, h⟩ := ob_if h
      refine vi_irem C dL_alike_45 hz4 ?_
      obtain ⟨y5, ey5, h⟩ := ob_nm h
      refine vi_nmi ey5 ?_
      refine vi_istore (lv' := [(5, .int y5), (4, .int y3), (0, .ref (q0 0)), (1, .int x1), (2, .ref b0), (3, .int x2)]) C dL_alike_46 (by decide) rfl ?_
      refine vi_aload_n C 2 dL_alike_48 rfl ?_
      refine vi_iload C 1 dL_alike_49 rfl ?_
      refine vi_iconst (v := 0) C dL_alike_51 (by decide) ?_
      obtain ⟨y7, u6, hgu6, h⟩ := ob_p h
      refine cY_i (As := [.int y3, .int (0 : Int32)]) (rest := []) (ud := u6) C 1 (mX7_sailorOf C.2.2.2.2.2.2.2.2.1 hgu6) 2 rfl tcX7_sailorOf tlL_110 tiX7_sailorOf tsX7_sailorOf rfl tnX7 tdX7_sailorOf ⟨Nat.le_of_ble_eq_true rfl, Nat.le_of_ble_eq_true rfl⟩ hkc rfl rfl (Nat.le_of_ble_eq_true rfl) dL_alike_52 ?_
      refine vi_aload_n C 2 dL_alike_55 rfl ?_
      refine vi_iload C 0 dL_alike_56 rfl ?_
      refine vi_iconst (v := 0) C dL_alike_58 (by decide) ?_
      obtain ⟨y9, u8, hgu8, h⟩ := ob_p h
      refine cY_i (As := [.int y5, .int (0 : Int32)]) (rest := [.int y7]) (ud := u8) C 1 (mX7_sailorOf C.2.2.2.2.2.2.2.2.1 hgu8) 2 rfl tcX7_sailorOf tlL_110 tiX7_sailorOf tsX7_sailorOf rfl tnX7 tdX7_sailorOf ⟨Nat.le_of_ble_eq_true rfl, Nat.le_of_ble_eq_true rfl⟩ hkc rfl rfl (Nat.le_of_ble_eq_true rfl) dL_alike_59 ?_
      refine vi_ixor C dL_alike_62 ?_
      obtain ⟨y10, hgy10, h⟩ := ob_bd h
      refine vi_callS1i (As := [.int (y7 ^^^ y9)]) (rest := []) C (mJ6_bitCount_0f7a4 C.2.2.2.2.2.2.2.2.1 hgy10) 1 rfl tcJ6_bitCount_0f7a4 tlL_113 ttJ6_bitCount_0f7a4 tnJ6 tdJ6_bitCount_0f7a4 ⟨Nat.le_of_ble_eq_true rfl, Nat.le_of_ble_eq_true rfl⟩ hkc rfl (Nat.le_of_ble_eq_true rfl) dL_alike_63 ?_
      refine vi_istore (lv' := [(6, .int y10), (5, .int y5), (4, .int y3), (0, .ref (q0 0)), (1, .int x1), (2, .ref b0), (3, .int x2)]) C dL_alike_66 (by decide) rfl ?_
      refine vi_iconst (v := 0) C dL_alike_68 (by decide) ?_
      refine vi_istore (lv' := [(7, .int (0 : Int32)), (6, .int y10), (5, .int y5), (4, .int y3), (0, .ref (q0 0)), (1, .int x1), (2, .ref b0), (3, .int x2)]) C dL_alike_69 (by decide) rfl ?_
      refine vi_bipush (v := 17) C dL_alike_71 (by decide) ?_
      refine vi_istore (lv' := [(8, .int (17 : Int32)), (7, .int (0 : Int32)), (6, .int y10), (5, .int y5), (4, .int y3), (0, .ref (q0 0)), (1, .int x1), (2, .ref b0), (3, .int x2)]) C dL_alike_73 (by decide) rfl ?_
      refine vi_aload_n C 5 dL_alike_75 rfl ?_
      refine vi_iload C 4 dL_alike_76 rfl ?_
      refine vi_iconst (v := 0) C dL_alike_78 (by decide) ?_
      obtain ⟨y12, u11, hgu11, h⟩ := ob_p h
      refine cY_i (As := [.int y3, .int (0 : Int32)]) (rest := []) (ud := u11) C 1 (mX7_sailorOf C.2.2.2.2.2.2.2.2.1 hgu11) 2 rfl tcX7_sailorOf tlL_110 tiX7_sailorOf tsX7_sailorOf rfl tnX7 tdX7_sailorOf ⟨Nat.le_of_ble_eq_true rfl, Nat.le_of_ble_eq_true rfl⟩ hkc rfl rfl (Nat.le_of_ble_eq_true rfl) dL_alike_79 ?_
      refine vi_istore (lv' := [(9, .int y12), (8, .int (17 : Int32)), (7, .int (0 : Int32)), (6, .int y10), (5, .int y5), (4, .int y3), (0, .ref (q0 0)), (1, .int x1), (2, .ref b0), (3, .int x2)]) C dL_alike_82 (by decide) rfl ?_
      refine vi_iconst (v := 0) C dL_alike_84 (by decide) ?_
      refine vi_istore (lv' := [(10, .int (0 : Int32)), (9, .int y12), (8, .int (17 : Int32)), (7, .int (0 : Int32)), (6, .int y10), (5, .int y5), (4, .int y3), (0, .ref (q0 0)), (1, .int x1), (2, .ref b0), (3, .int x2)]) C dL_alike_85 (by decide) rfl ?_
      refine vi_sub C [7, 8, 9, 10, 6, 5, 4, 3, 2, 1, 0] rfl ?_
      exact hk_L_alike_87 C RET ih vF _ _ _ _ _ _ _ _ _ _ _ _ _ _ _ hkc h
def hf_L_alike_12 (mc : Nat) (ms : Nat) : Nat → Int32 → Int32 → Nat → (Nat → Int32) → vZ → Nat → Nat → Option (Int32 × vZ)
  | 0, _, _, _, _, _, _, _ => none
  | n + 1, x1, x2, n3, g4, u, kc, ks => (if x1 ≤ x2 then hf_L_alike_31 mc ms vF x1 (0 : Int32) n3 g4 u kc ks else if x2 < 0 ∨ n3 ≤ Int32.toNatClampNeg x2 then none else bd ((upd g4 (Int32.toNatClampNeg x2) ((1 : Int32) <<< (x2 &&& 31)) : Nat → Int32)) fun g3 => bd ((x2 + 1 : Int32)) fun y4 => hf_L_alike_12 mc ms n x1 y4 n3 g3 u kc ks)
set_option maxRecDepth 100000 in
set_option maxHeartbeats 4000000 in
theorem hk_L_alike_12 {ad adK adV : Nat → Nat} {tS tF : Nat} {tX sK sV : Nat → Nat} {p : Program} {l : Launch} {e : Env} {s : State} {m : MethodId} {args : Array Value} {below : List Frame} {meth : Method} {c : Code} {A : Nat → Prop} {D : va_G} {cI cF cC cS cO cB cZ : ClassId} {Q : State → Prop} {q0 qs qo qt qv qr qx ql : Nat → Nat} {qh : Nat → Nat → Nat} {mc : Nat} {ms : Nat} (C : vC (vE ad adK adV tS tF tX sK sV) p l s m args meth c A D (vT7 cI cF cC cS cO cB cZ) cL_alike 12 RL) {r0 : Int32} {u0 : vZ} (RET : ∀ (q : Nat → Nat) (kc ks : Nat) (pc : Nat) (lv : List (Nat × Value)), (kc ≤ mc ∧ ks ≤ ms) → decode cL_alike pc = .ok (.ireturn, 1) → (r0 = 0 ∨ r0 = 1) → vV p l e { frames := 7, cells := mc, slots := ms, locals := 154 } s m args below meth c A D 12 kc ks Q ([] ++ wX q0 qs qo qt qv qr qx ql ad qh cI cF cC cS cO u0) pc lv [.int r0]) : ∀ (n : Nat) (b0 : Nat) (x1 : Int32) (x2 : Int32) (n3 : Nat) (g4 : Nat → Int32) (u : vZ) (kc : Nat) (ks : Nat), (kc ≤ mc ∧ ks ≤ ms) → hf_L_alike_12 mc ms n x1 x2 n3 g4 u kc ks = some (r0, u0) → vV p l e { frames := 7, cells := mc, slots := ms, locals := 154 } s m args below meth c A D 12 kc ks Q ([(b0, .inl (cI, n3, .inl (g4)))] ++ wX q0 qs qo qt qv qr qx ql ad qh cI cF cC cS cO u) 12 [(0, .ref (q0 0)), (1, .int x1), (2, .ref b0), (3, .int x2)] [] := by
  intro n
  induction n with
  | zero => intro b0 x1 x2 n3 g4 u kc ks hkc h; rw [hf_L_alike_12] at h; cases h
  | succ n ih =>
    intro b0 x1 x2 n3 g4 u kc ks hkc h
    rw [hf_L_alike_12] at h
    refine vi_iload_n C 3 dL_alike_12 rfl ?_
    refine vi_iload_n C 1 dL_alike_13 rfl ?_
    refine vi_icmp_ge (tgt := 29) C dL_alike_14 (by decide) (fun hc1 => ?_) (fun hc1 => ?_)
    · have h := ob_t h hc1
      refine vi_iconst (v := 0) C dL_alike_29 (by decide) ?_
      refine vi_istore_n (lv' := [(3, .int (0 : Int32)), (0, .ref (q0 0)), (1, .int x1), (2, .ref b0)]) C dL_alike_30 rfl (by decide) rfl ?_
      refine vi_sub C [1, 2, 3, 0] rfl ?_
      exact hk_L_alike_31 C RET  vF _ _ _ _ _ _ _ _ hkc h
    · have h := ob_f h hc1
      refine vi_aload_n C 2 dL_alike_17 rfl ?_
      refine vi_iload_n C 3 dL_alike_18 rfl ?_
      refine vi_iconst (v := 1) C dL_alike_19 (by decide) ?_
      refine vi_iload_n C 3 dL_alike_20 rfl ?_
      refine vi_ishl C dL_alike_21 ?_
      obtain ⟨hz2, h⟩ := ob_if h
      obtain ⟨g3, eg3, h⟩ := ob_nm h
      refine vi_iast (w' := ([(b0, .inl (cI, n3, .inl (g3)))] ++ wX q0 qs qo qt qv qr qx ql ad qh cI cF cC cS cO u)) C 0 0 rfl rfl hz2 (by rw [eg3]; rfl) dL_alike_22 ?_
      obtain ⟨y4, ey4, h⟩ := ob_nm h
      refine vi_iinc (v := y4) (lv' := [(3, .int y4), (0, .ref (q0 0)), (1, .int x1), (2, .ref b0)]) C 3 dL_alike_23 rfl (by rw [ey4]; rfl) (by decide) rfl ?_
      refine vi_goto (tgt := 12) C dL_alike_26 (by decide) ?_
      refine vi_sub C [1, 2, 3, 0] rfl ?_
      exact ih _ _ _ _ _ _ _ _ hkc h
def hf_L_alike (mc : Nat) (ms : Nat) (u : vZ) : Option (Int32 × vZ) := obp (fX7_account (0 : Int32) u) fun y2 u1 => if y2 < 0 ∨ 100000 < (Int32.toNatClampNeg y2) then none else if 0 + 1 ≤ mc ∧ 0 + (Int32.toNatClampNeg y2) ≤ ms then bd ((Int32.toNatClampNeg y2)) fun n5 => bd (0 + 1) fun kc7 => bd (0 + n5) fun ks8 => hf_L_alike_12 mc ms vF y2 (0 : Int32) n5 (fun _ => 0) u1 kc7 ks8 else none
set_option maxRecDepth 100000 in
set_option maxHeartbeats 4000000 in
theorem hk_L_alike_e {ad adK adV : Nat → Nat} {tS tF : Nat} {tX sK sV : Nat → Nat} {p : Program} {l : Launch} {e : Env} {s : State} {m : MethodId} {args : Array Value} {below : List Frame} {meth : Method} {c : Code} {A : Nat → Prop} {D : va_G} {cI cF cC cS cO cB cZ : ClassId} {Q : State → Prop} {q0 qs qo qt qv qr qx ql : Nat → Nat} {qh : Nat → Nat → Nat} {mc : Nat} {ms : Nat} (C : vC (vE ad adK adV tS tF tX sK sV) p l s m args meth c A D (vT7 cI cF cC cS cO cB cZ) cL_alike 12 RL) {r0 : Int32} {u0 : vZ} (RET : ∀ (q : Nat → Nat) (kc ks : Nat) (pc : Nat) (lv : List (Nat × Value)), (kc ≤ mc ∧ ks ≤ ms) → decode cL_alike pc = .ok (.ireturn, 1) → (r0 = 0 ∨ r0 = 1) → vV p l e { frames := 7, cells := mc, slots := ms, locals := 154 } s m args below meth c A D 12 kc ks Q ([] ++ wX q0 qs qo qt qv qr qx ql ad qh cI cF cC cS cO u0) pc lv [.int r0]) {u : vZ} (h : hf_L_alike mc ms u = some (r0, u0)) : vV p l e { frames := 7, cells := mc, slots := ms, locals := 154 } s m args below meth c A D 12 (0) (0) Q ([] ++ wX q0 qs qo qt qv qr qx ql ad qh cI cF cC cS cO u) 0 [(0, .ref (q0 0))] [] := by
  rw [hf_L_alike] at h
  refine vi_aload_n C 0 dL_alike_0 rfl ?_
  refine vi_iconst (v := 0) C dL_alike_1 (by decide) ?_
  obtain ⟨y2, u1, hgu1, h⟩ := ob_p h
  refine cY_i (As := [.int (0 : Int32)]) (rest := []) (ud := u1) C 0 (mX7_account C.2.2.2.2.2.2.2.2.1 hgu1) 1 rfl tcX7_account tlL_37 tiX7_account tsX7_account rfl tnX7 tdX7_account ⟨Nat.le_of_ble_eq_true rfl, Nat.le_of_ble_eq_true rfl⟩ ⟨Nat.zero_le _, Nat.zero_le _⟩ rfl rfl (Nat.le_of_ble_eq_true rfl) dL_alike_2 ?_
  refine vi_istore_n (lv' := [(1, .int y2), (0, .ref (q0 0))]) C dL_alike_5 rfl (by decide) rfl ?_
  refine vi_iload_n C 0 dL_alike_6 rfl ?_
  obtain ⟨hz3, h⟩ := ob_if h
  obtain ⟨hz4, h⟩ := ob_ok h
  obtain ⟨n5, en5, h⟩ := ob_nm h
  rw [← en5] at hz4
  refine vi_newa (atype := .int) (ty := .int) (cA := cI) (N := n5) (a0 := (n5, .inl (fun _ => 0))) C 0 tac_int rfl rfl (fun _ => rfl) (fun z => hz3 (Or.inl z)) en5.symm (by rw [en5]; exact (gle8 hz3)) hz4.1 hz4.2 dL_alike_7 (fun a6 => ?_)
  refine vi_swp ?_
  refine vi_w C (w' := ([(a6, .inl (cI, n5, .inl (fun _ => 0)))] ++ wX q0 qs qo qt qv qr qx ql ad qh cI cF cC cS cO u1)) rfl ?_
  obtain ⟨kc7, ekc7, h⟩ := ob_nm h
  obtain ⟨ks8, eks8, h⟩ := ob_nm h
  refine vi_kk ekc7.symm eks8.symm ?_
  rw [← ekc7, ← eks8] at hz4
  refine vi_astore_n (lv' := [(2, .ref a6), (1, .int y2), (0, .ref (q0 0))]) C dL_alike_9 rfl (by decide) rfl ?_
  refine vi_iconst (v := 0) C dL_alike_10 (by decide) ?_
  refine vi_istore_n (lv' := [(3, .int (0 : Int32)), (2, .ref a6), (1, .int y2), (0, .ref (q0 0))]) C dL_alike_11 rfl (by decide) rfl ?_
  refine vi_sub C [3, 2, 1, 0] rfl ?_
  exact hk_L_alike_12 C RET  vF _ _ _ _ _ _ _ _ hz4 h
theorem hm_L_alike {ad adK adV : Nat → Nat} {tS tF : Nat} {tX sK sV : Nat → Nat} (hE : vEok (vE ad adK adV tS tF tX sK sV)) {l : Launch} {D : va_G} {cI cF cC cS cO cB cZ : ClassId} {q0 qs qo qt qv qr qx ql : Nat → Nat} {qh : Nat → Nat → Nat} {mc : Nat} {ms : Nat} {r0 : Int32} {u0 : vZ} {u : vZ} (h : hf_L_alike mc ms u = some (r0, u0)) : vG (vE ad adK adV tS tF tX sK sV) l yL_alike cL_alike 12 (some .boolean) 7 154 mc ms D (vT7 cI cF cC cS cO cB cZ) [.ref (q0 0)] ([] ++ wX q0 qs qo qt qv qr qx ql ad qh cI cF cC cS cO u) (gQi D (fun q => ([] ++ wX q0 qs qo qt qv qr qx ql ad qh cI cF cC cS cO u0)) r0) :=
  vG_of hE (by decide +kernel) (Nat.le_of_ble_eq_true rfl) (fun p e s m args below meth c A C hr hin => hk_L_alike_e C (fun q kc ks pc lv hk hd hz => g_reti (WQ := (fun q => ([] ++ wX q0 qs qo qt qv qr qx ql ad qh cI cF cC cS cO u0))) C hr (by rcases hz with rfl | rfl <;> rfl) q rfl hk hd) h)
