def hf_L_law_409 (mc : Nat) (ms : Nat) (L : Nat) (xs : Nat → Int32) (rec_262 : Int32 → Int32 → Int32 → vZ → Nat → Nat → Option (Int32 × vZ)) (x1 : Int32) (x2 : Int32) (x3 : Int32) (x4 : Int32) (x5 : Int32) (u : vZ) (kc : Nat) (ks : Nat) : Option (Int32 × vZ) := obp (fX7_account (10 : Int32) u) fun y2 u1 => (if y2 = x4 then obp (fX7_account (9 : Int32) u1) fun y5 u4 => (if y5 = 0 then if kc + (2000) ≤ mc ∧ ks + (20000) ≤ ms then (hf_L_sailors (2000) (20000) u4).bind fun z8 => bd (kc + (2000)) fun kc10 => bd (ks + (20000)) fun ks11 => (if z8.1 = 0 then some ((0 : Int32), z8.2) else if kc10 + (1000) ≤ mc ∧ ks11 + (10000) ≤ ms then (hf_L_sights (1000) (10000) z8.2).bind fun z14 => bd (kc10 + (1000)) fun kc16 => bd (ks11 + (10000)) fun ks17 => (if z14.1 = 0 then some ((0 : Int32), z14.2) else if kc16 + (1) ≤ mc ∧ ks17 + (8) ≤ ms then (hf_L_alike (1) (8) z14.2).bind fun z20 => bd (kc16 + (1)) fun kc22 => bd (ks17 + (8)) fun ks23 => (if z20.1 = 0 then some ((0 : Int32), z20.2) else (if x3 - x3 / (3 : Int32) * (3 : Int32) = (2 : Int32) then if kc22 + (2000) ≤ mc ∧ ks23 + (12000) ≤ ms then (hf_L_told (2000) (12000) z20.2).bind fun z28 => bd (kc22 + (2000)) fun kc30 => bd (ks23 + (12000)) fun ks31 => (hf_L_foretold x5 z28.2.2).bind fun z32 => (if z32.1 = 0 then some ((0 : Int32), z32.2.2) else if kc30 + (2000) ≤ mc ∧ ks31 + (12000) ≤ ms then (hf_L_told (2000) (12000) z32.2.2).bind fun z36 => bd (kc30 + (2000)) fun kc38 => bd (ks31 + (12000)) fun ks39 => (hf_J0_equals_9ea2d (z28.1) (z28.2.1) (z36.1) (z36.2.1)).bind fun z40 => (if z40 = 0 then some ((0 : Int32), z36.2.2) else obp (fX7_account (10 : Int32) z36.2.2) fun y44 u43 => (if y44 = 0 then bd ((x3 + 1 : Int32)) fun y46 => rec_262 x1 x2 y46 u43 kc38 ks39 else some ((0 : Int32), u43))) else none) else none else bd ((x3 + 1 : Int32)) fun y26 => rec_262 x1 x2 y26 z20.2 kc22 ks23)) else none) else none) else none else some ((0 : Int32), u4)) else some ((0 : Int32), u1))
set_option maxRecDepth 100000 in
set_option maxHeartbeats 4000000 in
theorem hk_L_law_409 {ad adK adV : Nat → Nat} {tS tF : Nat} {tX sK sV : Nat → Nat} {p : Program} {l : Launch} {e : Env} {s : State} {m : MethodId} {args : Array Value} {below : List Frame} {meth : Method} {c : Code} {A : Nat → Prop} {D : va_G} {cI cF cC cS cO cB cZ : ClassId} {Q : State → Prop} {q0 qs qo qt qv qr qx ql : Nat → Nat} {qh : Nat → Nat → Nat} {mc : Nat} {ms : Nat} {L : Nat} {xs : Nat → Int32} {b : Nat} (C : vC (vE ad adK adV tS tF tX sK sV) p l s m args meth c A D (vT7 cI cF cC cS cO cB cZ) cL_law 10 RL) (hX : va_X b L xs s s.heap) (hbl : b < s.heap.size) (hbA : ¬ A b) {r0 : Int32} {u0 : vZ} (RET : ∀ (q : Nat → Nat) (kc ks : Nat) (pc : Nat) (lv : List (Nat × Value)), (kc ≤ mc ∧ ks ≤ ms) → decode cL_law pc = .ok (.ireturn, 1) → (r0 = 0 ∨ r0 = 1) → vV p l e { frames := 16, cells := mc, slots := ms, locals := 648 } s m args below meth c A D 10 kc ks Q ([] ++ wX q0 qs qo qt qv qr qx ql ad qh cI cF cC cS cO u0) pc lv [.int r0]) {rec_262 : Int32 → Int32 → Int32 → vZ → Nat → Nat → Option (Int32 × vZ)} (REC_262 : ∀ (x1 : Int32) (x2 : Int32) (x3 : Int32) (u : vZ) (kc : Nat) (ks : Nat), (kc ≤ mc ∧ ks ≤ ms) → rec_262 x1 x2 x3 u kc ks = some (r0, u0) → vV p l e { frames := 16, cells := mc, slots := ms, locals := 648 } s m args below meth c A D 10 kc ks Q ([] ++ wX q0 qs qo qt qv qr qx ql ad qh cI cF cC cS cO u) 262 [(0, .ref b), (1, .ref (q0 0)), (2, .int x1), (3, .int x2), (4, .int x3)] []) : ∀ (b0 : Nat) (x1 : Int32) (x2 : Int32) (x3 : Int32) (x4 : Int32) (x5 : Int32) (u : vZ) (kc : Nat) (ks : Nat), (kc ≤ mc ∧ ks ≤ ms) → hf_L_law_409 mc ms L xs rec_262 x1 x2 x3 x4 x5 u kc ks = some (r0, u0) → vV p l e { frames := 16, cells := mc, slots := ms, locals := 648 } s m args below meth c A D 10 kc ks Q ([(b0, .inr (8, [.int x5]))] ++ wX q0 qs qo qt qv qr qx ql ad qh cI cF cC cS cO u) 409 [(0, .ref b), (1, .ref (q0 0)), (2, .int x1), (3, .int x2), (4, .int x3), (6, .ref b0), (7, .int x4)] [] := by
  intro b0 x1 x2 x3 x4 x5 u kc ks hkc h
  rw [hf_L_law_409] at h
  refine vi_aload_n C 1 dL_law_409 rfl ?_
  refine vi_bipush (v := 10) C dL_law_410 (by decide) ?_
  obtain ⟨y2, u1, hgu1, h⟩ := ob_p h
  refine cY_i (As := [.int (10 : Int32)]) (rest := []) (ud := u1) C 1 (mX7_account C.2.2.2.2.2.2.2.2.1 hgu1) 1 rfl tcX7_account tlL_37 tiX7_account tsX7_account rfl tnX7 tdX7_account ⟨Nat.le_of_ble_eq_true rfl, Nat.le_of_ble_eq_true rfl⟩ hkc rfl rfl (Nat.le_of_ble_eq_true rfl) dL_law_412 ?_
  refine vi_iload C 6 dL_law_415 rfl ?_
  refine vi_icmp_ne (tgt := 450) C dL_law_417 (by decide) (fun hc3 => ?_) (fun hc3 => ?_)
  · have h := ob_f h hc3
    refine vi_iconst (v := 0) C dL_law_450 (by decide) ?_
    refine vi_pickX (ex2 := []) [] (by decide) rfl ?_
    cases h
    exact RET (fun j => [].getD j 0) _ _ _ _ hkc dL_law_451 (by decide)
  · have h := ob_t h hc3
    refine vi_aload_n C 1 dL_law_420 rfl ?_
    refine vi_bipush (v := 9) C dL_law_421 (by decide) ?_
    obtain ⟨y5, u4, hgu4, h⟩ := ob_p h
    refine cY_i (As := [.int (9 : Int32)]) (rest := []) (ud := u4) C 1 (mX7_account C.2.2.2.2.2.2.2.2.1 hgu4) 1 rfl tcX7_account tlL_37 tiX7_account tsX7_account rfl tnX7 tdX7_account ⟨Nat.le_of_ble_eq_true rfl, Nat.le_of_ble_eq_true rfl⟩ hkc rfl rfl (Nat.le_of_ble_eq_true rfl) dL_law_423 ?_
    refine vi_if_ne (tgt := 450) C dL_law_426 (by decide) (fun hc6 => ?_) (fun hc6 => ?_)
    · have h := ob_f h hc6
      refine vi_iconst (v := 0) C dL_law_450 (by decide) ?_
      refine vi_pickX (ex2 := []) [] (by decide) rfl ?_
      cases h
      exact RET (fun j => [].getD j 0) _ _ _ _ hkc dL_law_451 (by decide)
    · have h := ob_t h hc6
      refine vi_aload_n C 1 dL_law_429 rfl ?_
      obtain ⟨hz7, h⟩ := ob_ok h
      obtain ⟨z8, hgz8, h⟩ := ob_bd h
      refine vi_w C (w' := [(b0, .inr (8, [.int x5]))] ++ ([] ++ wX q0 qs qo qt qv qr qx ql ad qh cI cF cC cS cO u4)) rfl ?_
      refine g_ci C (g_runS (As := [.ref (q0 0)]) (rest := []) (w1 := [(b0, .inr (8, [.int x5]))]) (wc := ([] ++ wX q0 qs qo qt qv qr qx ql ad qh cI cF cC cS cO u4)) C (hm_L_sailors  (mc := (2000)) (ms := (20000)) (r0 := z8.1) (u0 := z8.2) C.2.2.2.2.2.2.2.2.1 hgz8) 1 rfl tcL_sailors tlL_259 ttL_sailors tnL tdL_sailors ⟨Nat.le_of_ble_eq_true rfl, Nat.le_of_ble_eq_true rfl⟩ hz7 rfl (Nat.le_of_ble_eq_true rfl) dL_law_430 rfl) rfl (fun q9 => ?_)
      refine vi_w C (w' := ([(b0, .inr (8, [.int x5]))] ++ wX q0 qs qo qt qv qr qx ql ad qh cI cF cC cS cO z8.2)) rfl ?_
      obtain ⟨kc10, ekc10, h⟩ := ob_nm h
      obtain ⟨ks11, eks11, h⟩ := ob_nm h
      refine vi_kk ekc10.symm eks11.symm ?_
      rw [← ekc10, ← eks11] at hz7
      refine vi_if_eq (tgt := 450) C dL_law_433 (by decide) (fun hc12 => ?_) (fun hc12 => ?_)
      · have h := ob_t h hc12
        refine vi_iconst (v := 0) C dL_law_450 (by decide) ?_
        refine vi_pickX (ex2 := []) [] (by decide) rfl ?_
        cases h
        exact RET (fun j => [].getD j 0) _ _ _ _ hz7 dL_law_451 (by decide)
      · have h := ob_f h hc12
        refine vi_aload_n C 1 dL_law_436 rfl ?_
        obtain ⟨hz13, h⟩ := ob_ok h
        obtain ⟨z14, hgz14, h⟩ := ob_bd h
        refine vi_w C (w' := [(b0, .inr (8, [.int x5]))] ++ ([] ++ wX q0 qs qo qt qv qr qx ql ad qh cI cF cC cS cO z8.2)) rfl ?_
        refine g_ci C (g_runS (As := [.ref (q0 0)]) (rest := []) (w1 := [(b0, .inr (8, [.int x5]))]) (wc := ([] ++ wX q0 qs qo qt qv qr qx ql ad qh cI cF cC cS cO z8.2)) C (hm_L_sights  (mc := (1000)) (ms := (10000)) (r0 := z14.1) (u0 := z14.2) C.2.2.2.2.2.2.2.2.1 hgz14) 1 rfl tcL_sights tlL_263 ttL_sights tnL tdL_sights ⟨Nat.le_of_ble_eq_true rfl, Nat.le_of_ble_eq_true rfl⟩ hz13 rfl (Nat.le_of_ble_eq_true rfl) dL_law_437 rfl) rfl (fun q15 => ?_)
        refine vi_w C (w' := ([(b0, .inr (8, [.int x5]))] ++ wX q0 qs qo qt qv qr qx ql ad qh cI cF cC cS cO z14.2)) rfl ?_
        obtain ⟨kc16, ekc16, h⟩ := ob_nm h
        obtain ⟨ks17, eks17, h⟩ := ob_nm h
        refine vi_kk ekc16.symm eks17.symm ?_
        rw [← ekc16, ← eks17] at hz13
        refine vi_if_eq (tgt := 450) C dL_law_440 (by decide) (fun hc18 => ?_) (fun hc18 => ?_)
        · have h := ob_t h hc18
          refine vi_iconst (v := 0) C dL_law_450 (by decide) ?_
          refine vi_pickX (ex2 := []) [] (by decide) rfl ?_
          cases h
          exact RET (fun j => [].getD j 0) _ _ _ _ hz13 dL_law_451 (by decide)
        · have h := ob_f h hc18
          refine vi_aload_n C 1 dL_law_443 rfl ?_
          obtain ⟨hz19, h⟩ := ob_ok h
          obtain ⟨z20, hgz20, h⟩ := ob_bd h
          refine vi_w C (w' := [(b0, .inr (8, [.int x5]))] ++ ([] ++ wX q0 qs qo qt qv qr qx ql ad qh cI cF cC cS cO z14.2)) rfl ?_
          refine g_ci C (g_runS (As := [.ref (q0 0)]) (rest := []) (w1 := [(b0, .inr (8, [.int x5]))]) (wc := ([] ++ wX q0 qs qo qt qv qr qx ql ad qh cI cF cC cS cO z14.2)) C (hm_L_alike  (mc := (1)) (ms := (8)) (r0 := z20.1) (u0 := z20.2) C.2.2.2.2.2.2.2.2.1 hgz20) 1 rfl tcL_alike tlL_266 ttL_alike tnL tdL_alike ⟨Nat.le_of_ble_eq_true rfl, Nat.le_of_ble_eq_true rfl⟩ hz19 rfl (Nat.le_of_ble_eq_true rfl) dL_law_444 rfl) rfl (fun q21 => ?_)
          refine vi_w C (w' := ([(b0, .inr (8, [.int x5]))] ++ wX q0 qs qo qt qv qr qx ql ad qh cI cF cC cS cO z20.2)) rfl ?_
          obtain ⟨kc22, ekc22, h⟩ := ob_nm h
          obtain ⟨ks23, eks23, h⟩ := ob_nm h
          refine vi_kk ekc22.symm eks23.symm ?_
          rw [← ekc22, ← eks23] at hz19
          refine vi_if_ne (tgt := 452) C dL_law_447 (by decide) (fun hc24 => ?_) (fun hc24 => ?_)
          · have h := ob_f h hc24
            refine vi_iload C 4 dL_law_452 rfl ?_
            refine vi_iconst (v := 3) C dL_law_454 (by decide) ?_
            refine vi_irem C dL_law_455 (by decide) ?_
            refine vi_iconst (v := 2) C dL_law_456 (by decide) ?_
            refine vi_icmp_ne (tgt := 498) C dL_law_457 (by decide) (fun hc25 => ?_) (fun hc25 => ?_)
            · have h := ob_f h hc25
              obtain ⟨y26, ey26, h⟩ := ob_nm h
              refine vi_iinc (v := y26) (lv' := [(4, .int y26), (0, .ref b), (1, .ref (q0 0)), (2, .int x1), (3, .int x2), (6, .ref b0), (7, .int x4)]) C 4 dL_law_498 rfl (by rw [ey26]; rfl) (by decide) rfl ?_
              refine vi_goto (tgt := 262) C dL_law_501 (by decide) ?_
              refine vi_sub C [1, 2, 3, 4, 0] rfl ?_
              refine vi_pickX (ex2 := []) [] (by decide) rfl ?_
              exact REC_262 _ _ _ _ _ _ hz19 h
            · have h := ob_t h hc25
              refine vi_aload_n C 1 dL_law_460 rfl ?_
              obtain ⟨hz27, h⟩ := ob_ok h
              obtain ⟨z28, hgz28, h⟩ := ob_bd h
              refine vi_w C (w' := [(b0, .inr (8, [.int x5]))] ++ ([] ++ wX q0 qs qo qt qv qr qx ql ad qh cI cF cC cS cO z20.2)) rfl ?_
              refine g_cr C (g_runS (As := [.ref (q0 0)]) (rest := []) (w1 := [(b0, .inr (8, [.int x5]))]) (wc := ([] ++ wX q0 qs qo qt qv qr qx ql ad qh cI cF cC cS cO z20.2)) C (hm_L_told  (mc := (2000)) (ms := (12000)) (r_n1 := z28.1) (r_g2 := z28.2.1) (u0 := z28.2.2) C.2.2.2.2.2.2.2.2.1 hgz28) 1 rfl tcL_told tlL_251 ttL_told tnL tdL_told ⟨Nat.le_of_ble_eq_true rfl, Nat.le_of_ble_eq_true rfl⟩ hz27 rfl (Nat.le_of_ble_eq_true rfl) dL_law_461 rfl) rfl (fun q29 => ?_)
              refine vi_w C (w' := ([(b0, .inr (8, [.int x5])), ((q29 0), .inr (0, [.ref (q29 1), .int (0 : Int32), .int (0 : Int32), .int (0 : Int32)])), ((q29 1), .inl (cB, z28.1, .inl (z28.2.1)))] ++ wX q0 qs qo qt qv qr qx ql ad qh cI cF cC cS cO z28.2.2)) rfl ?_
              obtain ⟨kc30, ekc30, h⟩ := ob_nm h
              obtain ⟨ks31, eks31, h⟩ := ob_nm h
              refine vi_kk ekc30.symm eks31.symm ?_
              rw [← ekc30, ← eks31] at hz27
              refine vi_astore (lv' := [(8, .ref (q29 0)), (0, .ref b), (1, .ref (q0 0)), (2, .int x1), (3, .int x2), (4, .int x3), (6, .ref b0), (7, .int x4)]) C dL_law_464 (by decide) rfl ?_
              refine vi_aload_n C 2 dL_law_466 rfl ?_
              refine vi_aload C 6 dL_law_467 rfl ?_
              obtain ⟨z32, hgz32, h⟩ := ob_bd h
              refine vi_pickX (ex2 := [((q29 0), .inr (0, [.ref (q29 1), .int (0 : Int32), .int (0 : Int32), .int (0 : Int32)])), ((q29 1), .inl (cB, z28.1, .inl (z28.2.1))), (b0, .inr (8, [.int x5]))]) [1, 2, 0] (by decide) rfl ?_
              refine vi_w C (w' := [((q29 0), .inr (0, [.ref (q29 1), .int (0 : Int32), .int (0 : Int32), .int (0 : Int32)])), ((q29 1), .inl (cB, z28.1, .inl (z28.2.1)))] ++ ([(b0, .inr (8, [.int x5]))] ++ wX q0 qs qo qt qv qr qx ql ad qh cI cF cC cS cO z28.2.2)) rfl ?_
              refine g_ci C (g_runS (As := [.ref (q0 0), .ref b0]) (rest := []) (w1 := [((q29 0), .inr (0, [.ref (q29 1), .int (0 : Int32), .int (0 : Int32), .int (0 : Int32)])), ((q29 1), .inl (cB, z28.1, .inl (z28.2.1)))]) (wc := ([(b0, .inr (8, [.int x5]))] ++ wX q0 qs qo qt qv qr qx ql ad qh cI cF cC cS cO z28.2.2)) C (hm_L_foretold (a0 := b0) (f0_0 := x5) (r0 := z32.1) (r_o1 := z32.2.1) (u0 := z32.2.2) C.2.2.2.2.2.2.2.2.1 hgz32) 2 rfl tcL_foretold tlL_269 ttL_foretold tnL tdL_foretold ⟨Nat.le_of_ble_eq_true rfl, Nat.le_of_ble_eq_true rfl⟩ hz27 rfl (Nat.le_of_ble_eq_true rfl) dL_law_469 rfl) rfl (fun q33 => ?_)
              refine vi_w C (w' := ([((q29 0), .inr (0, [.ref (q29 1), .int (0 : Int32), .int (0 : Int32), .int (0 : Int32)])), ((q29 1), .inl (cB, z28.1, .inl (z28.2.1))), (b0, .inr (8, [.int (z32.2.1)]))] ++ wX q0 qs qo qt qv qr qx ql ad qh cI cF cC cS cO z32.2.2)) rfl ?_
              refine vi_kk (kc1 := kc30) (ks1 := ks31) rfl rfl ?_
              refine vi_if_eq (tgt := 496) C dL_law_472 (by decide) (fun hc34 => ?_) (fun hc34 => ?_)
              · have h := ob_t h hc34
                refine vi_iconst (v := 0) C dL_law_496 (by decide) ?_
                refine vi_pickX (ex2 := []) [] (by decide) rfl ?_
                cases h
                exact RET (fun j => [].getD j 0) _ _ _ _ hz27 dL_law_497 (by decide)
              · have h := ob_f h hc34
                refine vi_aload C 0 dL_law_475 rfl ?_
                refine vi_aload_n C 2 dL_law_477 rfl ?_
                obtain ⟨hz35, h⟩ := ob_ok h
                obtain ⟨z36, hgz36, h⟩ := ob_bd h
                refine vi_w C (w' := [((q29 0), .inr (0, [.ref (q29 1), .int (0 : Int32), .int (0 : Int32), .int (0 : Int32)])), ((q29 1), .inl (cB, z28.1, .inl (z28.2.1))), (b0, .inr (8, [.int (z32.2.1)]))] ++ ([] ++ wX q0 qs qo qt qv qr qx ql ad qh cI cF cC cS cO z32.2.2)) rfl ?_
                refine g_cr C (g_runS (As := [.ref (q0 0)]) (rest := [.ref (q29 0)]) (w1 := [((q29 0), .inr (0, [.ref (q29 1), .int (0 : Int32), .int (0 : Int32), .int (0 : Int32)])), ((q29 1), .inl (cB, z28.1, .inl (z28.2.1))), (b0, .inr (8, [.int (z32.2.1)]))]) (wc := ([] ++ wX q0 qs qo qt qv qr qx ql ad qh cI cF cC cS cO z32.2.2)) C (hm_L_told  (mc := (2000)) (ms := (12000)) (r_n1 := z36.1) (r_g2 := z36.2.1) (u0 := z36.2.2) C.2.2.2.2.2.2.2.2.1 hgz36) 1 rfl tcL_told tlL_251 ttL_told tnL tdL_told ⟨Nat.le_of_ble_eq_true rfl, Nat.le_of_ble_eq_true rfl⟩ hz35 rfl (Nat.le_of_ble_eq_true rfl) dL_law_478 rfl) rfl (fun q37 => ?_)
                refine vi_w C (w' := ([((q29 0), .inr (0, [.ref (q29 1), .int (0 : Int32), .int (0 : Int32), .int (0 : Int32)])), ((q29 1), .inl (cB, z28.1, .inl (z28.2.1))), (b0, .inr (8, [.int (z32.2.1)])), ((q37 0), .inr (0, [.ref (q37 1), .int (0 : Int32), .int (0 : Int32), .int (0 : Int32)])), ((q37 1), .inl (cB, z36.1, .inl (z36.2.1)))] ++ wX q0 qs qo qt qv qr qx ql ad qh cI cF cC cS cO z36.2.2)) rfl ?_
                obtain ⟨kc38, ekc38, h⟩ := ob_nm h
                obtain ⟨ks39, eks39, h⟩ := ob_nm h
                refine vi_kk ekc38.symm eks39.symm ?_
                rw [← ekc38, ← eks39] at hz35
                obtain ⟨z40, hgz40, h⟩ := ob_bd h
                refine vi_pickX (ex2 := [(b0, .inr (8, [.int (z32.2.1)])), ((q29 0), .inr (0, [.ref (q29 1), .int (0 : Int32), .int (0 : Int32), .int (0 : Int32)])), ((q29 1), .inl (cB, z28.1, .inl (z28.2.1))), ((q37 0), .inr (0, [.ref (q37 1), .int (0 : Int32), .int (0 : Int32), .int (0 : Int32)])), ((q37 1), .inl (cB, z36.1, .inl (z36.2.1)))]) [2, 0, 1, 3, 4] (by decide) rfl ?_
                refine vi_w C (w' := ([(b0, .inr (8, [.int (z32.2.1)]))] ++ [((q29 0), .inr (0, [.ref (q29 1), .int (0 : Int32), .int (0 : Int32), .int (0 : Int32)])), ((q29 1), .inl (cB, z28.1, .inl (z28.2.1))), ((q37 0), .inr (0, [.ref (q37 1), .int (0 : Int32), .int (0 : Int32), .int (0 : Int32)])), ((q37 1), .inl (cB, z36.1, .inl (z36.2.1)))]) ++ wX q0 qs qo qt qv qr qx ql ad qh cI cF cC cS cO z36.2.2) rfl ?_
                refine vi_swp ?_
                refine g_ci C (g_runV (T := TJ0) (N := 4) (ci := 0) (fs := [.ref (q29 1), .int (0 : Int32), .int (0 : Int32), .int (0 : Int32)]) (As := [.ref (q37 0)]) (rest := []) (w1 := ([(b0, .inr (8, [.int (z32.2.1)]))] ++ wX q0 qs qo qt qv qr qx ql ad qh cI cF cC cS cO z36.2.2)) (wc := [((q29 0), .inr (0, [.ref (q29 1), .int (0 : Int32), .int (0 : Int32), .int (0 : Int32)])), ((q29 1), .inl (cB, z28.1, .inl (z28.2.1))), ((q37 0), .inr (0, [.ref (q37 1), .int (0 : Int32), .int (0 : Int32), .int (0 : Int32)])), ((q37 1), .inl (cB, z36.1, .inl (z36.2.1)))]) C (hm_J0_equals_9ea2d (a0 := (q29 0)) (a1 := (q29 1)) (a2 := (q37 0)) (a3 := (q37 1)) (n1 := (z28.1)) (g1 := (z28.2.1)) (n3 := (z36.1)) (g3 := (z36.2.1)) (r0 := z40) C.2.2.2.2.2.2.2.2.1 hgz40) 1 rfl tcJ0_equals_9ea2d tlL_150 tiJ0_equals_9ea2d tsJ0_equals_9ea2d tnJ0 tdJ0_equals_9ea2d ⟨Nat.le_of_ble_eq_true rfl, Nat.le_of_ble_eq_true rfl⟩ hz35 (1 + 101 + 0) rfl rfl rfl (Nat.le_of_ble_eq_true rfl) dL_law_481 rfl) rfl (fun q41 => ?_)
                refine vi_swp ?_
                refine vi_w C (w' := ([(b0, .inr (8, [.int (z32.2.1)])), ((q29 0), .inr (0, [.ref (q29 1), .int (0 : Int32), .int (0 : Int32), .int (0 : Int32)])), ((q29 1), .inl (cB, z28.1, .inl (z28.2.1))), ((q37 0), .inr (0, [.ref (q37 1), .int (0 : Int32), .int (0 : Int32), .int (0 : Int32)])), ((q37 1), .inl (cB, z36.1, .inl (z36.2.1)))] ++ wX q0 qs qo qt qv qr qx ql ad qh cI cF cC cS cO z36.2.2)) rfl ?_
                refine vi_kk (kc1 := kc38) (ks1 := ks39) rfl rfl ?_
                refine vi_if_eq (tgt := 496) C dL_law_484 (by decide) (fun hc42 => ?_) (fun hc42 => ?_)
                · have h := ob_t h hc42
                  refine vi_iconst (v := 0) C dL_law_496 (by decide) ?_
                  refine vi_pickX (ex2 := []) [] (by decide) rfl ?_
                  cases h
                  exact RET (fun j => [].getD j 0) _ _ _ _ hz35 dL_law_497 (by decide)
                · have h := ob_f h hc42
                  refine vi_aload_n C 2 dL_law_487 rfl ?_
                  refine vi_bipush (v := 10) C dL_law_488 (by decide) ?_
                  obtain ⟨y44, u43, hgu43, h⟩ := ob_p h
                  refine cY_i (As := [.int (10 : Int32)]) (rest := []) (ud := u43) C 5 (mX7_account C.2.2.2.2.2.2.2.2.1 hgu43) 1 rfl tcX7_account tlL_37 tiX7_account tsX7_account rfl tnX7 tdX7_account ⟨Nat.le_of_ble_eq_true rfl, Nat.le_of_ble_eq_true rfl⟩ hz35 rfl rfl (Nat.le_of_ble_eq_true rfl) dL_law_490 ?_
                  refine vi_if_eq (tgt := 498) C dL_law_493 (by decide) (fun hc45 => ?_) (fun hc45 => ?_)
                  · have h := ob_t h hc45
                    obtain ⟨y46, ey46, h⟩ := ob_nm h
                    refine vi_iinc (v := y46) (lv' := [(4, .int y46), (8, .ref (q29 0)), (0, .ref b), (1, .ref (q0 0)), (2, .int x1), (3, .int x2), (6, .ref b0), (7, .int x4)]) C 5 dL_law_498 rfl (by rw [ey46]; rfl) (by decide) rfl ?_
                    refine vi_goto (tgt := 262) C dL_law_501 (by decide) ?_
                    refine vi_sub C [2, 3, 4, 5, 0] rfl ?_
                    refine vi_pickX (ex2 := []) [] (by decide) rfl ?_
                    exact REC_262 _ _ _ _ _ _ hz35 h
                  · have h := ob_f h hc45
                    refine vi_iconst (v := 0) C dL_law_496 (by decide) ?_
                    refine vi_pickX (ex2 := []) [] (by decide) rfl ?_
                    cases h
                    exact RET (fun j => [].getD j 0) _ _ _ _ hz35 dL_law_497 (by decide)
          · have h := ob_t h hc24
            refine vi_iconst (v := 0) C dL_law_450 (by decide) ?_
            refine vi_pickX (ex2 := []) [] (by decide) rfl ?_
            cases h
            exact RET (fun j => [].getD j 0) _ _ _ _ hz19 dL_law_451 (by decide)
def hf_L_law_365 (mc : Nat) (ms : Nat) (L : Nat) (xs : Nat → Int32) (rec_262 : Int32 → Int32 → Int32 → vZ → Nat → Nat → Option (Int32 × vZ)) (x1 : Int32) (x2 : Int32) (x3 : Int32) (x4 : Int32) (x5 : Int32) (x6 : Int32) (n7 : Nat) (g8 : Nat → Int32) (u : vZ) (kc : Nat) (ks : Nat) : Option (Int32 × vZ) := (if x4 ≤ (-100001 : Int32) then hf_L_law_409 mc ms L xs rec_262 x1 x2 x3 x5 x6 u kc ks else (hf_X8_next (4 : Int32) x6).bind fun z2 => (if z2.1 = 0 then bd ((x5 + (-1) : Int32)) fun y5 => obp (fX7_undo u) fun y7 u6 => (if y7 = y5 then if kc + (2000) ≤ mc ∧ ks + (12000) ≤ ms then (hf_L_told (2000) (12000) u6).bind fun z10 => bd (kc + (2000)) fun kc12 => bd (ks + (12000)) fun ks13 => (hf_J0_equals_9ea2d n7 g8 (z10.1) (z10.2.1)).bind fun z14 => (if z14 = 0 then some ((0 : Int32), z10.2.2) else hf_L_law_409 mc ms L xs rec_262 x1 x2 x3 y5 (z2.2) z10.2.2 kc12 ks13) else none else some ((0 : Int32), u6)) else hf_L_law_409 mc ms L xs rec_262 x1 x2 x3 x5 (z2.2) u kc ks))
set_option maxRecDepth 100000 in
set_option maxHeartbeats 4000000 in
theorem hk_L_law_365 {ad adK adV : Nat → Nat} {tS tF : Nat} {tX sK sV : Nat → Nat} {p : Program} {l : Launch} {e : Env} {s : State} {m : MethodId} {args : Array Value} {below : List Frame} {meth : Method} {c : Code} {A : Nat → Prop} {D : va_G} {cI cF cC cS cO cB cZ : ClassId} {Q : State → Prop} {q0 qs qo qt qv qr qx ql : Nat → Nat} {qh : Nat → Nat → Nat} {mc : Nat} {ms : Nat} {L : Nat} {xs : Nat → Int32} {b : Nat} (C : vC (vE ad adK adV tS tF tX sK sV) p l s m args meth c A D (vT7 cI cF cC cS cO cB cZ) cL_law 10 RL) (hX : va_X b L xs s s.heap) (hbl : b < s.heap.size) (hbA : ¬ A b) {r0 : Int32} {u0 : vZ} (RET : ∀ (q : Nat → Nat) (kc ks : Nat) (pc : Nat) (lv : List (Nat × Value)), (kc ≤ mc ∧ ks ≤ ms) → decode cL_law pc = .ok (.ireturn, 1) → (r0 = 0 ∨ r0 = 1) → vV p l e { frames := 16, cells := mc, slots := ms, locals := 648 } s m args below meth c A D 10 kc ks Q ([] ++ wX q0 qs qo qt qv qr qx ql ad qh cI cF cC cS cO u0) pc lv [.int r0]) {rec_262 : Int32 → Int32 → Int32 → vZ → Nat → Nat → Option (Int32 × vZ)} (REC_262 : ∀ (x1 : Int32) (x2 : Int32) (x3 : Int32) (u : vZ) (kc : Nat) (ks : Nat), (kc ≤ mc ∧ ks ≤ ms) → rec_262 x1 x2 x3 u kc ks = some (r0, u0) → vV p l e { frames := 16, cells := mc, slots := ms, locals := 648 } s m args below meth c A D 10 kc ks Q ([] ++ wX q0 qs qo qt qv qr qx ql ad qh cI cF cC cS cO u) 262 [(0, .ref b), (1, .ref (q0 0)), (2, .int x1), (3, .int x2), (4, .int x3)] []) : ∀ (b0 : Nat) (b1 : Nat) (b2 : Nat) (x1 : Int32) (x2 : Int32) (x3 : Int32) (x4 : Int32) (x5 : Int32) (x6 : Int32) (n7 : Nat) (g8 : Nat → Int32) (u : vZ) (kc : Nat) (ks : Nat), (kc ≤ mc ∧ ks ≤ ms) → hf_L_law_365 mc ms L xs rec_262 x1 x2 x3 x4 x5 x6 n7 g8 u kc ks = some (r0, u0) → vV p l e { frames := 16, cells := mc, slots := ms, locals := 648 } s m args below meth c A D 10 kc ks Q ([(b0, .inr (8, [.int x6])), (b1, .inr (0, [.ref b2, .int (0 : Int32), .int (0 : Int32), .int (0 : Int32)])), (b2, .inl (cB, n7, .inl (g8)))] ++ wX q0 qs qo qt qv qr qx ql ad qh cI cF cC cS cO u) 365 [(0, .ref b), (1, .ref (q0 0)), (2, .int x1), (3, .int x2), (4, .int x3), (6, .ref b0), (8, .ref b1), (9, .int x4)] [.int x5] := by
  intro b0 b1 b2 x1 x2 x3 x4 x5 x6 n7 g8 u kc ks hkc h
  rw [hf_L_law_365] at h
  refine vi_istore (lv' := [(7, .int x5), (0, .ref b), (1, .ref (q0 0)), (2, .int x1), (3, .int x2), (4, .int x3), (6, .ref b0), (8, .ref b1), (9, .int x4)]) C dL_law_365 (by decide) rfl ?_
  refine vi_iload C 8 dL_law_367 rfl ?_
  refine vi_ldc (v := (-100001)) C dL_law_369 tkL_166 ?_
  refine vi_icmp_le (tgt := 409) C dL_law_371 (by decide) (fun hc1 => ?_) (fun hc1 => ?_)
  · have h := ob_t h hc1
    refine vi_sub C [1, 2, 3, 4, 5, 6, 0] rfl ?_
    refine vi_pickX (ex2 := [(b0, .inr (8, [.int x6]))]) [0] (by decide) rfl ?_
    exact hk_L_law_409 C hX hbl hbA RET REC_262  _ _ _ _ _ _ _ _ _ hkc h
  · have h := ob_f h hc1
    refine vi_aload C 6 dL_law_374 rfl ?_
    refine vi_iconst (v := 4) C dL_law_376 (by decide) ?_
    obtain ⟨z2, hgz2, h⟩ := ob_bd h
    refine vi_pickX (ex2 := [(b1, .inr (0, [.ref b2, .int (0 : Int32), .int (0 : Int32), .int (0 : Int32)])), (b2, .inl (cB, n7, .inl (g8))), (b0, .inr (8, [.int x6]))]) [1, 2, 0] (by decide) rfl ?_
    refine vi_w C (w' := ([(b1, .inr (0, [.ref b2, .int (0 : Int32), .int (0 : Int32), .int (0 : Int32)])), (b2, .inl (cB, n7, .inl (g8)))] ++ [(b0, .inr (8, [.int x6]))]) ++ wX q0 qs qo qt qv qr qx ql ad qh cI cF cC cS cO u) rfl ?_
    refine vi_swp ?_
    refine g_ci C (g_runV (T := TX8) (N := 1) (ci := 8) (fs := [.int x6]) (As := [.int (4 : Int32)]) (rest := []) (w1 := ([(b1, .inr (0, [.ref b2, .int (0 : Int32), .int (0 : Int32), .int (0 : Int32)])), (b2, .inl (cB, n7, .inl (g8)))] ++ wX q0 qs qo qt qv qr qx ql ad qh cI cF cC cS cO u)) (wc := [(b0, .inr (8, [.int x6]))]) C (hm_X8_next (a0 := b0) (x1 := (4 : Int32)) (f0_0 := x6) (r0 := z2.1) (r_o1 := z2.2) C.2.2.2.2.2.2.2.2.1 hgz2) 1 rfl tcX8_next tlL_23 tiX8_next tsX8_next tnX8 tdX8_next ⟨Nat.le_of_ble_eq_true rfl, Nat.le_of_ble_eq_true rfl⟩ hkc (2 + 101 + 0) rfl rfl rfl (Nat.le_of_ble_eq_true rfl) dL_law_377 rfl) rfl (fun q3 => ?_)
    refine vi_swp ?_
    refine vi_w C (w' := ([(b1, .inr (0, [.ref b2, .int (0 : Int32), .int (0 : Int32), .int (0 : Int32)])), (b2, .inl (cB, n7, .inl (g8))), (b0, .inr (8, [.int (z2.2)]))] ++ wX q0 qs qo qt qv qr qx ql ad qh cI cF cC cS cO u)) rfl ?_
    refine vi_kk (kc1 := kc) (ks1 := ks) rfl rfl ?_
    refine vi_if_ne (tgt := 409) C dL_law_380 (by decide) (fun hc4 => ?_) (fun hc4 => ?_)
    · have h := ob_f h hc4
      refine vi_sub C [1, 2, 3, 4, 5, 6, 0] rfl ?_
      refine vi_pickX (ex2 := [(b0, .inr (8, [.int (z2.2)]))]) [2] (by decide) rfl ?_
      exact hk_L_law_409 C hX hbl hbA RET REC_262  _ _ _ _ _ _ _ _ _ hkc h
    · have h := ob_t h hc4
      obtain ⟨y5, ey5, h⟩ := ob_nm h
      refine vi_iinc (v := y5) (lv' := [(7, .int y5), (0, .ref b), (1, .ref (q0 0)), (2, .int x1), (3, .int x2), (4, .int x3), (6, .ref b0), (8, .ref b1), (9, .int x4)]) C 0 dL_law_383 rfl (by rw [ey5]; rfl) (by decide) rfl ?_
      refine vi_aload_n C 2 dL_law_386 rfl ?_
      obtain ⟨y7, u6, hgu6, h⟩ := ob_p h
      refine cY_i (As := []) (rest := []) (ud := u6) C 3 (mX7_undo C.2.2.2.2.2.2.2.2.1 hgu6) 0 rfl tcX7_undo tlL_224 tiX7_undo tsX7_undo rfl tnX7 tdX7_undo ⟨Nat.le_of_ble_eq_true rfl, Nat.le_of_ble_eq_true rfl⟩ hkc rfl rfl (Nat.le_of_ble_eq_true rfl) dL_law_387 ?_
      refine vi_iload C 0 dL_law_390 rfl ?_
      refine vi_icmp_ne (tgt := 407) C dL_law_392 (by decide) (fun hc8 => ?_) (fun hc8 => ?_)
      · have h := ob_f h hc8
        refine vi_iconst (v := 0) C dL_law_407 (by decide) ?_
        refine vi_pickX (ex2 := []) [] (by decide) rfl ?_
        cases h
        exact RET (fun j => [].getD j 0) _ _ _ _ hkc dL_law_408 (by decide)
      · have h := ob_t h hc8
        refine vi_aload C 7 dL_law_395 rfl ?_
        refine vi_aload_n C 2 dL_law_397 rfl ?_
        obtain ⟨hz9, h⟩ := ob_ok h
        obtain ⟨z10, hgz10, h⟩ := ob_bd h
        refine vi_w C (w' := [(b1, .inr (0, [.ref b2, .int (0 : Int32), .int (0 : Int32), .int (0 : Int32)])), (b2, .inl (cB, n7, .inl (g8))), (b0, .inr (8, [.int (z2.2)]))] ++ ([] ++ wX q0 qs qo qt qv qr qx ql ad qh cI cF cC cS cO u6)) rfl ?_
        refine g_cr C (g_runS (As := [.ref (q0 0)]) (rest := [.ref b1]) (w1 := [(b1, .inr (0, [.ref b2, .int (0 : Int32), .int (0 : Int32), .int (0 : Int32)])), (b2, .inl (cB, n7, .inl (g8))), (b0, .inr (8, [.int (z2.2)]))]) (wc := ([] ++ wX q0 qs qo qt qv qr qx ql ad qh cI cF cC cS cO u6)) C (hm_L_told  (mc := (2000)) (ms := (12000)) (r_n1 := z10.1) (r_g2 := z10.2.1) (u0 := z10.2.2) C.2.2.2.2.2.2.2.2.1 hgz10) 1 rfl tcL_told tlL_251 ttL_told tnL tdL_told ⟨Nat.le_of_ble_eq_true rfl, Nat.le_of_ble_eq_true rfl⟩ hz9 rfl (Nat.le_of_ble_eq_true rfl) dL_law_398 rfl) rfl (fun q11 => ?_)
        refine vi_w C (w' := ([(b1, .inr (0, [.ref b2, .int (0 : Int32), .int (0 : Int32), .int (0 : Int32)])), (b2, .inl (cB, n7, .inl (g8))), (b0, .inr (8, [.int (z2.2)])), ((q11 0), .inr (0, [.ref (q11 1), .int (0 : Int32), .int (0 : Int32), .int (0 : Int32)])), ((q11 1), .inl (cB, z10.1, .inl (z10.2.1)))] ++ wX q0 qs qo qt qv qr qx ql ad qh cI cF cC cS cO z10.2.2)) rfl ?_
        obtain ⟨kc12, ekc12, h⟩ := ob_nm h
        obtain ⟨ks13, eks13, h⟩ := ob_nm h
        refine vi_kk ekc12.symm eks13.symm ?_
        rw [← ekc12, ← eks13] at hz9
        obtain ⟨z14, hgz14, h⟩ := ob_bd h
        refine vi_pickX (ex2 := [(b0, .inr (8, [.int (z2.2)])), (b1, .inr (0, [.ref b2, .int (0 : Int32), .int (0 : Int32), .int (0 : Int32)])), (b2, .inl (cB, n7, .inl (g8))), ((q11 0), .inr (0, [.ref (q11 1), .int (0 : Int32), .int (0 : Int32), .int (0 : Int32)])), ((q11 1), .inl (cB, z10.1, .inl (z10.2.1)))]) [2, 0, 1, 3, 4] (by decide) rfl ?_
        refine vi_w C (w' := ([(b0, .inr (8, [.int (z2.2)]))] ++ [(b1, .inr (0, [.ref b2, .int (0 : Int32), .int (0 : Int32), .int (0 : Int32)])), (b2, .inl (cB, n7, .inl (g8))), ((q11 0), .inr (0, [.ref (q11 1), .int (0 : Int32), .int (0 : Int32), .int (0 : Int32)])), ((q11 1), .inl (cB, z10.1, .inl (z10.2.1)))]) ++ wX q0 qs qo qt qv qr qx ql ad qh cI cF cC cS cO z10.2.2) rfl ?_
        refine vi_swp ?_
        refine g_ci C (g_runV (T := TJ0) (N := 4) (ci := 0) (fs := [.ref b2, .int (0 : Int32), .int (0 : Int32), .int (0 : Int32)]) (As := [.ref (q11 0)]) (rest := []) (w1 := ([(b0, .inr (8, [.int (z2.2)]))] ++ wX q0 qs qo qt qv qr qx ql ad qh cI cF cC cS cO z10.2.2)) (wc := [(b1, .inr (0, [.ref b2, .int (0 : Int32), .int (0 : Int32), .int (0 : Int32)])), (b2, .inl (cB, n7, .inl (g8))), ((q11 0), .inr (0, [.ref (q11 1), .int (0 : Int32), .int (0 : Int32), .int (0 : Int32)])), ((q11 1), .inl (cB, z10.1, .inl (z10.2.1)))]) C (hm_J0_equals_9ea2d (a0 := b1) (a1 := b2) (a2 := (q11 0)) (a3 := (q11 1)) (n1 := n7) (g1 := g8) (n3 := (z10.1)) (g3 := (z10.2.1)) (r0 := z14) C.2.2.2.2.2.2.2.2.1 hgz14) 1 rfl tcJ0_equals_9ea2d tlL_150 tiJ0_equals_9ea2d tsJ0_equals_9ea2d tnJ0 tdJ0_equals_9ea2d ⟨Nat.le_of_ble_eq_true rfl, Nat.le_of_ble_eq_true rfl⟩ hz9 (1 + 101 + 0) rfl rfl rfl (Nat.le_of_ble_eq_true rfl) dL_law_401 rfl) rfl (fun q15 => ?_)
        refine vi_swp ?_
        refine vi_w C (w' := ([(b0, .inr (8, [.int (z2.2)])), (b1, .inr (0, [.ref b2, .int (0 : Int32), .int (0 : Int32), .int (0 : Int32)])), (b2, .inl (cB, n7, .inl (g8))), ((q11 0), .inr (0, [.ref (q11 1), .int (0 : Int32), .int (0 : Int32), .int (0 : Int32)])), ((q11 1), .inl (cB, z10.1, .inl (z10.2.1)))] ++ wX q0 qs qo qt qv qr qx ql ad qh cI cF cC cS cO z10.2.2)) rfl ?_
        refine vi_kk (kc1 := kc12) (ks1 := ks13) rfl rfl ?_
        refine vi_if_ne (tgt := 409) C dL_law_404 (by decide) (fun hc16 => ?_) (fun hc16 => ?_)
        · have h := ob_f h hc16
          refine vi_sub C [1, 2, 3, 4, 5, 6, 0] rfl ?_
          refine vi_pickX (ex2 := [(b0, .inr (8, [.int (z2.2)]))]) [0] (by decide) rfl ?_
          exact hk_L_law_409 C hX hbl hbA RET REC_262  _ _ _ _ _ _ _ _ _ hz9 h
        · have h := ob_t h hc16
          refine vi_iconst (v := 0) C dL_law_407 (by decide) ?_
          refine vi_pickX (ex2 := []) [] (by decide) rfl ?_
          cases h
          exact RET (fun j => [].getD j 0) _ _ _ _ hz9 dL_law_408 (by decide)
def hf_L_law_344 (mc : Nat) (ms : Nat) (L : Nat) (xs : Nat → Int32) (rec_262 : Int32 → Int32 → Int32 → vZ → Nat → Nat → Option (Int32 × vZ)) (x1 : Int32) (x2 : Int32) (x3 : Int32) (x4 : Int32) (x5 : Int32) (x6 : Int32) (n7 : Nat) (g8 : Nat → Int32) (u : vZ) (kc : Nat) (ks : Nat) : Option (Int32 × vZ) := (if (-100001 : Int32) < x5 then (fJ9_min_7cf53 (8 : Int32) (x4 + (1 : Int32))).bind fun y2 => hf_L_law_365 mc ms L xs rec_262 x1 x2 x3 x5 y2 x6 n7 g8 u kc ks else hf_L_law_365 mc ms L xs rec_262 x1 x2 x3 x5 x4 x6 n7 g8 u kc ks)
set_option maxRecDepth 100000 in
set_option maxHeartbeats 4000000 in
theorem hk_L_law_344 {ad adK adV : Nat → Nat} {tS tF : Nat} {tX sK sV : Nat → Nat} {p : Program} {l : Launch} {e : Env} {s : State} {m : MethodId} {args : Array Value} {below : List Frame} {meth : Method} {c : Code} {A : Nat → Prop} {D : va_G} {cI cF cC cS cO cB cZ : ClassId} {Q : State → Prop} {q0 qs qo qt qv qr qx ql : Nat → Nat} {qh : Nat → Nat → Nat} {mc : Nat} {ms : Nat} {L : Nat} {xs : Nat → Int32} {b : Nat} (C : vC (vE ad adK adV tS tF tX sK sV) p l s m args meth c A D (vT7 cI cF cC cS cO cB cZ) cL_law 10 RL) (hX : va_X b L xs s s.heap) (hbl : b < s.heap.size) (hbA : ¬ A b) {r0 : Int32} {u0 : vZ} (RET : ∀ (q : Nat → Nat) (kc ks : Nat) (pc : Nat) (lv : List (Nat × Value)), (kc ≤ mc ∧ ks ≤ ms) → decode cL_law pc = .ok (.ireturn, 1) → (r0 = 0 ∨ r0 = 1) → vV p l e { frames := 16, cells := mc, slots := ms, locals := 648 } s m args below meth c A D 10 kc ks Q ([] ++ wX q0 qs qo qt qv qr qx ql ad qh cI cF cC cS cO u0) pc lv [.int r0]) {rec_262 : Int32 → Int32 → Int32 → vZ → Nat → Nat → Option (Int32 × vZ)} (REC_262 : ∀ (x1 : Int32) (x2 : Int32) (x3 : Int32) (u : vZ) (kc : Nat) (ks : Nat), (kc ≤ mc ∧ ks ≤ ms) → rec_262 x1 x2 x3 u kc ks = some (r0, u0) → vV p l e { frames := 16, cells := mc, slots := ms, locals := 648 } s m args below meth c A D 10 kc ks Q ([] ++ wX q0 qs qo qt qv qr qx ql ad qh cI cF cC cS cO u) 262 [(0, .ref b), (1, .ref (q0 0)), (2, .int x1), (3, .int x2), (4, .int x3)] []) : ∀ (b0 : Nat) (b1 : Nat) (b2 : Nat) (x1 : Int32) (x2 : Int32) (x3 : Int32) (x4 : Int32) (x5 : Int32) (x6 : Int32) (n7 : Nat) (g8 : Nat → Int32) (u : vZ) (kc : Nat) (ks : Nat), (kc ≤ mc ∧ ks ≤ ms) → hf_L_law_344 mc ms L xs rec_262 x1 x2 x3 x4 x5 x6 n7 g8 u kc ks = some (r0, u0) → vV p l e { frames := 16, cells := mc, slots := ms, locals := 648 } s m args below meth c A D 10 kc ks Q ([(b0, .inr (8, [.int x6])), (b1, .inr (0, [.ref b2, .int (0 : Int32), .int (0 : Int32), .int (0 : Int32)])), (b2, .inl (cB, n7, .inl (g8)))] ++ wX q0 qs qo qt qv qr qx ql ad qh cI cF cC cS cO u) 344 [(0, .ref b), (1, .ref (q0 0)), (2, .int x1), (3, .int x2), (4, .int x3), (6, .ref b0), (7, .int x4), (8, .ref b1), (9, .int x5)] [] := by
  intro b0 b1 b2 x1 x2 x3 x4 x5 x6 n7 g8 u kc ks hkc h
  rw [hf_L_law_344] at h
  refine vi_iload C 8 dL_law_344 rfl ?_
  refine vi_ldc (v := (-100001)) C dL_law_346 tkL_166 ?_
  refine vi_icmp_gt (tgt := 356) C dL_law_348 (by decide) (fun hc1 => ?_) (fun hc1 => ?_)
  · have h := ob_t h hc1
    refine vi_bipush (v := 8) C dL_law_356 (by decide) ?_
    refine vi_iload C 6 dL_law_358 rfl ?_
    refine vi_iconst (v := 1) C dL_law_360 (by decide) ?_
    refine vi_iadd C dL_law_361 ?_
    obtain ⟨y2, hgy2, h⟩ := ob_bd h
    refine vi_callS1i (As := [.int (8 : Int32), .int (x4 + (1 : Int32))]) (rest := []) C (mJ9_min_7cf53 C.2.2.2.2.2.2.2.2.1 hgy2) 2 rfl tcJ9_min_7cf53 tlL_193 ttJ9_min_7cf53 tnJ9 tdJ9_min_7cf53 ⟨Nat.le_of_ble_eq_true rfl, Nat.le_of_ble_eq_true rfl⟩ hkc rfl (Nat.le_of_ble_eq_true rfl) dL_law_362 ?_
    refine vi_sub C [0, 1, 2, 3, 4, 5, 7, 8] rfl ?_
    exact hk_L_law_365 C hX hbl hbA RET REC_262  _ _ _ _ _ _ _ _ _ _ _ _ _ _ hkc h
  · have h := ob_f h hc1
    refine vi_iload C 6 dL_law_351 rfl ?_
    refine vi_goto (tgt := 365) C dL_law_353 (by decide) ?_
    refine vi_sub C [0, 1, 2, 3, 4, 5, 7, 8] rfl ?_
    exact hk_L_law_365 C hX hbl hbA RET REC_262  _ _ _ _ _ _ _ _ _ _ _ _ _ _ hkc h
def hf_L_law_262 (mc : Nat) (ms : Nat) (L : Nat) (xs : Nat → Int32) : Nat → Int32 → Int32 → Int32 → vZ → Nat → Nat → Option (Int32 × vZ)
  | 0, _, _, _, _, _, _ => none
  | n + 1, x1, x2, x3, u, kc, ks => (if (14 : Int32) ≤ x3 then (if x2 ≤ 0 then some ((0 : Int32), u) else some ((1 : Int32), u)) else (hf_L_cell L xs x1).bind fun z3 => bd ((z3 &&& (255 : Int32) : Int32)) fun y5 => if kc + 1 ≤ mc ∧ ks + 1 ≤ ms then bd (kc + 1) fun kc8 => bd (ks + 1) fun ks9 => (hf_L_cell L xs (x1 + (1 : Int32))).bind fun z10 => (hf_X8_init z10).bind fun z12 => bd ((x1 + 2 : Int32)) fun y14 => obp (fX7_account (10 : Int32) u) fun y16 u15 => if kc8 + (2000) ≤ mc ∧ ks9 + (12000) ≤ ms then (hf_L_told (2000) (12000) u15).bind fun z18 => bd (kc8 + (2000)) fun kc20 => bd (ks9 + (12000)) fun ks21 => (hf_L_acts y5 z12 z18.2.2).bind fun z22 => bd ((z22.1 : Int32)) fun y24 => (if (-100001 : Int32) < y24 then hf_L_law_344 mc ms L xs (fun c0 c1 c2 c3 c4 c5 => hf_L_law_262 mc ms L xs n  c0 c1 c2 c3 c4 c5) y14 x2 x3 y16 y24 (z22.2.1) (z18.1) (z18.2.1) z22.2.2 kc20 ks21 else if kc20 + (2000) ≤ mc ∧ ks21 + (12000) ≤ ms then (hf_L_told (2000) (12000) z22.2.2).bind fun z27 => bd (kc20 + (2000)) fun kc29 => bd (ks21 + (12000)) fun ks30 => (hf_J0_equals_9ea2d (z18.1) (z18.2.1) (z27.1) (z27.2.1)).bind fun z31 => (if z31 = 0 then some ((0 : Int32), z27.2.2) else hf_L_law_344 mc ms L xs (fun c0 c1 c2 c3 c4 c5 => hf_L_law_262 mc ms L xs n  c0 c1 c2 c3 c4 c5) y14 x2 x3 y16 y24 (z22.2.1) (z18.1) (z18.2.1) z27.2.2 kc29 ks30) else none) else none else none)
set_option maxRecDepth 100000 in
set_option maxHeartbeats 4000000 in
theorem hk_L_law_262 {ad adK adV : Nat → Nat} {tS tF : Nat} {tX sK sV : Nat → Nat} {p : Program} {l : Launch} {e : Env} {s : State} {m : MethodId} {args : Array Value} {below : List Frame} {meth : Method} {c : Code} {A : Nat → Prop} {D : va_G} {cI cF cC cS cO cB cZ : ClassId} {Q : State → Prop} {q0 qs qo qt qv qr qx ql : Nat → Nat} {qh : Nat → Nat → Nat} {mc : Nat} {ms : Nat} {L : Nat} {xs : Nat → Int32} {b : Nat} (C : vC (vE ad adK adV tS tF tX sK sV) p l s m args meth c A D (vT7 cI cF cC cS cO cB cZ) cL_law 10 RL) (hX : va_X b L xs s s.heap) (hbl : b < s.heap.size) (hbA : ¬ A b) {r0 : Int32} {u0 : vZ} (RET : ∀ (q : Nat → Nat) (kc ks : Nat) (pc : Nat) (lv : List (Nat × Value)), (kc ≤ mc ∧ ks ≤ ms) → decode cL_law pc = .ok (.ireturn, 1) → (r0 = 0 ∨ r0 = 1) → vV p l e { frames := 16, cells := mc, slots := ms, locals := 648 } s m args below meth c A D 10 kc ks Q ([] ++ wX q0 qs qo qt qv qr qx ql ad qh cI cF cC cS cO u0) pc lv [.int r0]) : ∀ (n : Nat) (x1 : Int32) (x2 : Int32) (x3 : Int32) (u : vZ) (kc : Nat) (ks : Nat), (kc ≤ mc ∧ ks ≤ ms) → hf_L_law_262 mc ms L xs n x1 x2 x3 u kc ks = some (r0, u0) → vV p l e { frames := 16, cells := mc, slots := ms, locals := 648 } s m args below meth c A D 10 kc ks Q ([] ++ wX q0 qs qo qt qv qr qx ql ad qh cI cF cC cS cO u) 262 [(0, .ref b), (1, .ref (q0 0)), (2, .int x1), (3, .int x2), (4, .int x3)] [] := by
  intro n
  induction n with
  | zero => intro x1 x2 x3 u kc ks hkc h; rw [hf_L_law_262] at h; cases h
  | succ n ih =>
    intro x1 x2 x3 u kc ks hkc h
    rw [hf_L_law_262] at h
    refine vi_iload C 4 dL_law_262 rfl ?_
    refine vi_bipush (v := 14) C dL_law_264 (by decide) ?_
    refine vi_icmp_ge (tgt := 504) C dL_law_266 (by decide) (fun hc1 => ?_) (fun hc1 => ?_)
    · have h := ob_t h hc1
      refine vi_iload_n C 3 dL_law_504 rfl ?_
      refine vi_if_le (tgt := 512) C dL_law_505 (by decide) (fun hc2 => ?_) (fun hc2 => ?_)
      · have h := ob_t h hc2
        refine vi_iconst (v := 0) C dL_law_512 (by decide) ?_
        cases h
        exact RET (fun j => [].getD j 0) _ _ _ _ hkc dL_law_513 (by decide)
      · have h := ob_f h hc2
        refine vi_iconst (v := 1) C dL_law_508 (by decide) ?_
        refine vi_goto (tgt := 513) C dL_law_509 (by decide) ?_
        cases h
        exact RET (fun j => [].getD j 0) _ _ _ _ hkc dL_law_513 (by decide)
    · have h := ob_f h hc1
      refine vi_aload_n C 0 dL_law_269 rfl ?_
      refine vi_iload_n C 2 dL_law_270 rfl ?_
      obtain ⟨z3, hgz3, h⟩ := ob_bd h
      refine vi_w C (w' := ([] ++ []) ++ wX q0 qs qo qt qv qr qx ql ad qh cI cF cC cS cO u) rfl ?_
      refine vi_swp ?_
      refine g_ci C (g_runS (As := [.ref b, .int x1]) (rest := []) (w1 := ([] ++ wX q0 qs qo qt qv qr qx ql ad qh cI cF cC cS cO u)) (wc := []) (vC_s C hX hbl hbA) (hm_L_cell  (L := L) (xs := xs) (x1 := x1) (r0 := z3) (vC_s C hX hbl hbA).2.2.2.2.2.2.2.2.1 hgz3) 2 rfl tcL_cell tlL_244 ttL_cell tnL tdL_cell ⟨Nat.le_of_ble_eq_true rfl, Nat.le_of_ble_eq_true rfl⟩ hkc rfl (Nat.le_of_ble_eq_true rfl) dL_law_271 rfl) rfl (fun q4 => ?_)
      refine vi_swp ?_
      refine vi_w C (w' := ([] ++ wX q0 qs qo qt qv qr qx ql ad qh cI cF cC cS cO u)) rfl ?_
      refine vi_kk (kc1 := kc) (ks1 := ks) rfl rfl ?_
      refine vi_sipush (v := 255) C dL_law_274 (by decide) ?_
      refine vi_iand C dL_law_277 ?_
      obtain ⟨y5, ey5, h⟩ := ob_nm h
      refine vi_nmi ey5 ?_
      refine vi_istore (lv' := [(5, .int y5), (0, .ref b), (1, .ref (q0 0)), (2, .int x1), (3, .int x2), (4, .int x3)]) C dL_law_278 (by decide) rfl ?_
      obtain ⟨hz6, h⟩ := ob_ok h
      refine vi_new (ci := 8) (fs := [.int (0 : Int32)]) C inX8w tyX8 tyX8_ok tlcL_24 tinst_X8 tnX8 rfl (by decide +kernel) hz6.1 hz6.2 dL_law_280 (fun a7 => ?_)
      refine vi_swp ?_
      refine vi_w C (w' := ([(a7, .inr (8, [.int (0 : Int32)]))] ++ wX q0 qs qo qt qv qr qx ql ad qh cI cF cC cS cO u)) rfl ?_
      obtain ⟨kc8, ekc8, h⟩ := ob_nm h
      obtain ⟨ks9, eks9, h⟩ := ob_nm h
      refine vi_kk ekc8.symm eks9.symm ?_
      rw [← ekc8, ← eks9] at hz6
      refine vi_dup C dL_law_283 rfl ?_
      refine vi_aload_n C 1 dL_law_284 rfl ?_
      refine vi_iload_n C 3 dL_law_285 rfl ?_
      refine vi_iconst (v := 1) C dL_law_286 (by decide) ?_
      refine vi_iadd C dL_law_287 ?_
      obtain ⟨z10, hgz10, h⟩ := ob_bd h
      refine vi_w C (w' := ([(a7, .inr (8, [.int (0 : Int32)]))] ++ []) ++ wX q0 qs qo qt qv qr qx ql ad qh cI cF cC cS cO u) rfl ?_
      refine vi_swp ?_
      refine g_ci C (g_runS (As := [.ref b, .int (x1 + (1 : Int32))]) (rest := [.ref a7, .ref a7]) (w1 := ([(a7, .inr (8, [.int (0 : Int32)]))] ++ wX q0 qs qo qt qv qr qx ql ad qh cI cF cC cS cO u)) (wc := []) (vC_s C hX hbl hbA) (hm_L_cell  (L := L) (xs := xs) (x1 := (x1 + (1 : Int32))) (r0 := z10) (vC_s C hX hbl hbA).2.2.2.2.2.2.2.2.1 hgz10) 2 rfl tcL_cell tlL_244 ttL_cell tnL tdL_cell ⟨Nat.le_of_ble_eq_true rfl, Nat.le_of_ble_eq_true rfl⟩ hz6 rfl (Nat.le_of_ble_eq_true rfl) dL_law_288 rfl) rfl (fun q11 => ?_)
      refine vi_swp ?_
      refine vi_w C (w' := ([(a7, .inr (8, [.int (0 : Int32)]))] ++ wX q0 qs qo qt qv qr qx ql ad qh cI cF cC cS cO u)) rfl ?_
      refine vi_kk (kc1 := kc8) (ks1 := ks9) rfl rfl ?_
      obtain ⟨z12, hgz12, h⟩ := ob_bd h
      refine vi_w C (w' := ([] ++ [(a7, .inr (8, [.int (0 : Int32)]))]) ++ wX q0 qs qo qt qv qr qx ql ad qh cI cF cC cS cO u) rfl ?_
      refine vi_swp ?_
      refine g_cv C (g_runI (As := [.int z10]) (rest := [.ref a7]) (w1 := ([] ++ wX q0 qs qo qt qv qr qx ql ad qh cI cF cC cS cO u)) (wc := [(a7, .inr (8, [.int (0 : Int32)]))]) C (hm_X8_init (a0 := a7) (x1 := z10) (r_o1 := z12) C.2.2.2.2.2.2.2.2.1 hgz12) 1 rfl tcX8_init tlL_248 tiX8_init rfl tnX8 tdX8_init ⟨Nat.le_of_ble_eq_true rfl, Nat.le_of_ble_eq_true rfl⟩ hz6 rfl (Nat.le_of_ble_eq_true rfl) dL_law_291 rfl) rfl (fun q13 => ?_)
      refine vi_swp ?_
      refine vi_w C (w' := ([(a7, .inr (8, [.int z12]))] ++ wX q0 qs qo qt qv qr qx ql ad qh cI cF cC cS cO u)) rfl ?_
      refine vi_kk (kc1 := kc8) (ks1 := ks9) rfl rfl ?_
      refine vi_astore (lv' := [(6, .ref a7), (5, .int y5), (0, .ref b), (1, .ref (q0 0)), (2, .int x1), (3, .int x2), (4, .int x3)]) C dL_law_294 (by decide) rfl ?_
      obtain ⟨y14, ey14, h⟩ := ob_nm h
      refine vi_iinc (v := y14) (lv' := [(2, .int y14), (6, .ref a7), (5, .int y5), (0, .ref b), (1, .ref (q0 0)), (3, .int x2), (4, .int x3)]) C 4 dL_law_296 rfl (by rw [ey14]; rfl) (by decide) rfl ?_
      refine vi_aload_n C 4 dL_law_299 rfl ?_
      refine vi_bipush (v := 10) C dL_law_300 (by decide) ?_
      obtain ⟨y16, u15, hgu15, h⟩ := ob_p h
      refine cY_i (As := [.int (10 : Int32)]) (rest := []) (ud := u15) C 1 (mX7_account C.2.2.2.2.2.2.2.2.1 hgu15) 1 rfl tcX7_account tlL_37 tiX7_account tsX7_account rfl tnX7 tdX7_account ⟨Nat.le_of_ble_eq_true rfl, Nat.le_of_ble_eq_true rfl⟩ hz6 rfl rfl (Nat.le_of_ble_eq_true rfl) dL_law_302 ?_
      refine vi_istore (lv' := [(7, .int y16), (2, .int y14), (6, .ref a7), (5, .int y5), (0, .ref b), (1, .ref (q0 0)), (3, .int x2), (4, .int x3)]) C dL_law_305 (by decide) rfl ?_
      refine vi_aload_n C 5 dL_law_307 rfl ?_
      obtain ⟨hz17, h⟩ := ob_ok h
      obtain ⟨z18, hgz18, h⟩ := ob_bd h
      refine vi_w C (w' := [(a7, .inr (8, [.int z12]))] ++ ([] ++ wX q0 qs qo qt qv qr qx ql ad qh cI cF cC cS cO u15)) rfl ?_
      refine g_cr C (g_runS (As := [.ref (q0 0)]) (rest := []) (w1 := [(a7, .inr (8, [.int z12]))]) (wc := ([] ++ wX q0 qs qo qt qv qr qx ql ad qh cI cF cC cS cO u15)) C (hm_L_told  (mc := (2000)) (ms := (12000)) (r_n1 := z18.1) (r_g2 := z18.2.1) (u0 := z18.2.2) C.2.2.2.2.2.2.2.2.1 hgz18) 1 rfl tcL_told tlL_251 ttL_told tnL tdL_told ⟨Nat.le_of_ble_eq_true rfl, Nat.le_of_ble_eq_true rfl⟩ hz17 rfl (Nat.le_of_ble_eq_true rfl) dL_law_308 rfl) rfl (fun q19 => ?_)
      refine vi_w C (w' := ([(a7, .inr (8, [.int z12])), ((q19 0), .inr (0, [.ref (q19 1), .int (0 : Int32), .int (0 : Int32), .int (0 : Int32)])), ((q19 1), .inl (cB, z18.1, .inl (z18.2.1)))] ++ wX q0 qs qo qt qv qr qx ql ad qh cI cF cC cS cO z18.2.2)) rfl ?_
      obtain ⟨kc20, ekc20, h⟩ := ob_nm h
      obtain ⟨ks21, eks21, h⟩ := ob_nm h
      refine vi_kk ekc20.symm eks21.symm ?_
      rw [← ekc20, ← eks21] at hz17
      refine vi_astore (lv' := [(8, .ref (q19 0)), (7, .int y16), (2, .int y14), (6, .ref a7), (5, .int y5), (0, .ref b), (1, .ref (q0 0)), (3, .int x2), (4, .int x3)]) C dL_law_311 (by decide) rfl ?_
      refine vi_aload_n C 6 dL_law_313 rfl ?_
      refine vi_iload C 4 dL_law_314 rfl ?_
      refine vi_aload C 3 dL_law_316 rfl ?_
      obtain ⟨z22, hgz22, h⟩ := ob_bd h
      refine vi_pickX (ex2 := [((q19 0), .inr (0, [.ref (q19 1), .int (0 : Int32), .int (0 : Int32), .int (0 : Int32)])), ((q19 1), .inl (cB, z18.1, .inl (z18.2.1))), (a7, .inr (8, [.int z12]))]) [1, 2, 0] (by decide) rfl ?_
      refine vi_w C (w' := [((q19 0), .inr (0, [.ref (q19 1), .int (0 : Int32), .int (0 : Int32), .int (0 : Int32)])), ((q19 1), .inl (cB, z18.1, .inl (z18.2.1)))] ++ ([(a7, .inr (8, [.int z12]))] ++ wX q0 qs qo qt qv qr qx ql ad qh cI cF cC cS cO z18.2.2)) rfl ?_
      refine g_ci C (g_runS (As := [.ref (q0 0), .int y5, .ref a7]) (rest := []) (w1 := [((q19 0), .inr (0, [.ref (q19 1), .int (0 : Int32), .int (0 : Int32), .int (0 : Int32)])), ((q19 1), .inl (cB, z18.1, .inl (z18.2.1)))]) (wc := ([(a7, .inr (8, [.int z12]))] ++ wX q0 qs qo qt qv qr qx ql ad qh cI cF cC cS cO z18.2.2)) C (hm_L_acts (a0 := a7) (x1 := y5) (f0_0 := z12) (r0 := z22.1) (r_o1 := z22.2.1) (u0 := z22.2.2) C.2.2.2.2.2.2.2.2.1 hgz22) 3 rfl tcL_acts tlL_255 ttL_acts tnL tdL_acts ⟨Nat.le_of_ble_eq_true rfl, Nat.le_of_ble_eq_true rfl⟩ hz17 rfl (Nat.le_of_ble_eq_true rfl) dL_law_318 rfl) rfl (fun q23 => ?_)
      refine vi_w C (w' := ([((q19 0), .inr (0, [.ref (q19 1), .int (0 : Int32), .int (0 : Int32), .int (0 : Int32)])), ((q19 1), .inl (cB, z18.1, .inl (z18.2.1))), (a7, .inr (8, [.int (z22.2.1)]))] ++ wX q0 qs qo qt qv qr qx ql ad qh cI cF cC cS cO z22.2.2)) rfl ?_
      refine vi_kk (kc1 := kc20) (ks1 := ks21) rfl rfl ?_
      obtain ⟨y24, ey24, h⟩ := ob_nm h
      refine vi_nmi ey24 ?_
      refine vi_istore (lv' := [(9, .int y24), (8, .ref (q19 0)), (7, .int y16), (2, .int y14), (6, .ref a7), (5, .int y5), (0, .ref b), (1, .ref (q0 0)), (3, .int x2), (4, .int x3)]) C dL_law_321 (by decide) rfl ?_
      refine vi_iload C 0 dL_law_323 rfl ?_
      refine vi_ldc (v := (-100001)) C dL_law_325 tkL_166 ?_
      refine vi_icmp_gt (tgt := 344) C dL_law_327 (by decide) (fun hc25 => ?_) (fun hc25 => ?_)
      · have h := ob_t h hc25
        refine vi_sub C [6, 7, 3, 8, 9, 4, 2, 1, 0] rfl ?_
        refine vi_pickX (ex2 := [(a7, .inr (8, [.int (z22.2.1)])), ((q19 0), .inr (0, [.ref (q19 1), .int (0 : Int32), .int (0 : Int32), .int (0 : Int32)])), ((q19 1), .inl (cB, z18.1, .inl (z18.2.1)))]) [2, 0, 1] (by decide) rfl ?_
        exact hk_L_law_344 C hX hbl hbA RET ih  _ _ _ _ _ _ _ _ _ _ _ _ _ _ hz17 h
      · have h := ob_f h hc25
        refine vi_aload C 1 dL_law_330 rfl ?_
        refine vi_aload_n C 7 dL_law_332 rfl ?_
        obtain ⟨hz26, h⟩ := ob_ok h
        obtain ⟨z27, hgz27, h⟩ := ob_bd h
        refine vi_w C (w' := [((q19 0), .inr (0, [.ref (q19 1), .int (0 : Int32), .int (0 : Int32), .int (0 : Int32)])), ((q19 1), .inl (cB, z18.1, .inl (z18.2.1))), (a7, .inr (8, [.int (z22.2.1)]))] ++ ([] ++ wX q0 qs qo qt qv qr qx ql ad qh cI cF cC cS cO z22.2.2)) rfl ?_
        refine g_cr C (g_runS (As := [.ref (q0 0)]) (rest := [.ref (q19 0)]) (w1 := [((q19 0), .inr (0, [.ref (q19 1), .int (0 : Int32), .int (0 : Int32), .int (0 : Int32)])), ((q19 1), .inl (cB, z18.1, .inl (z18.2.1))), (a7, .inr (8, [.int (z22.2.1)]))]) (wc := ([] ++ wX q0 qs qo qt qv qr qx ql ad qh cI cF cC cS cO z22.2.2)) C (hm_L_told  (mc := (2000)) (ms := (12000)) (r_n1 := z27.1) (r_g2 := z27.2.1) (u0 := z27.2.2) C.2.2.2.2.2.2.2.2.1 hgz27) 1 rfl tcL_told tlL_251 ttL_told tnL tdL_told ⟨Nat.le_of_ble_eq_true rfl, Nat.le_of_ble_eq_true rfl⟩ hz26 rfl (Nat.le_of_ble_eq_true rfl) dL_law_333 rfl) rfl (fun q28 => ?_)
        refine vi_w C (w' := ([((q19 0), .inr (0, [.ref (q19 1), .int (0 : Int32), .int (0 : Int32), .int (0 : Int32)])), ((q19 1), .inl (cB, z18.1, .inl (z18.2.1))), (a7, .inr (8, [.int (z22.2.1)])), ((q28 0), .inr (0, [.ref (q28 1), .int (0 : Int32), .int (0 : Int32), .int (0 : Int32)])), ((q28 1), .inl (cB, z27.1, .inl (z27.2.1)))] ++ wX q0 qs qo qt qv qr qx ql ad qh cI cF cC cS cO z27.2.2)) rfl ?_
        obtain ⟨kc29, ekc29, h⟩ := ob_nm h
        obtain ⟨ks30, eks30, h⟩ := ob_nm h
        refine vi_kk ekc29.symm eks30.symm ?_
        rw [← ekc29, ← eks30] at hz26
        obtain ⟨z31, hgz31, h⟩ := ob_bd h
        refine vi_pickX (ex2 := [(a7, .inr (8, [.int (z22.2.1)])), ((q19 0), .inr (0, [.ref (q19 1), .int (0 : Int32), .int (0 : Int32), .int (0 : Int32)])), ((q19 1), .inl (cB, z18.1, .inl (z18.2.1))), ((q28 0), .inr (0, [.ref (q28 1), .int (0 : Int32), .int (0 : Int32), .int (0 : Int32)])), ((q28 1), .inl (cB, z27.1, .inl (z27.2.1)))]) [2, 0, 1, 3, 4] (by decide) rfl ?_
        refine vi_w C (w' := ([(a7, .inr (8, [.int (z22.2.1)]))] ++ [((q19 0), .inr (0, [.ref (q19 1), .int (0 : Int32), .int (0 : Int32), .int (0 : Int32)])), ((q19 1), .inl (cB, z18.1, .inl (z18.2.1))), ((q28 0), .inr (0, [.ref (q28 1), .int (0 : Int32), .int (0 : Int32), .int (0 : Int32)])), ((q28 1), .inl (cB, z27.1, .inl (z27.2.1)))]) ++ wX q0 qs qo qt qv qr qx ql ad qh cI cF cC cS cO z27.2.2) rfl ?_
        refine vi_swp ?_
        refine g_ci C (g_runV (T := TJ0) (N := 4) (ci := 0) (fs := [.ref (q19 1), .int (0 : Int32), .int (0 : Int32), .int (0 : Int32)]) (As := [.ref (q28 0)]) (rest := []) (w1 := ([(a7, .inr (8, [.int (z22.2.1)]))] ++ wX q0 qs qo qt qv qr qx ql ad qh cI cF cC cS cO z27.2.2)) (wc := [((q19 0), .inr (0, [.ref (q19 1), .int (0 : Int32), .int (0 : Int32), .int (0 : Int32)])), ((q19 1), .inl (cB, z18.1, .inl (z18.2.1))), ((q28 0), .inr (0, [.ref (q28 1), .int (0 : Int32), .int (0 : Int32), .int (0 : Int32)])), ((q28 1), .inl (cB, z27.1, .inl (z27.2.1)))]) C (hm_J0_equals_9ea2d (a0 := (q19 0)) (a1 := (q19 1)) (a2 := (q28 0)) (a3 := (q28 1)) (n1 := (z18.1)) (g1 := (z18.2.1)) (n3 := (z27.1)) (g3 := (z27.2.1)) (r0 := z31) C.2.2.2.2.2.2.2.2.1 hgz31) 1 rfl tcJ0_equals_9ea2d tlL_150 tiJ0_equals_9ea2d tsJ0_equals_9ea2d tnJ0 tdJ0_equals_9ea2d ⟨Nat.le_of_ble_eq_true rfl, Nat.le_of_ble_eq_true rfl⟩ hz26 (1 + 101 + 0) rfl rfl rfl (Nat.le_of_ble_eq_true rfl) dL_law_336 rfl) rfl (fun q32 => ?_)
        refine vi_swp ?_
        refine vi_w C (w' := ([(a7, .inr (8, [.int (z22.2.1)])), ((q19 0), .inr (0, [.ref (q19 1), .int (0 : Int32), .int (0 : Int32), .int (0 : Int32)])), ((q19 1), .inl (cB, z18.1, .inl (z18.2.1))), ((q28 0), .inr (0, [.ref (q28 1), .int (0 : Int32), .int (0 : Int32), .int (0 : Int32)])), ((q28 1), .inl (cB, z27.1, .inl (z27.2.1)))] ++ wX q0 qs qo qt qv qr qx ql ad qh cI cF cC cS cO z27.2.2)) rfl ?_
        refine vi_kk (kc1 := kc29) (ks1 := ks30) rfl rfl ?_
        refine vi_if_ne (tgt := 344) C dL_law_339 (by decide) (fun hc33 => ?_) (fun hc33 => ?_)
        · have h := ob_f h hc33
          refine vi_sub C [6, 7, 3, 8, 9, 4, 2, 1, 0] rfl ?_
          refine vi_pickX (ex2 := [(a7, .inr (8, [.int (z22.2.1)])), ((q19 0), .inr (0, [.ref (q19 1), .int (0 : Int32), .int (0 : Int32), .int (0 : Int32)])), ((q19 1), .inl (cB, z18.1, .inl (z18.2.1)))]) [0, 1, 2] (by decide) rfl ?_
          exact hk_L_law_344 C hX hbl hbA RET ih  _ _ _ _ _ _ _ _ _ _ _ _ _ _ hz26 h
        · have h := ob_t h hc33
          refine vi_iconst (v := 0) C dL_law_342 (by decide) ?_
          refine vi_pickX (ex2 := []) [] (by decide) rfl ?_
          cases h
          exact RET (fun j => [].getD j 0) _ _ _ _ hz26 dL_law_343 (by decide)
def hf_L_law (mc : Nat) (ms : Nat) (L : Nat) (xs : Nat → Int32) (u : vZ) : Option (Int32 × vZ) := obp (fX7_undo u) fun y2 u1 => (if y2 = (-100003 : Int32) then obp (fX7_restore u1) fun y5 u4 => (if y5 = (-100003 : Int32) then obp (fX7_reason (0 : Int32) (0 : Int32) u4) fun y8 u7 => (if y8 = (-100003 : Int32) then obp (fX7_reason (2 : Int32) (0 : Int32) u7) fun y11 u10 => (if y11 = (-100002 : Int32) then obp (fX7_fault u10) fun y14 u13 => (if y14 = (-100003 : Int32) then obp (fX7_read u13) fun y17 u16 => (if y17 = (-100002 : Int32) then obp (fX7_fault u16) fun y20 u19 => (if y20 = 0 then obp (fX7_written (0 : Int32) u19) fun y23 u22 => (if y23 = (-100001 : Int32) then obp (fX7_sail (65536 : Int32) u22) fun y26 u25 => (if y26 = (-100002 : Int32) then obp (fX7_shore (0 : Int32) u25) fun y29 u28 => (if y29 = (-100001 : Int32) then obp (fX7_sight (0 : Int32) u28) fun y32 u31 => (if y32 = (-100001 : Int32) then obp (fX7_watch (0 : Int32) (0 : Int32) u31) fun y35 u34 => (if y35 = (-100001 : Int32) then obp (fX7_horizon (0 : Int32) (4 : Int32) u34) fun y38 u37 => (if y38 = (-100005 : Int32) then obp (fX7_reason (0 : Int32) (0 : Int32) u37) fun y41 u40 => (if y41 = (2 : Int32) then obp (fX7_reason (0 : Int32) (1 : Int32) u40) fun y44 u43 => (if y44 = (4 : Int32) then obp (fX7_reason (1 : Int32) (0 : Int32) u43) fun y47 u46 => (if y47 = (-100006 : Int32) then obp (fX7_horizon (4 : Int32) (0 : Int32) u46) fun y50 u49 => (if y50 = (-100001 : Int32) then obp (fX7_error (4 : Int32) u49) fun y53 u52 => (if y53 = (-100002 : Int32) then obp (fX7_error (0 : Int32) u52) fun y56 u55 => (if y56 = (-100005 : Int32) then obp (fX7_reason (0 : Int32) (1 : Int32) u55) fun y59 u58 => (if y59 = 0 then obp (fX7_packed u58) fun y62 u61 => (if lg_cmp y62 (0 : Int64) = 0 then obp (fX7_meanAngle u61) fun y65 u64 => (if Op.cmpValue (FP.dcmp y65 (FP.dconst0)) CmpOp.l = 0 then obp (fX7_messes u64) fun y68 u67 => (if y68 = 0 then obp (fX7_account (11 : Int32) u67) fun y71 u70 => (if y71 = (-100002 : Int32) then obp (fX7_isCounted u70) fun y74 u73 => (if y74 = 0 then some ((0 : Int32), u73) else (hf_L_stock u73).bind fun z76 => bd ((z76.1 : Int32)) fun y78 => hf_L_law_262 mc ms L xs vF (0 : Int32) y78 (0 : Int32) z76.2 (101) (1084)) else some ((0 : Int32), u70)) else some ((0 : Int32), u67)) else some ((0 : Int32), u64)) else some ((0 : Int32), u61)) else some ((0 : Int32), u58)) else some ((0 : Int32), u55)) else some ((0 : Int32), u52)) else some ((0 : Int32), u49)) else some ((0 : Int32), u46)) else some ((0 : Int32), u43)) else some ((0 : Int32), u40)) else some ((0 : Int32), u37)) else some ((0 : Int32), u34)) else some ((0 : Int32), u31)) else some ((0 : Int32), u28)) else some ((0 : Int32), u25)) else some ((0 : Int32), u22)) else some ((0 : Int32), u19)) else some ((0 : Int32), u16)) else some ((0 : Int32), u13)) else some ((0 : Int32), u10)) else some ((0 : Int32), u7)) else some ((0 : Int32), u4)) else some ((0 : Int32), u1))
set_option maxRecDepth 100000 in
set_option maxHeartbeats 4000000 in
theorem hk_L_law_e {ad adK adV : Nat → Nat} {tS tF : Nat} {tX sK sV : Nat → Nat} {p : Program} {l : Launch} {e : Env} {s : State} {m : MethodId} {args : Array Value} {below : List Frame} {meth : Method} {c : Code} {A : Nat → Prop} {D : va_G} {cI cF cC cS cO cB cZ : ClassId} {Q : State → Prop} {q0 qs qo qt qv qr qx ql : Nat → Nat} {qh : Nat → Nat → Nat} {mc : Nat} {ms : Nat} {L : Nat} {xs : Nat → Int32} {b : Nat} (C : vC (vE ad adK adV tS tF tX sK sV) p l s m args meth c A D (vT7 cI cF cC cS cO cB cZ) cL_law 10 RL) (hX : va_X b L xs s s.heap) (hbl : b < s.heap.size) (hbA : ¬ A b) {r0 : Int32} {u0 : vZ} (RET : ∀ (q : Nat → Nat) (kc ks : Nat) (pc : Nat) (lv : List (Nat × Value)), (kc ≤ mc ∧ ks ≤ ms) → decode cL_law pc = .ok (.ireturn, 1) → (r0 = 0 ∨ r0 = 1) → vV p l e { frames := 16, cells := mc, slots := ms, locals := 648 } s m args below meth c A D 10 kc ks Q ([] ++ wX q0 qs qo qt qv qr qx ql ad qh cI cF cC cS cO u0) pc lv [.int r0]) {u : vZ} (hk0 : 101 ≤ mc ∧ 1084 ≤ ms) (h : hf_L_law mc ms L xs u = some (r0, u0)) : vV p l e { frames := 16, cells := mc, slots := ms, locals := 648 } s m args below meth c A D 10 (101) (1084) Q ([] ++ wX q0 qs qo qt qv qr qx ql ad qh cI cF cC cS cO u) 8 [(1, .ref (q0 0)), (0, .ref b)] [] := by
  rw [hf_L_law] at h
  refine vi_iconst (v := 0) C dL_law_8 (by decide) ?_
  refine vi_istore_n (lv' := [(2, .int (0 : Int32)), (1, .ref (q0 0)), (0, .ref b)]) C dL_law_9 rfl (by decide) rfl ?_
  refine vi_aload_n C 1 dL_law_10 rfl ?_
  obtain ⟨y2, u1, hgu1, h⟩ := ob_p h
  refine cY_i (As := []) (rest := []) (ud := u1) C 0 (mX7_undo C.2.2.2.2.2.2.2.2.1 hgu1) 0 rfl tcX7_undo tlL_224 tiX7_undo tsX7_undo rfl tnX7 tdX7_undo ⟨Nat.le_of_ble_eq_true rfl, Nat.le_of_ble_eq_true rfl⟩ hk0 rfl rfl (Nat.le_of_ble_eq_true rfl) dL_law_11 ?_
  refine vi_ldc (v := (-100003)) C dL_law_14 tkL_227 ?_
  refine vi_icmp_ne (tgt := 252) C dL_law_16 (by decide) (fun hc3 => ?_) (fun hc3 => ?_)
  · have h := ob_f h hc3
    refine vi_iconst (v := 0) C dL_law_252 (by decide) ?_
    cases h
    exact RET (fun j => [].getD j 0) _ _ _ _ hk0 dL_law_253 (by decide)
  · have h := ob_t h hc3
    refine vi_aload_n C 1 dL_law_19 rfl ?_
    obtain ⟨y5, u4, hgu4, h⟩ := ob_p h
    refine cY_i (As := []) (rest := []) (ud := u4) C 0 (mX7_restore C.2.2.2.2.2.2.2.2.1 hgu4) 0 rfl tcX7_restore tlL_220 tiX7_restore tsX7_restore rfl tnX7 tdX7_restore ⟨Nat.le_of_ble_eq_true rfl, Nat.le_of_ble_eq_true rfl⟩ hk0 rfl rfl (Nat.le_of_ble_eq_true rfl) dL_law_20 ?_
    refine vi_ldc (v := (-100003)) C dL_law_23 tkL_227 ?_
    refine vi_icmp_ne (tgt := 252) C dL_law_25 (by decide) (fun hc6 => ?_) (fun hc6 => ?_)
    · have h := ob_f h hc6
      refine vi_iconst (v := 0) C dL_law_252 (by decide) ?_
      cases h
      exact RET (fun j => [].getD j 0) _ _ _ _ hk0 dL_law_253 (by decide)
    · have h := ob_t h hc6
      refine vi_aload_n C 1 dL_law_28 rfl ?_
      refine vi_iconst (v := 0) C dL_law_29 (by decide) ?_
      refine vi_iconst (v := 0) C dL_law_30 (by decide) ?_
      obtain ⟨y8, u7, hgu7, h⟩ := ob_p h
      refine cY_i (As := [.int (0 : Int32), .int (0 : Int32)]) (rest := []) (ud := u7) C 0 (mX7_reason C.2.2.2.2.2.2.2.2.1 hgu7) 2 rfl tcX7_reason tlL_228 tiX7_reason tsX7_reason rfl tnX7 tdX7_reason ⟨Nat.le_of_ble_eq_true rfl, Nat.le_of_ble_eq_true rfl⟩ hk0 rfl rfl (Nat.le_of_ble_eq_true rfl) dL_law_31 ?_
      refine vi_ldc (v := (-100003)) C dL_law_34 tkL_227 ?_
      refine vi_icmp_ne (tgt := 252) C dL_law_36 (by decide) (fun hc9 => ?_) (fun hc9 => ?_)
      · have h := ob_f h hc9
        refine vi_iconst (v := 0) C dL_law_252 (by decide) ?_
        cases h
        exact RET (fun j => [].getD j 0) _ _ _ _ hk0 dL_law_253 (by decide)
      · have h := ob_t h hc9
        refine vi_aload_n C 1 dL_law_39 rfl ?_
        refine vi_iconst (v := 2) C dL_law_40 (by decide) ?_
        refine vi_iconst (v := 0) C dL_law_41 (by decide) ?_
        obtain ⟨y11, u10, hgu10, h⟩ := ob_p h
        refine cY_i (As := [.int (2 : Int32), .int (0 : Int32)]) (rest := []) (ud := u10) C 0 (mX7_reason C.2.2.2.2.2.2.2.2.1 hgu10) 2 rfl tcX7_reason tlL_228 tiX7_reason tsX7_reason rfl tnX7 tdX7_reason ⟨Nat.le_of_ble_eq_true rfl, Nat.le_of_ble_eq_true rfl⟩ hk0 rfl rfl (Nat.le_of_ble_eq_true rfl) dL_law_42 ?_
        refine vi_ldc (v := (-100002)) C dL_law_45 tkL_232 ?_
        refine vi_icmp_ne (tgt := 252) C dL_law_47 (by decide) (fun hc12 => ?_) (fun hc12 => ?_)
        · have h := ob_f h hc12
          refine vi_iconst (v := 0) C dL_law_252 (by decide) ?_
          cases h
          exact RET (fun j => [].getD j 0) _ _ _ _ hk0 dL_law_253 (by decide)
        · have h := ob_t h hc12
          refine vi_aload_n C 1 dL_law_50 rfl ?_
          obtain ⟨y14, u13, hgu13, h⟩ := ob_p h
          refine cY_i (As := []) (rest := []) (ud := u13) C 0 (mX7_fault C.2.2.2.2.2.2.2.2.1 hgu13) 0 rfl tcX7_fault tlL_233 tiX7_fault tsX7_fault rfl tnX7 tdX7_fault ⟨Nat.le_of_ble_eq_true rfl, Nat.le_of_ble_eq_true rfl⟩ hk0 rfl rfl (Nat.le_of_ble_eq_true rfl) dL_law_51 ?_
          refine vi_ldc (v := (-100003)) C dL_law_54 tkL_227 ?_
          refine vi_icmp_ne (tgt := 252) C dL_law_56 (by decide) (fun hc15 => ?_) (fun hc15 => ?_)
          · have h := ob_f h hc15
            refine vi_iconst (v := 0) C dL_law_252 (by decide) ?_
            cases h
            exact RET (fun j => [].getD j 0) _ _ _ _ hk0 dL_law_253 (by decide)
          · have h := ob_t h hc15
            refine vi_aload_n C 1 dL_law_59 rfl ?_
            obtain ⟨y17, u16, hgu16, h⟩ := ob_p h
            refine cY_i (As := []) (rest := []) (ud := u16) C 0 (mX7_read C.2.2.2.2.2.2.2.2.1 hgu16) 0 rfl tcX7_read tlL_236 tiX7_read tsX7_read rfl tnX7 tdX7_read ⟨Nat.le_of_ble_eq_true rfl, Nat.le_of_ble_eq_true rfl⟩ hk0 rfl rfl (Nat.le_of_ble_eq_true rfl) dL_law_60 ?_
            refine vi_ldc (v := (-100002)) C dL_law_63 tkL_232 ?_
            refine vi_icmp_ne (tgt := 252) C dL_law_65 (by decide) (fun hc18 => ?_) (fun hc18 => ?_)
            · have h := ob_f h hc18
              refine vi_iconst (v := 0) C dL_law_252 (by decide) ?_
              cases h
              exact RET (fun j => [].getD j 0) _ _ _ _ hk0 dL_law_253 (by decide)
            · have h := ob_t h hc18
              refine vi_aload_n C 1 dL_law_68 rfl ?_
              obtain ⟨y20, u19, hgu19, h⟩ := ob_p h
              refine cY_i (As := []) (rest := []) (ud := u19) C 0 (mX7_fault C.2.2.2.2.2.2.2.2.1 hgu19) 0 rfl tcX7_fault tlL_233 tiX7_fault tsX7_fault rfl tnX7 tdX7_fault ⟨Nat.le_of_ble_eq_true rfl, Nat.le_of_ble_eq_true rfl⟩ hk0 rfl rfl (Nat.le_of_ble_eq_true rfl) dL_law_69 ?_
              refine vi_if_ne (tgt := 252) C dL_law_72 (by decide) (fun hc21 => ?_) (fun hc21 => ?_)
              · have h := ob_f h hc21
                refine vi_iconst (v := 0) C dL_law_252 (by decide) ?_
                cases h
                exact RET (fun j => [].getD j 0) _ _ _ _ hk0 dL_law_253 (by decide)
              · have h := ob_t h hc21
                refine vi_aload_n C 1 dL_law_75 rfl ?_
                refine vi_iconst (v := 0) C dL_law_76 (by decide) ?_
                obtain ⟨y23, u22, hgu22, h⟩ := ob_p h
                refine cY_i (As := [.int (0 : Int32)]) (rest := []) (ud := u22) C 0 (mX7_written C.2.2.2.2.2.2.2.2.1 hgu22) 1 rfl tcX7_written tlL_80 tiX7_written tsX7_written rfl tnX7 tdX7_written ⟨Nat.le_of_ble_eq_true rfl, Nat.le_of_ble_eq_true rfl⟩ hk0 rfl rfl (Nat.le_of_ble_eq_true rfl) dL_law_77 ?_
                refine vi_ldc (v := (-100001)) C dL_law_80 tkL_166 ?_
                refine vi_icmp_ne (tgt := 252) C dL_law_82 (by decide) (fun hc24 => ?_) (fun hc24 => ?_)
                · have h := ob_f h hc24
                  refine vi_iconst (v := 0) C dL_law_252 (by decide) ?_
                  cases h
                  exact RET (fun j => [].getD j 0) _ _ _ _ hk0 dL_law_253 (by decide)
                · have h := ob_t h hc24
                  refine vi_aload_n C 1 dL_law_85 rfl ?_
                  refine vi_ldc (v := 65536) C dL_law_86 tkL_35 ?_
                  obtain ⟨y26, u25, hgu25, h⟩ := ob_p h
                  refine cY_i (As := [.int (65536 : Int32)]) (rest := []) (ud := u25) C 0 (mX7_sail C.2.2.2.2.2.2.2.2.1 hgu25) 1 rfl tcX7_sail tlL_50 tiX7_sail tsX7_sail rfl tnX7 tdX7_sail ⟨Nat.le_of_ble_eq_true rfl, Nat.le_of_ble_eq_true rfl⟩ hk0 rfl rfl (Nat.le_of_ble_eq_true rfl) dL_law_88 ?_
                  refine vi_ldc (v := (-100002)) C dL_law_91 tkL_232 ?_
                  refine vi_icmp_ne (tgt := 252) C dL_law_93 (by decide) (fun hc27 => ?_) (fun hc27 => ?_)
                  · have h := ob_f h hc27
                    refine vi_iconst (v := 0) C dL_law_252 (by decide) ?_
                    cases h
                    exact RET (fun j => [].getD j 0) _ _ _ _ hk0 dL_law_253 (by decide)
                  · have h := ob_t h hc27
                    refine vi_aload_n C 1 dL_law_96 rfl ?_
                    refine vi_iconst (v := 0) C dL_law_97 (by decide) ?_
                    obtain ⟨y29, u28, hgu28, h⟩ := ob_p h
                    refine cY_i (As := [.int (0 : Int32)]) (rest := []) (ud := u28) C 0 (mX7_shore C.2.2.2.2.2.2.2.2.1 hgu28) 1 rfl tcX7_shore tlL_53 tiX7_shore tsX7_shore rfl tnX7 tdX7_shore ⟨Nat.le_of_ble_eq_true rfl, Nat.le_of_ble_eq_true rfl⟩ hk0 rfl rfl (Nat.le_of_ble_eq_true rfl) dL_law_98 ?_
                    refine vi_ldc (v := (-100001)) C dL_law_101 tkL_166 ?_
                    refine vi_icmp_ne (tgt := 252) C dL_law_103 (by decide) (fun hc30 => ?_) (fun hc30 => ?_)
                    · have h := ob_f h hc30
                      refine vi_iconst (v := 0) C dL_law_252 (by decide) ?_
                      cases h
                      exact RET (fun j => [].getD j 0) _ _ _ _ hk0 dL_law_253 (by decide)
                    · have h := ob_t h hc30
                      refine vi_aload_n C 1 dL_law_106 rfl ?_
                      refine vi_iconst (v := 0) C dL_law_107 (by decide) ?_
                      obtain ⟨y32, u31, hgu31, h⟩ := ob_p h
                      refine cY_i (As := [.int (0 : Int32)]) (rest := []) (ud := u31) C 0 (mX7_sight C.2.2.2.2.2.2.2.2.1 hgu31) 1 rfl tcX7_sight tlL_71 tiX7_sight tsX7_sight rfl tnX7 tdX7_sight ⟨Nat.le_of_ble_eq_true rfl, Nat.le_of_ble_eq_true rfl⟩ hk0 rfl rfl (Nat.le_of_ble_eq_true rfl) dL_law_108 ?_
                      refine vi_ldc (v := (-100001)) C dL_law_111 tkL_166 ?_
                      refine vi_icmp_ne (tgt := 252) C dL_law_113 (by decide) (fun hc33 => ?_) (fun hc33 => ?_)
                      · have h := ob_f h hc33
                        refine vi_iconst (v := 0) C dL_law_252 (by decide) ?_
                        cases h
                        exact RET (fun j => [].getD j 0) _ _ _ _ hk0 dL_law_253 (by decide)
                      · have h := ob_t h hc33
                        refine vi_aload_n C 1 dL_law_116 rfl ?_
                        refine vi_iconst (v := 0) C dL_law_117 (by decide) ?_
                        refine vi_iconst (v := 0) C dL_law_118 (by decide) ?_
                        obtain ⟨y35, u34, hgu34, h⟩ := ob_p h
                        refine cY_i (As := [.int (0 : Int32), .int (0 : Int32)]) (rest := []) (ud := u34) C 0 (mX7_watch C.2.2.2.2.2.2.2.2.1 hgu34) 2 rfl tcX7_watch tlL_62 tiX7_watch tsX7_watch rfl tnX7 tdX7_watch ⟨Nat.le_of_ble_eq_true rfl, Nat.le_of_ble_eq_true rfl⟩ hk0 rfl rfl (Nat.le_of_ble_eq_true rfl) dL_law_119 ?_
                        refine vi_ldc (v := (-100001)) C dL_law_122 tkL_166 ?_
                        refine vi_icmp_ne (tgt := 252) C dL_law_124 (by decide) (fun hc36 => ?_) (fun hc36 => ?_)
                        · have h := ob_f h hc36
                          refine vi_iconst (v := 0) C dL_law_252 (by decide) ?_
                          cases h
                          exact RET (fun j => [].getD j 0) _ _ _ _ hk0 dL_law_253 (by decide)
                        · have h := ob_t h hc36
                          refine vi_aload_n C 1 dL_law_127 rfl ?_
                          refine vi_iconst (v := 0) C dL_law_128 (by decide) ?_
                          refine vi_iconst (v := 4) C dL_law_129 (by decide) ?_
                          obtain ⟨y38, u37, hgu37, h⟩ := ob_p h
                          refine cY_i (As := [.int (0 : Int32), .int (4 : Int32)]) (rest := []) (ud := u37) C 0 (mX7_horizon C.2.2.2.2.2.2.2.2.1 hgu37) 2 rfl tcX7_horizon tlL_65 tiX7_horizon tsX7_horizon rfl tnX7 tdX7_horizon ⟨Nat.le_of_ble_eq_true rfl, Nat.le_of_ble_eq_true rfl⟩ hk0 rfl rfl (Nat.le_of_ble_eq_true rfl) dL_law_130 ?_
                          refine vi_ldc (v := (-100005)) C dL_law_133 tkL_239 ?_
                          refine vi_icmp_ne (tgt := 252) C dL_law_135 (by decide) (fun hc39 => ?_) (fun hc39 => ?_)
                          · have h := ob_f h hc39
                            refine vi_iconst (v := 0) C dL_law_252 (by decide) ?_
                            cases h
                            exact RET (fun j => [].getD j 0) _ _ _ _ hk0 dL_law_253 (by decide)
                          · have h := ob_t h hc39
                            refine vi_aload_n C 1 dL_law_138 rfl ?_
                            refine vi_iconst (v := 0) C dL_law_139 (by decide) ?_
                            refine vi_iconst (v := 0) C dL_law_140 (by decide) ?_
                            obtain ⟨y41, u40, hgu40, h⟩ := ob_p h
                            refine cY_i (As := [.int (0 : Int32), .int (0 : Int32)]) (rest := []) (ud := u40) C 0 (mX7_reason C.2.2.2.2.2.2.2.2.1 hgu40) 2 rfl tcX7_reason tlL_228 tiX7_reason tsX7_reason rfl tnX7 tdX7_reason ⟨Nat.le_of_ble_eq_true rfl, Nat.le_of_ble_eq_true rfl⟩ hk0 rfl rfl (Nat.le_of_ble_eq_true rfl) dL_law_141 ?_
                            refine vi_iconst (v := 2) C dL_law_144 (by decide) ?_
                            refine vi_icmp_ne (tgt := 252) C dL_law_145 (by decide) (fun hc42 => ?_) (fun hc42 => ?_)
                            · have h := ob_f h hc42
                              refine vi_iconst (v := 0) C dL_law_252 (by decide) ?_
                              cases h
                              exact RET (fun j => [].getD j 0) _ _ _ _ hk0 dL_law_253 (by decide)
                            · have h := ob_t h hc42
                              refine vi_aload_n C 1 dL_law_148 rfl ?_
                              refine vi_iconst (v := 0) C dL_law_149 (by decide) ?_
                              refine vi_iconst (v := 1) C dL_law_150 (by decide) ?_
                              obtain ⟨y44, u43, hgu43, h⟩ := ob_p h
                              refine cY_i (As := [.int (0 : Int32), .int (1 : Int32)]) (rest := []) (ud := u43) C 0 (mX7_reason C.2.2.2.2.2.2.2.2.1 hgu43) 2 rfl tcX7_reason tlL_228 tiX7_reason tsX7_reason rfl tnX7 tdX7_reason ⟨Nat.le_of_ble_eq_true rfl, Nat.le_of_ble_eq_true rfl⟩ hk0 rfl rfl (Nat.le_of_ble_eq_true rfl) dL_law_151 ?_
                              refine vi_iconst (v := 4) C dL_law_154 (by decide) ?_
                              refine vi_icmp_ne (tgt := 252) C dL_law_155 (by decide) (fun hc45 => ?_) (fun hc45 => ?_)
                              · have h := ob_f h hc45
                                refine vi_iconst (v := 0) C dL_law_252 (by decide) ?_
                                cases h
                                exact RET (fun j => [].getD j 0) _ _ _ _ hk0 dL_law_253 (by decide)
                              · have h := ob_t h hc45
                                refine vi_aload_n C 1 dL_law_158 rfl ?_
                                refine vi_iconst (v := 1) C dL_law_159 (by decide) ?_
                                refine vi_iconst (v := 0) C dL_law_160 (by decide) ?_
                                obtain ⟨y47, u46, hgu46, h⟩ := ob_p h
                                refine cY_i (As := [.int (1 : Int32), .int (0 : Int32)]) (rest := []) (ud := u46) C 0 (mX7_reason C.2.2.2.2.2.2.2.2.1 hgu46) 2 rfl tcX7_reason tlL_228 tiX7_reason tsX7_reason rfl tnX7 tdX7_reason ⟨Nat.le_of_ble_eq_true rfl, Nat.le_of_ble_eq_true rfl⟩ hk0 rfl rfl (Nat.le_of_ble_eq_true rfl) dL_law_161 ?_
                                refine vi_ldc (v := (-100006)) C dL_law_164 tkL_181 ?_
                                refine vi_icmp_ne (tgt := 252) C dL_law_166 (by decide) (fun hc48 => ?_) (fun hc48 => ?_)
                                · have h := ob_f h hc48
                                  refine vi_iconst (v := 0) C dL_law_252 (by decide) ?_
                                  cases h
                                  exact RET (fun j => [].getD j 0) _ _ _ _ hk0 dL_law_253 (by decide)
                                · have h := ob_t h hc48
                                  refine vi_aload_n C 1 dL_law_169 rfl ?_
                                  refine vi_iconst (v := 4) C dL_law_170 (by decide) ?_
                                  refine vi_iconst (v := 0) C dL_law_171 (by decide) ?_
                                  obtain ⟨y50, u49, hgu49, h⟩ := ob_p h
                                  refine cY_i (As := [.int (4 : Int32), .int (0 : Int32)]) (rest := []) (ud := u49) C 0 (mX7_horizon C.2.2.2.2.2.2.2.2.1 hgu49) 2 rfl tcX7_horizon tlL_65 tiX7_horizon tsX7_horizon rfl tnX7 tdX7_horizon ⟨Nat.le_of_ble_eq_true rfl, Nat.le_of_ble_eq_true rfl⟩ hk0 rfl rfl (Nat.le_of_ble_eq_true rfl) dL_law_172 ?_
                                  refine vi_ldc (v := (-100001)) C dL_law_175 tkL_166 ?_
                                  refine vi_icmp_ne (tgt := 252) C dL_law_177 (by decide) (fun hc51 => ?_) (fun hc51 => ?_)
                                  · have h := ob_f h hc51
                                    refine vi_iconst (v := 0) C dL_law_252 (by decide) ?_
                                    cases h
                                    exact RET (fun j => [].getD j 0) _ _ _ _ hk0 dL_law_253 (by decide)
                                  · have h := ob_t h hc51
                                    refine vi_aload_n C 1 dL_law_180 rfl ?_
                                    refine vi_iconst (v := 4) C dL_law_181 (by decide) ?_
                                    obtain ⟨y53, u52, hgu52, h⟩ := ob_p h
                                    refine cY_i (As := [.int (4 : Int32)]) (rest := []) (ud := u52) C 0 (mX7_error C.2.2.2.2.2.2.2.2.1 hgu52) 1 rfl tcX7_error tlL_68 tiX7_error tsX7_error rfl tnX7 tdX7_error ⟨Nat.le_of_ble_eq_true rfl, Nat.le_of_ble_eq_true rfl⟩ hk0 rfl rfl (Nat.le_of_ble_eq_true rfl) dL_law_182 ?_
                                    refine vi_ldc (v := (-100002)) C dL_law_185 tkL_232 ?_
                                    refine vi_icmp_ne (tgt := 252) C dL_law_187 (by decide) (fun hc54 => ?_) (fun hc54 => ?_)
                                    · have h := ob_f h hc54
                                      refine vi_iconst (v := 0) C dL_law_252 (by decide) ?_
                                      cases h
                                      exact RET (fun j => [].getD j 0) _ _ _ _ hk0 dL_law_253 (by decide)
                                    · have h := ob_t h hc54
                                      refine vi_aload_n C 1 dL_law_190 rfl ?_
                                      refine vi_iconst (v := 0) C dL_law_191 (by decide) ?_
                                      obtain ⟨y56, u55, hgu55, h⟩ := ob_p h
                                      refine cY_i (As := [.int (0 : Int32)]) (rest := []) (ud := u55) C 0 (mX7_error C.2.2.2.2.2.2.2.2.1 hgu55) 1 rfl tcX7_error tlL_68 tiX7_error tsX7_error rfl tnX7 tdX7_error ⟨Nat.le_of_ble_eq_true rfl, Nat.le_of_ble_eq_true rfl⟩ hk0 rfl rfl (Nat.le_of_ble_eq_true rfl) dL_law_192 ?_
                                      refine vi_ldc (v := (-100005)) C dL_law_195 tkL_239 ?_
                                      refine vi_icmp_ne (tgt := 252) C dL_law_197 (by decide) (fun hc57 => ?_) (fun hc57 => ?_)
                                      · have h := ob_f h hc57
                                        refine vi_iconst (v := 0) C dL_law_252 (by decide) ?_
                                        cases h
                                        exact RET (fun j => [].getD j 0) _ _ _ _ hk0 dL_law_253 (by decide)
                                      · have h := ob_t h hc57
                                        refine vi_aload_n C 1 dL_law_200 rfl ?_
                                        refine vi_iconst (v := 0) C dL_law_201 (by decide) ?_
                                        refine vi_iconst (v := 1) C dL_law_202 (by decide) ?_
                                        obtain ⟨y59, u58, hgu58, h⟩ := ob_p h
                                        refine cY_i (As := [.int (0 : Int32), .int (1 : Int32)]) (rest := []) (ud := u58) C 0 (mX7_reason C.2.2.2.2.2.2.2.2.1 hgu58) 2 rfl tcX7_reason tlL_228 tiX7_reason tsX7_reason rfl tnX7 tdX7_reason ⟨Nat.le_of_ble_eq_true rfl, Nat.le_of_ble_eq_true rfl⟩ hk0 rfl rfl (Nat.le_of_ble_eq_true rfl) dL_law_203 ?_
                                        refine vi_if_ne (tgt := 252) C dL_law_206 (by decide) (fun hc60 => ?_) (fun hc60 => ?_)
                                        · have h := ob_f h hc60
                                          refine vi_iconst (v := 0) C dL_law_252 (by decide) ?_
                                          cases h
                                          exact RET (fun j => [].getD j 0) _ _ _ _ hk0 dL_law_253 (by decide)
                                        · have h := ob_t h hc60
                                          refine vi_aload_n C 1 dL_law_209 rfl ?_
                                          obtain ⟨y62, u61, hgu61, h⟩ := ob_p h
                                          refine cY_l (As := []) (rest := []) (ud := u61) C 0 (mX7_packed C.2.2.2.2.2.2.2.2.1 hgu61) 0 rfl tcX7_packed tlL_158 tiX7_packed tsX7_packed rfl tnX7 tdX7_packed ⟨Nat.le_of_ble_eq_true rfl, Nat.le_of_ble_eq_true rfl⟩ hk0 rfl rfl (Nat.le_of_ble_eq_true rfl) dL_law_210 ?_
                                          refine vi_lconst (v := 0) C dL_law_213 (by decide) ?_
                                          refine vi_lcmp C dL_law_214 ?_
                                          refine vi_if_ne (tgt := 252) C dL_law_215 (by decide) (fun hc63 => ?_) (fun hc63 => ?_)
                                          · have h := ob_f h hc63
                                            refine vi_iconst (v := 0) C dL_law_252 (by decide) ?_
                                            cases h
                                            exact RET (fun j => [].getD j 0) _ _ _ _ hk0 dL_law_253 (by decide)
                                          · have h := ob_t h hc63
                                            refine vi_aload_n C 1 dL_law_218 rfl ?_
                                            obtain ⟨y65, u64, hgu64, h⟩ := ob_p h
                                            refine cY_d (As := []) (rest := []) (ud := u64) C 0 (mX7_meanAngle C.2.2.2.2.2.2.2.2.1 hgu64) 0 rfl tcX7_meanAngle tlL_154 tiX7_meanAngle tsX7_meanAngle rfl tnX7 tdX7_meanAngle ⟨Nat.le_of_ble_eq_true rfl, Nat.le_of_ble_eq_true rfl⟩ hk0 rfl rfl (Nat.le_of_ble_eq_true rfl) dL_law_219 ?_
                                            refine vi_dconst0 C dL_law_222 ?_
                                            refine vi_dcmp C dL_law_223 ?_
                                            refine vi_if_ne (tgt := 252) C dL_law_224 (by decide) (fun hc66 => ?_) (fun hc66 => ?_)
                                            · have h := ob_f h hc66
                                              refine vi_iconst (v := 0) C dL_law_252 (by decide) ?_
                                              cases h
                                              exact RET (fun j => [].getD j 0) _ _ _ _ hk0 dL_law_253 (by decide)
                                            · have h := ob_t h hc66
                                              refine vi_aload_n C 1 dL_law_227 rfl ?_
                                              obtain ⟨y68, u67, hgu67, h⟩ := ob_p h
                                              refine cY_i (As := []) (rest := []) (ud := u67) C 0 (mX7_messes C.2.2.2.2.2.2.2.2.1 hgu67) 0 rfl tcX7_messes tlL_208 tiX7_messes tsX7_messes rfl tnX7 tdX7_messes ⟨Nat.le_of_ble_eq_true rfl, Nat.le_of_ble_eq_true rfl⟩ hk0 rfl rfl (Nat.le_of_ble_eq_true rfl) dL_law_228 ?_
                                              refine vi_if_ne (tgt := 252) C dL_law_231 (by decide) (fun hc69 => ?_) (fun hc69 => ?_)
                                              · have h := ob_f h hc69
                                                refine vi_iconst (v := 0) C dL_law_252 (by decide) ?_
                                                cases h
                                                exact RET (fun j => [].getD j 0) _ _ _ _ hk0 dL_law_253 (by decide)
                                              · have h := ob_t h hc69
                                                refine vi_aload_n C 1 dL_law_234 rfl ?_
                                                refine vi_bipush (v := 11) C dL_law_235 (by decide) ?_
                                                obtain ⟨y71, u70, hgu70, h⟩ := ob_p h
                                                refine cY_i (As := [.int (11 : Int32)]) (rest := []) (ud := u70) C 0 (mX7_account C.2.2.2.2.2.2.2.2.1 hgu70) 1 rfl tcX7_account tlL_37 tiX7_account tsX7_account rfl tnX7 tdX7_account ⟨Nat.le_of_ble_eq_true rfl, Nat.le_of_ble_eq_true rfl⟩ hk0 rfl rfl (Nat.le_of_ble_eq_true rfl) dL_law_237 ?_
                                                refine vi_ldc (v := (-100002)) C dL_law_240 tkL_232 ?_
                                                refine vi_icmp_ne (tgt := 252) C dL_law_242 (by decide) (fun hc72 => ?_) (fun hc72 => ?_)
                                                · have h := ob_f h hc72
                                                  refine vi_iconst (v := 0) C dL_law_252 (by decide) ?_
                                                  cases h
                                                  exact RET (fun j => [].getD j 0) _ _ _ _ hk0 dL_law_253 (by decide)
                                                · have h := ob_t h hc72
                                                  refine vi_aload_n C 1 dL_law_245 rfl ?_
                                                  obtain ⟨y74, u73, hgu73, h⟩ := ob_p h
                                                  refine cY_i (As := []) (rest := []) (ud := u73) C 0 (mX7_isCounted C.2.2.2.2.2.2.2.2.1 hgu73) 0 rfl tcX7_isCounted tlL_162 tiX7_isCounted tsX7_isCounted rfl tnX7 tdX7_isCounted ⟨Nat.le_of_ble_eq_true rfl, Nat.le_of_ble_eq_true rfl⟩ hk0 rfl rfl (Nat.le_of_ble_eq_true rfl) dL_law_246 ?_
                                                  refine vi_if_ne (tgt := 254) C dL_law_249 (by decide) (fun hc75 => ?_) (fun hc75 => ?_)
                                                  · have h := ob_f h hc75
                                                    refine vi_aload_n C 1 dL_law_254 rfl ?_
                                                    obtain ⟨z76, hgz76, h⟩ := ob_bd h
                                                    refine vi_w C (w' := [] ++ ([] ++ wX q0 qs qo qt qv qr qx ql ad qh cI cF cC cS cO u73)) rfl ?_
                                                    refine g_ci C (g_runS (As := [.ref (q0 0)]) (rest := []) (w1 := []) (wc := ([] ++ wX q0 qs qo qt qv qr qx ql ad qh cI cF cC cS cO u73)) C (hm_L_stock   (r0 := z76.1) (u0 := z76.2) C.2.2.2.2.2.2.2.2.1 hgz76) 1 rfl tcL_stock tlL_240 ttL_stock tnL tdL_stock ⟨Nat.le_of_ble_eq_true rfl, Nat.le_of_ble_eq_true rfl⟩ hk0 rfl (Nat.le_of_ble_eq_true rfl) dL_law_255 rfl) rfl (fun q77 => ?_)
                                                    refine vi_w C (w' := ([] ++ wX q0 qs qo qt qv qr qx ql ad qh cI cF cC cS cO z76.2)) rfl ?_
                                                    refine vi_kk (kc1 := (101)) (ks1 := (1084)) rfl rfl ?_
                                                    obtain ⟨y78, ey78, h⟩ := ob_nm h
                                                    refine vi_nmi ey78 ?_
                                                    refine vi_istore_n (lv' := [(3, .int y78), (2, .int (0 : Int32)), (1, .ref (q0 0)), (0, .ref b)]) C dL_law_258 rfl (by decide) rfl ?_
                                                    refine vi_iconst (v := 0) C dL_law_259 (by decide) ?_
                                                    refine vi_istore (lv' := [(4, .int (0 : Int32)), (3, .int y78), (2, .int (0 : Int32)), (1, .ref (q0 0)), (0, .ref b)]) C dL_law_260 (by decide) rfl ?_
                                                    refine vi_sub C [4, 3, 2, 1, 0] rfl ?_
                                                    exact hk_L_law_262 C hX hbl hbA RET  vF _ _ _ _ _ _ hk0 h
                                                  · have h := ob_t h hc75
                                                    refine vi_iconst (v := 0) C dL_law_252 (by decide) ?_
                                                    cases h
                                                    exact RET (fun j => [].getD j 0) _ _ _ _ hk0 dL_law_253 (by decide)
