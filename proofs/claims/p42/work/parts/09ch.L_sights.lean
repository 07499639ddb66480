def hf_L_sights_585 (mc : Nat) (ms : Nat) (rec_515 : Int32 → Int32 → Int32 → Int32 → Nat → (Nat → Int32) → Nat → (Nat → UInt32) → Nat → (Nat → Int32) → vZ → Nat → Nat → Option (Int32 × vZ)) (x1 : Int32) (x2 : Int32) (x3 : Int32) (x4 : Int32) (x5 : Int32) (x6 : Int32) (x7 : Int32) (n8 : Nat) (g9 : Nat → Int32) (n10 : Nat) (g11 : Nat → UInt32) (n12 : Nat) (g13 : Nat → Int32) (u : vZ) (kc : Nat) (ks : Nat) : Option (Int32 × vZ) := obp (fX7_meet x4 x5 u) fun y2 u1 => (if y2 = x6 then bd ((x3 + 1 : Int32)) fun y4 => rec_515 x1 x2 y4 x7 n8 g9 n10 g11 n12 g13 u1 kc ks else some ((0 : Int32), u1))
set_option maxRecDepth 100000 in
set_option maxHeartbeats 4000000 in
theorem hk_L_sights_585 {ad adK adV : Nat → Nat} {tS tF : Nat} {tX sK sV : Nat → Nat} {p : Program} {l : Launch} {e : Env} {s : State} {m : MethodId} {args : Array Value} {below : List Frame} {meth : Method} {c : Code} {A : Nat → Prop} {D : va_G} {cI cF cC cS cO cB cZ : ClassId} {Q : State → Prop} {q0 qs qo qt qv qr qx ql : Nat → Nat} {qh : Nat → Nat → Nat} {mc : Nat} {ms : Nat} (C : vC (vE ad adK adV tS tF tX sK sV) p l s m args meth c A D (vT7 cI cF cC cS cO cB cZ) cL_sights 13 RL) {r0 : Int32} {u0 : vZ} (RET : ∀ (q : Nat → Nat) (kc ks : Nat) (pc : Nat) (lv : List (Nat × Value)), (kc ≤ mc ∧ ks ≤ ms) → decode cL_sights pc = .ok (.ireturn, 1) → (r0 = 0 ∨ r0 = 1) → vV p l e { frames := 7, cells := mc, slots := ms, locals := 194 } s m args below meth c A D 13 kc ks Q ([] ++ wX q0 qs qo qt qv qr qx ql ad qh cI cF cC cS cO u0) pc lv [.int r0]) {rec_515 : Int32 → Int32 → Int32 → Int32 → Nat → (Nat → Int32) → Nat → (Nat → UInt32) → Nat → (Nat → Int32) → vZ → Nat → Nat → Option (Int32 × vZ)} (REC_515 : ∀ (b0 : Nat) (b1 : Nat) (b2 : Nat) (b3 : Nat) (x1 : Int32) (x2 : Int32) (x3 : Int32) (x4 : Int32) (n5 : Nat) (g6 : Nat → Int32) (n7 : Nat) (g8 : Nat → UInt32) (n9 : Nat) (g10 : Nat → Int32) (u : vZ) (kc : Nat) (ks : Nat), (kc ≤ mc ∧ ks ≤ ms) → rec_515 x1 x2 x3 x4 n5 g6 n7 g8 n9 g10 u kc ks = some (r0, u0) → vV p l e { frames := 7, cells := mc, slots := ms, locals := 194 } s m args below meth c A D 13 kc ks Q ([(b0, .inr (1, [.ref b1, .int (0 : Int32), .int (0 : Int32), .int x4])), (b1, .inl (cB, n5, .inl (g6))), (b2, .inl (cF, n7, .inr (.inr (.inl (g8))))), (b3, .inl (cZ, n9, .inl (g10)))] ++ wX q0 qs qo qt qv qr qx ql ad qh cI cF cC cS cO u) 515 [(0, .ref (q0 0)), (1, .int x1), (3, .ref b0), (4, .int x2), (5, .ref b2), (6, .ref b3), (7, .int x3)] []) : ∀ (b0 : Nat) (b1 : Nat) (b2 : Nat) (b3 : Nat) (x1 : Int32) (x2 : Int32) (x3 : Int32) (x4 : Int32) (x5 : Int32) (x6 : Int32) (x7 : Int32) (n8 : Nat) (g9 : Nat → Int32) (n10 : Nat) (g11 : Nat → UInt32) (n12 : Nat) (g13 : Nat → Int32) (u : vZ) (kc : Nat) (ks : Nat), (kc ≤ mc ∧ ks ≤ ms) → hf_L_sights_585 mc ms rec_515 x1 x2 x3 x4 x5 x6 x7 n8 g9 n10 g11 n12 g13 u kc ks = some (r0, u0) → vV p l e { frames := 7, cells := mc, slots := ms, locals := 194 } s m args below meth c A D 13 kc ks Q ([(b0, .inr (1, [.ref b1, .int (0 : Int32), .int (0 : Int32), .int x7])), (b1, .inl (cB, n8, .inl (g9))), (b2, .inl (cF, n10, .inr (.inr (.inl (g11))))), (b3, .inl (cZ, n12, .inl (g13)))] ++ wX q0 qs qo qt qv qr qx ql ad qh cI cF cC cS cO u) 585 [(0, .ref (q0 0)), (1, .int x1), (3, .ref b0), (4, .int x2), (5, .ref b2), (6, .ref b3), (7, .int x3), (8, .int x4), (9, .int x5)] [.int x6] := by
  intro b0 b1 b2 b3 x1 x2 x3 x4 x5 x6 x7 n8 g9 n10 g11 n12 g13 u kc ks hkc h
  rw [hf_L_sights_585] at h
  refine vi_istore (lv' := [(10, .int x6), (0, .ref (q0 0)), (1, .int x1), (3, .ref b0), (4, .int x2), (5, .ref b2), (6, .ref b3), (7, .int x3), (8, .int x4), (9, .int x5)]) C dL_sights_585 (by decide) rfl ?_
  refine vi_aload_n C 1 dL_sights_587 rfl ?_
  refine vi_iload C 8 dL_sights_588 rfl ?_
  refine vi_iload C 9 dL_sights_590 rfl ?_
  obtain ⟨y2, u1, hgu1, h⟩ := ob_p h
  refine cY_i (As := [.int x4, .int x5]) (rest := []) (ud := u1) C 4 (mX7_meet C.2.2.2.2.2.2.2.2.1 hgu1) 2 rfl tcX7_meet tlL_187 tiX7_meet tsX7_meet rfl tnX7 tdX7_meet ⟨Nat.le_of_ble_eq_true rfl, Nat.le_of_ble_eq_true rfl⟩ hkc rfl rfl (Nat.le_of_ble_eq_true rfl) dL_sights_592 ?_
  refine vi_iload C 0 dL_sights_595 rfl ?_
  refine vi_icmp_eq (tgt := 602) C dL_sights_597 (by decide) (fun hc3 => ?_) (fun hc3 => ?_)
  · have h := ob_t h hc3
    obtain ⟨y4, ey4, h⟩ := ob_nm h
    refine vi_iinc (v := y4) (lv' := [(7, .int y4), (10, .int x6), (0, .ref (q0 0)), (1, .int x1), (3, .ref b0), (4, .int x2), (5, .ref b2), (6, .ref b3), (8, .int x4), (9, .int x5)]) C 7 dL_sights_602 rfl (by rw [ey4]; rfl) (by decide) rfl ?_
    refine vi_goto (tgt := 515) C dL_sights_605 (by decide) ?_
    refine vi_sub C [2, 3, 4, 5, 6, 7, 0] rfl ?_
    exact REC_515 _ _ _ _ _ _ _ _ _ _ _ _ _ _ _ _ _ hkc h
  · have h := ob_f h hc3
    refine vi_iconst (v := 0) C dL_sights_600 (by decide) ?_
    refine vi_pickX (ex2 := []) [] (by decide) rfl ?_
    cases h
    exact RET (fun j => [].getD j 0) _ _ _ _ hkc dL_sights_601 (by decide)
def hf_L_sights_515 (mc : Nat) (ms : Nat) : Nat → Int32 → Int32 → Int32 → Int32 → Nat → (Nat → Int32) → Nat → (Nat → UInt32) → Nat → (Nat → Int32) → vZ → Nat → Nat → Option (Int32 × vZ)
  | 0, _, _, _, _, _, _, _, _, _, _, _, _, _ => none
  | n + 1, x1, x2, x3, x4, n5, g6, n7, g8, n9, g10, u, kc, ks => (if x2 * x2 ≤ x3 then (if (10 : Int32) < x1 then some ((0 : Int32), u) else obp (fX7_account (4 : Int32) u) fun y4 u3 => (if y4 < x1 then some ((0 : Int32), u3) else obp (fX7_writeLog u3) fun y7 u6 => if kc + (20) ≤ mc ∧ ks + (600) ≤ ms then (hf_L_line (20) (600) y7 u6).bind fun z9 => bd (kc + (20)) fun kc11 => bd (ks + (600)) fun ks12 => if kc11 + (2) ≤ mc ∧ ks12 + (Int32.toNatClampNeg x4 + 4) ≤ ms then (hf_J4_toString_0e30d (2) (Int32.toNatClampNeg x4 + 4) x4 n5 g6).bind fun z14 => bd (kc11 + (2)) fun kc16 => bd (ks12 + (Int32.toNatClampNeg x4 + 4)) fun ks17 => (hf_J0_equals_9ea2d (z9.1) (z9.2.1) (z14.1) (z14.2)).bind fun z18 => (if z18 = 0 then some ((0 : Int32), z9.2.2) else obp (fX7_ranked x1 z9.2.2) fun y22 u21 => (if y22 = (-100001 : Int32) then obp (fX7_sightOf x1 (0 : Int32) u21) fun y25 u24 => (if y25 = (-100001 : Int32) then obp (fX7_meet (0 : Int32) x2 u24) fun y28 u27 => (if y28 = (-100001 : Int32) then obp (fX7_fixBits x2 u27) fun y31 u30 => (if y31 = (-100001 : Int32) then some ((1 : Int32), u30) else some ((0 : Int32), u30)) else some ((0 : Int32), u27)) else some ((0 : Int32), u24)) else some ((0 : Int32), u21))) else none else none)) else if x2 = 0 then none else bd ((x3 / x2 : Int32)) fun y34 => if x2 = 0 then none else bd ((x3 - x3 / x2 * x2 : Int32)) fun y36 => if y34 < 0 ∨ n9 ≤ Int32.toNatClampNeg y34 then none else (if g10 (Int32.toNatClampNeg y34) = 0 then hf_L_sights_585 mc ms (fun c0 c1 c2 c3 c4 c5 c6 c7 c8 c9 c10 c11 c12 => hf_L_sights_515 mc ms n  c0 c1 c2 c3 c4 c5 c6 c7 c8 c9 c10 c11 c12) x1 x2 x3 y34 y36 (-100006 : Int32) x4 n5 g6 n7 g8 n9 g10 u kc ks else if y36 < 0 ∨ n9 ≤ Int32.toNatClampNeg y36 then none else (if g10 (Int32.toNatClampNeg y36) = 0 then hf_L_sights_585 mc ms (fun c0 c1 c2 c3 c4 c5 c6 c7 c8 c9 c10 c11 c12 => hf_L_sights_515 mc ms n  c0 c1 c2 c3 c4 c5 c6 c7 c8 c9 c10 c11 c12) x1 x2 x3 y34 y36 (-100006 : Int32) x4 n5 g6 n7 g8 n9 g10 u kc ks else if y34 < 0 ∨ n7 ≤ Int32.toNatClampNeg y34 then none else if y36 < 0 ∨ n7 ≤ Int32.toNatClampNeg y36 then none else if (FP.fsub (g8 (Int32.toNatClampNeg y34)) (g8 (Int32.toNatClampNeg y36))) &&& 0x7fffffff ≤ 0x7f800000 then if (FP.fsub (g8 (Int32.toNatClampNeg y34)) (g8 (Int32.toNatClampNeg y36))) &&& 0x7fffffff ≤ 0x7f800000 then (if 0 ≤ Op.cmpValue (FP.fcmp ((FP.fsub (g8 (Int32.toNatClampNeg y34)) (g8 (Int32.toNatClampNeg y36))) &&& 0x7fffffff) (1056964608 : UInt32)) CmpOp.g then hf_L_sights_585 mc ms (fun c0 c1 c2 c3 c4 c5 c6 c7 c8 c9 c10 c11 c12 => hf_L_sights_515 mc ms n  c0 c1 c2 c3 c4 c5 c6 c7 c8 c9 c10 c11 c12) x1 x2 x3 y34 y36 (0 : Int32) x4 n5 g6 n7 g8 n9 g10 u kc ks else hf_L_sights_585 mc ms (fun c0 c1 c2 c3 c4 c5 c6 c7 c8 c9 c10 c11 c12 => hf_L_sights_515 mc ms n  c0 c1 c2 c3 c4 c5 c6 c7 c8 c9 c10 c11 c12) x1 x2 x3 y34 y36 (1 : Int32) x4 n5 g6 n7 g8 n9 g10 u kc ks) else none else none)))
set_option maxRecDepth 100000 in
set_option maxHeartbeats 4000000 in
theorem hk_L_sights_515 {ad adK adV : Nat → Nat} {tS tF : Nat} {tX sK sV : Nat → Nat} {p : Program} {l : Launch} {e : Env} {s : State} {m : MethodId} {args : Array Value} {below : List Frame} {meth : Method} {c : Code} {A : Nat → Prop} {D : va_G} {cI cF cC cS cO cB cZ : ClassId} {Q : State → Prop} {q0 qs qo qt qv qr qx ql : Nat → Nat} {qh : Nat → Nat → Nat} {mc : Nat} {ms : Nat} (C : vC (vE ad adK adV tS tF tX sK sV) p l s m args meth c A D (vT7 cI cF cC cS cO cB cZ) cL_sights 13 RL) {r0 : Int32} {u0 : vZ} (RET : ∀ (q : Nat → Nat) (kc ks : Nat) (pc : Nat) (lv : List (Nat × Value)), (kc ≤ mc ∧ ks ≤ ms) → decode cL_sights pc = .ok (.ireturn, 1) → (r0 = 0 ∨ r0 = 1) → vV p l e { frames := 7, cells := mc, slots := ms, locals := 194 } s m args below meth c A D 13 kc ks Q ([] ++ wX q0 qs qo qt qv qr qx ql ad qh cI cF cC cS cO u0) pc lv [.int r0]) : ∀ (n : Nat) (b0 : Nat) (b1 : Nat) (b2 : Nat) (b3 : Nat) (x1 : Int32) (x2 : Int32) (x3 : Int32) (x4 : Int32) (n5 : Nat) (g6 : Nat → Int32) (n7 : Nat) (g8 : Nat → UInt32) (n9 : Nat) (g10 : Nat → Int32) (u : vZ) (kc : Nat) (ks : Nat), (kc ≤ mc ∧ ks ≤ ms) → hf_L_sights_515 mc ms n x1 x2 x3 x4 n5 g6 n7 g8 n9 g10 u kc ks = some (r0, u0) → vV p l e { frames := 7, cells := mc, slots := ms, locals := 194 } s m args below meth c A D 13 kc ks Q ([(b0, .inr (1, [.ref b1, .int (0 : Int32), .int (0 : Int32), .int x4])), (b1, .inl (cB, n5, .inl (g6))), (b2, .inl (cF, n7, .inr (.inr (.inl (g8))))), (b3, .inl (cZ, n9, .inl (g10)))] ++ wX q0 qs qo qt qv qr qx ql ad qh cI cF cC cS cO u) 515 [(0, .ref (q0 0)), (1, .int x1), (3, .ref b0), (4, .int x2), (5, .ref b2), (6, .ref b3), (7, .int x3)] [] := by
  intro n
  induction n with
  | zero => intro b0 b1 b2 b3 x1 x2 x3 x4 n5 g6 n7 g8 n9 g10 u kc ks hkc h; rw [hf_L_sights_515] at h; cases h
  | succ n ih =>
    intro b0 b1 b2 b3 x1 x2 x3 x4 n5 g6 n7 g8 n9 g10 u kc ks hkc h
    rw [hf_L_sights_515] at h
    refine vi_iload C 6 dL_sights_515 rfl ?_
    refine vi_iload C 3 dL_sights_517 rfl ?_
    refine vi_iload C 3 dL_sights_519 rfl ?_
    refine vi_imul C dL_sights_521 ?_
    refine vi_icmp_ge (tgt := 608) C dL_sights_522 (by decide) (fun hc1 => ?_) (fun hc1 => ?_)
    · have h := ob_t h hc1
      refine vi_iload_n C 1 dL_sights_608 rfl ?_
      refine vi_bipush (v := 10) C dL_sights_609 (by decide) ?_
      refine vi_icmp_gt (tgt := 689) C dL_sights_611 (by decide) (fun hc2 => ?_) (fun hc2 => ?_)
      · have h := ob_t h hc2
        refine vi_iconst (v := 0) C dL_sights_689 (by decide) ?_
        refine vi_pickX (ex2 := []) [] (by decide) rfl ?_
        cases h
        exact RET (fun j => [].getD j 0) _ _ _ _ hkc dL_sights_690 (by decide)
      · have h := ob_f h hc2
        refine vi_iload_n C 1 dL_sights_614 rfl ?_
        refine vi_aload_n C 0 dL_sights_615 rfl ?_
        refine vi_iconst (v := 4) C dL_sights_616 (by decide) ?_
        obtain ⟨y4, u3, hgu3, h⟩ := ob_p h
        refine cY_i (As := [.int (4 : Int32)]) (rest := [.int x1]) (ud := u3) C 4 (mX7_account C.2.2.2.2.2.2.2.2.1 hgu3) 1 rfl tcX7_account tlL_37 tiX7_account tsX7_account rfl tnX7 tdX7_account ⟨Nat.le_of_ble_eq_true rfl, Nat.le_of_ble_eq_true rfl⟩ hkc rfl rfl (Nat.le_of_ble_eq_true rfl) dL_sights_617 ?_
        refine vi_icmp_gt (tgt := 689) C dL_sights_620 (by decide) (fun hc5 => ?_) (fun hc5 => ?_)
        · have h := ob_t h hc5
          refine vi_iconst (v := 0) C dL_sights_689 (by decide) ?_
          refine vi_pickX (ex2 := []) [] (by decide) rfl ?_
          cases h
          exact RET (fun j => [].getD j 0) _ _ _ _ hkc dL_sights_690 (by decide)
        · have h := ob_f h hc5
          refine vi_aload_n C 0 dL_sights_623 rfl ?_
          refine vi_aload_n C 0 dL_sights_624 rfl ?_
          obtain ⟨y7, u6, hgu6, h⟩ := ob_p h
          refine cY_i (As := []) (rest := [.ref (q0 0)]) (ud := u6) C 4 (mX7_writeLog C.2.2.2.2.2.2.2.2.1 hgu6) 0 rfl tcX7_writeLog tlL_190 tiX7_writeLog tsX7_writeLog rfl tnX7 tdX7_writeLog ⟨Nat.le_of_ble_eq_true rfl, Nat.le_of_ble_eq_true rfl⟩ hkc rfl rfl (Nat.le_of_ble_eq_true rfl) dL_sights_625 ?_
          obtain ⟨hz8, h⟩ := ob_ok h
          obtain ⟨z9, hgz9, h⟩ := ob_bd h
          refine vi_w C (w' := [(b0, .inr (1, [.ref b1, .int (0 : Int32), .int (0 : Int32), .int x4])), (b1, .inl (cB, n5, .inl (g6))), (b2, .inl (cF, n7, .inr (.inr (.inl (g8))))), (b3, .inl (cZ, n9, .inl (g10)))] ++ ([] ++ wX q0 qs qo qt qv qr qx ql ad qh cI cF cC cS cO u6)) rfl ?_
          refine g_cr C (g_runS (As := [.ref (q0 0), .int y7]) (rest := []) (w1 := [(b0, .inr (1, [.ref b1, .int (0 : Int32), .int (0 : Int32), .int x4])), (b1, .inl (cB, n5, .inl (g6))), (b2, .inl (cF, n7, .inr (.inr (.inl (g8))))), (b3, .inl (cZ, n9, .inl (g10)))]) (wc := ([] ++ wX q0 qs qo qt qv qr qx ql ad qh cI cF cC cS cO u6)) C (hm_L_line  (mc := (20)) (ms := (600)) (x1 := y7) (r_n1 := z9.1) (r_g2 := z9.2.1) (u0 := z9.2.2) C.2.2.2.2.2.2.2.2.1 hgz9) 2 rfl tcL_line tlL_96 ttL_line tnL tdL_line ⟨Nat.le_of_ble_eq_true rfl, Nat.le_of_ble_eq_true rfl⟩ hz8 rfl (Nat.le_of_ble_eq_true rfl) dL_sights_628 rfl) rfl (fun q10 => ?_)
          refine vi_w C (w' := ([(b0, .inr (1, [.ref b1, .int (0 : Int32), .int (0 : Int32), .int x4])), (b1, .inl (cB, n5, .inl (g6))), (b2, .inl (cF, n7, .inr (.inr (.inl (g8))))), (b3, .inl (cZ, n9, .inl (g10))), ((q10 0), .inr (0, [.ref (q10 1), .int (0 : Int32), .int (0 : Int32), .int (0 : Int32)])), ((q10 1), .inl (cB, z9.1, .inl (z9.2.1)))] ++ wX q0 qs qo qt qv qr qx ql ad qh cI cF cC cS cO z9.2.2)) rfl ?_
          obtain ⟨kc11, ekc11, h⟩ := ob_nm h
          obtain ⟨ks12, eks12, h⟩ := ob_nm h
          refine vi_kk ekc11.symm eks12.symm ?_
          rw [← ekc11, ← eks12] at hz8
          refine vi_aload_n C 2 dL_sights_631 rfl ?_
          obtain ⟨hz13, h⟩ := ob_ok h
          obtain ⟨z14, hgz14, h⟩ := ob_bd h
          refine vi_pickX (ex2 := [(b2, .inl (cF, n7, .inr (.inr (.inl (g8))))), (b3, .inl (cZ, n9, .inl (g10))), ((q10 0), .inr (0, [.ref (q10 1), .int (0 : Int32), .int (0 : Int32), .int (0 : Int32)])), ((q10 1), .inl (cB, z9.1, .inl (z9.2.1))), (b0, .inr (1, [.ref b1, .int (0 : Int32), .int (0 : Int32), .int x4])), (b1, .inl (cB, n5, .inl (g6)))]) [2, 3, 4, 5, 0, 1] (by decide) rfl ?_
          refine vi_w C (w' := ([(b2, .inl (cF, n7, .inr (.inr (.inl (g8))))), (b3, .inl (cZ, n9, .inl (g10))), ((q10 0), .inr (0, [.ref (q10 1), .int (0 : Int32), .int (0 : Int32), .int (0 : Int32)])), ((q10 1), .inl (cB, z9.1, .inl (z9.2.1)))] ++ [(b0, .inr (1, [.ref b1, .int (0 : Int32), .int (0 : Int32), .int x4])), (b1, .inl (cB, n5, .inl (g6)))]) ++ wX q0 qs qo qt qv qr qx ql ad qh cI cF cC cS cO z9.2.2) rfl ?_
          refine vi_swp ?_
          refine g_cr C (g_runV (T := TJ4) (N := 4) (ci := 1) (fs := [.ref b1, .int (0 : Int32), .int (0 : Int32), .int x4]) (As := []) (rest := [.ref (q10 0)]) (w1 := ([(b2, .inl (cF, n7, .inr (.inr (.inl (g8))))), (b3, .inl (cZ, n9, .inl (g10))), ((q10 0), .inr (0, [.ref (q10 1), .int (0 : Int32), .int (0 : Int32), .int (0 : Int32)])), ((q10 1), .inl (cB, z9.1, .inl (z9.2.1)))] ++ wX q0 qs qo qt qv qr qx ql ad qh cI cF cC cS cO z9.2.2)) (wc := [(b0, .inr (1, [.ref b1, .int (0 : Int32), .int (0 : Int32), .int x4])), (b1, .inl (cB, n5, .inl (g6)))]) C (hm_J4_toString_0e30d (a0 := b0) (a1 := b1) (mc := (2)) (ms := (Int32.toNatClampNeg x4 + 4)) (f0_3 := x4) (n1 := n5) (g1 := g6) (r_n1 := z14.1) (r_g2 := z14.2) C.2.2.2.2.2.2.2.2.1 hgz14) 0 rfl tcJ4_toString_0e30d tlL_86 tiJ4_toString_0e30d tsJ4_toString_0e30d tnJ4 tdJ4_toString_0e30d ⟨Nat.le_of_ble_eq_true rfl, Nat.le_of_ble_eq_true rfl⟩ hz13 (4 + 101 + 0) rfl rfl rfl (Nat.le_of_ble_eq_true rfl) dL_sights_632 rfl) rfl (fun q15 => ?_)
          refine vi_swp ?_
          refine vi_w C (w' := ([(b2, .inl (cF, n7, .inr (.inr (.inl (g8))))), (b3, .inl (cZ, n9, .inl (g10))), ((q10 0), .inr (0, [.ref (q10 1), .int (0 : Int32), .int (0 : Int32), .int (0 : Int32)])), ((q10 1), .inl (cB, z9.1, .inl (z9.2.1))), (b0, .inr (1, [.ref b1, .int (0 : Int32), .int (0 : Int32), .int x4])), (b1, .inl (cB, n5, .inl (g6))), ((q15 0), .inr (0, [.ref (q15 1), .int (0 : Int32), .int (0 : Int32), .int (0 : Int32)])), ((q15 1), .inl (cB, z14.1, .inl (z14.2)))] ++ wX q0 qs qo qt qv qr qx ql ad qh cI cF cC cS cO z9.2.2)) rfl ?_
          obtain ⟨kc16, ekc16, h⟩ := ob_nm h
          obtain ⟨ks17, eks17, h⟩ := ob_nm h
          refine vi_kk ekc16.symm eks17.symm ?_
          rw [← ekc16, ← eks17] at hz13
          obtain ⟨z18, hgz18, h⟩ := ob_bd h
          refine vi_pickX (ex2 := [(b2, .inl (cF, n7, .inr (.inr (.inl (g8))))), (b3, .inl (cZ, n9, .inl (g10))), (b0, .inr (1, [.ref b1, .int (0 : Int32), .int (0 : Int32), .int x4])), (b1, .inl (cB, n5, .inl (g6))), ((q10 0), .inr (0, [.ref (q10 1), .int (0 : Int32), .int (0 : Int32), .int (0 : Int32)])), ((q10 1), .inl (cB, z9.1, .inl (z9.2.1))), ((q15 0), .inr (0, [.ref (q15 1), .int (0 : Int32), .int (0 : Int32), .int (0 : Int32)])), ((q15 1), .inl (cB, z14.1, .inl (z14.2)))]) [0, 1, 4, 5, 2, 3, 6, 7] (by decide) rfl ?_
          refine vi_w C (w' := ([(b2, .inl (cF, n7, .inr (.inr (.inl (g8))))), (b3, .inl (cZ, n9, .inl (g10))), (b0, .inr (1, [.ref b1, .int (0 : Int32), .int (0 : Int32), .int x4])), (b1, .inl (cB, n5, .inl (g6)))] ++ [((q10 0), .inr (0, [.ref (q10 1), .int (0 : Int32), .int (0 : Int32), .int (0 : Int32)])), ((q10 1), .inl (cB, z9.1, .inl (z9.2.1))), ((q15 0), .inr (0, [.ref (q15 1), .int (0 : Int32), .int (0 : Int32), .int (0 : Int32)])), ((q15 1), .inl (cB, z14.1, .inl (z14.2)))]) ++ wX q0 qs qo qt qv qr qx ql ad qh cI cF cC cS cO z9.2.2) rfl ?_
          refine vi_swp ?_
          refine g_ci C (g_runV (T := TJ0) (N := 4) (ci := 0) (fs := [.ref (q10 1), .int (0 : Int32), .int (0 : Int32), .int (0 : Int32)]) (As := [.ref (q15 0)]) (rest := []) (w1 := ([(b2, .inl (cF, n7, .inr (.inr (.inl (g8))))), (b3, .inl (cZ, n9, .inl (g10))), (b0, .inr (1, [.ref b1, .int (0 : Int32), .int (0 : Int32), .int x4])), (b1, .inl (cB, n5, .inl (g6)))] ++ wX q0 qs qo qt qv qr qx ql ad qh cI cF cC cS cO z9.2.2)) (wc := [((q10 0), .inr (0, [.ref (q10 1), .int (0 : Int32), .int (0 : Int32), .int (0 : Int32)])), ((q10 1), .inl (cB, z9.1, .inl (z9.2.1))), ((q15 0), .inr (0, [.ref (q15 1), .int (0 : Int32), .int (0 : Int32), .int (0 : Int32)])), ((q15 1), .inl (cB, z14.1, .inl (z14.2)))]) C (hm_J0_equals_9ea2d (a0 := (q10 0)) (a1 := (q10 1)) (a2 := (q15 0)) (a3 := (q15 1)) (n1 := (z9.1)) (g1 := (z9.2.1)) (n3 := (z14.1)) (g3 := (z14.2)) (r0 := z18) C.2.2.2.2.2.2.2.2.1 hgz18) 1 rfl tcJ0_equals_9ea2d tlL_150 tiJ0_equals_9ea2d tsJ0_equals_9ea2d tnJ0 tdJ0_equals_9ea2d ⟨Nat.le_of_ble_eq_true rfl, Nat.le_of_ble_eq_true rfl⟩ hz13 (4 + 101 + 0) rfl rfl rfl (Nat.le_of_ble_eq_true rfl) dL_sights_635 rfl) rfl (fun q19 => ?_)
          refine vi_swp ?_
          refine vi_w C (w' := ([(b2, .inl (cF, n7, .inr (.inr (.inl (g8))))), (b3, .inl (cZ, n9, .inl (g10))), (b0, .inr (1, [.ref b1, .int (0 : Int32), .int (0 : Int32), .int x4])), (b1, .inl (cB, n5, .inl (g6))), ((q10 0), .inr (0, [.ref (q10 1), .int (0 : Int32), .int (0 : Int32), .int (0 : Int32)])), ((q10 1), .inl (cB, z9.1, .inl (z9.2.1))), ((q15 0), .inr (0, [.ref (q15 1), .int (0 : Int32), .int (0 : Int32), .int (0 : Int32)])), ((q15 1), .inl (cB, z14.1, .inl (z14.2)))] ++ wX q0 qs qo qt qv qr qx ql ad qh cI cF cC cS cO z9.2.2)) rfl ?_
          refine vi_kk (kc1 := kc16) (ks1 := ks17) rfl rfl ?_
          refine vi_if_eq (tgt := 689) C dL_sights_638 (by decide) (fun hc20 => ?_) (fun hc20 => ?_)
          · have h := ob_t h hc20
            refine vi_iconst (v := 0) C dL_sights_689 (by decide) ?_
            refine vi_pickX (ex2 := []) [] (by decide) rfl ?_
            cases h
            exact RET (fun j => [].getD j 0) _ _ _ _ hz13 dL_sights_690 (by decide)
          · have h := ob_f h hc20
            refine vi_aload_n C 0 dL_sights_641 rfl ?_
            refine vi_iload_n C 1 dL_sights_642 rfl ?_
            obtain ⟨y22, u21, hgu21, h⟩ := ob_p h
            refine cY_i (As := [.int x1]) (rest := []) (ud := u21) C 8 (mX7_ranked C.2.2.2.2.2.2.2.2.1 hgu21) 1 rfl tcX7_ranked tlL_169 tiX7_ranked tsX7_ranked rfl tnX7 tdX7_ranked ⟨Nat.le_of_ble_eq_true rfl, Nat.le_of_ble_eq_true rfl⟩ hz13 rfl rfl (Nat.le_of_ble_eq_true rfl) dL_sights_643 ?_
            refine vi_ldc (v := (-100001)) C dL_sights_646 tkL_166 ?_
            refine vi_icmp_ne (tgt := 689) C dL_sights_648 (by decide) (fun hc23 => ?_) (fun hc23 => ?_)
            · have h := ob_f h hc23
              refine vi_iconst (v := 0) C dL_sights_689 (by decide) ?_
              refine vi_pickX (ex2 := []) [] (by decide) rfl ?_
              cases h
              exact RET (fun j => [].getD j 0) _ _ _ _ hz13 dL_sights_690 (by decide)
            · have h := ob_t h hc23
              refine vi_aload_n C 0 dL_sights_651 rfl ?_
              refine vi_iload_n C 1 dL_sights_652 rfl ?_
              refine vi_iconst (v := 0) C dL_sights_653 (by decide) ?_
              obtain ⟨y25, u24, hgu24, h⟩ := ob_p h
              refine cY_i (As := [.int x1, .int (0 : Int32)]) (rest := []) (ud := u24) C 8 (mX7_sightOf C.2.2.2.2.2.2.2.2.1 hgu24) 2 rfl tcX7_sightOf tlL_106 tiX7_sightOf tsX7_sightOf rfl tnX7 tdX7_sightOf ⟨Nat.le_of_ble_eq_true rfl, Nat.le_of_ble_eq_true rfl⟩ hz13 rfl rfl (Nat.le_of_ble_eq_true rfl) dL_sights_654 ?_
              refine vi_ldc (v := (-100001)) C dL_sights_657 tkL_166 ?_
              refine vi_icmp_ne (tgt := 689) C dL_sights_659 (by decide) (fun hc26 => ?_) (fun hc26 => ?_)
              · have h := ob_f h hc26
                refine vi_iconst (v := 0) C dL_sights_689 (by decide) ?_
                refine vi_pickX (ex2 := []) [] (by decide) rfl ?_
                cases h
                exact RET (fun j => [].getD j 0) _ _ _ _ hz13 dL_sights_690 (by decide)
              · have h := ob_t h hc26
                refine vi_aload_n C 0 dL_sights_662 rfl ?_
                refine vi_iconst (v := 0) C dL_sights_663 (by decide) ?_
                refine vi_iload C 3 dL_sights_664 rfl ?_
                obtain ⟨y28, u27, hgu27, h⟩ := ob_p h
                refine cY_i (As := [.int (0 : Int32), .int x2]) (rest := []) (ud := u27) C 8 (mX7_meet C.2.2.2.2.2.2.2.2.1 hgu27) 2 rfl tcX7_meet tlL_187 tiX7_meet tsX7_meet rfl tnX7 tdX7_meet ⟨Nat.le_of_ble_eq_true rfl, Nat.le_of_ble_eq_true rfl⟩ hz13 rfl rfl (Nat.le_of_ble_eq_true rfl) dL_sights_666 ?_
                refine vi_ldc (v := (-100001)) C dL_sights_669 tkL_166 ?_
                refine vi_icmp_ne (tgt := 689) C dL_sights_671 (by decide) (fun hc29 => ?_) (fun hc29 => ?_)
                · have h := ob_f h hc29
                  refine vi_iconst (v := 0) C dL_sights_689 (by decide) ?_
                  refine vi_pickX (ex2 := []) [] (by decide) rfl ?_
                  cases h
                  exact RET (fun j => [].getD j 0) _ _ _ _ hz13 dL_sights_690 (by decide)
                · have h := ob_t h hc29
                  refine vi_aload_n C 0 dL_sights_674 rfl ?_
                  refine vi_iload C 3 dL_sights_675 rfl ?_
                  obtain ⟨y31, u30, hgu30, h⟩ := ob_p h
                  refine cY_i (As := [.int x2]) (rest := []) (ud := u30) C 8 (mX7_fixBits C.2.2.2.2.2.2.2.2.1 hgu30) 1 rfl tcX7_fixBits tlL_175 tiX7_fixBits tsX7_fixBits rfl tnX7 tdX7_fixBits ⟨Nat.le_of_ble_eq_true rfl, Nat.le_of_ble_eq_true rfl⟩ hz13 rfl rfl (Nat.le_of_ble_eq_true rfl) dL_sights_677 ?_
                  refine vi_ldc (v := (-100001)) C dL_sights_680 tkL_166 ?_
                  refine vi_icmp_ne (tgt := 689) C dL_sights_682 (by decide) (fun hc32 => ?_) (fun hc32 => ?_)
                  · have h := ob_f h hc32
                    refine vi_iconst (v := 0) C dL_sights_689 (by decide) ?_
                    refine vi_pickX (ex2 := []) [] (by decide) rfl ?_
                    cases h
                    exact RET (fun j => [].getD j 0) _ _ _ _ hz13 dL_sights_690 (by decide)
                  · have h := ob_t h hc32
                    refine vi_iconst (v := 1) C dL_sights_685 (by decide) ?_
                    refine vi_goto (tgt := 690) C dL_sights_686 (by decide) ?_
                    refine vi_pickX (ex2 := []) [] (by decide) rfl ?_
                    cases h
                    exact RET (fun j => [].getD j 0) _ _ _ _ hz13 dL_sights_690 (by decide)
    · have h := ob_f h hc1
      refine vi_iload C 6 dL_sights_525 rfl ?_
      refine vi_iload C 3 dL_sights_527 rfl ?_
      obtain ⟨hz33, h⟩ := ob_if h
      refine vi_idiv C dL_sights_529 hz33 ?_
      obtain ⟨y34, ey34, h⟩ := ob_nm h
      refine vi_nmi ey34 ?_
      refine vi_istore (lv' := [(8, .int y34), (0, .ref (q0 0)), (1, .int x1), (3, .ref b0), (4, .int x2), (5, .ref b2), (6, .ref b3), (7, .int x3)]) C dL_sights_530 (by decide) rfl ?_
      refine vi_iload C 7 dL_sights_532 rfl ?_
      refine vi_iload C 4 dL_sights_534 rfl ?_
      obtain ⟨hz35, h⟩ := ob_if h
      refine vi_irem C dL_sights_536 hz35 ?_
      obtain ⟨y36, ey36, h⟩ := ob_nm h
      refine vi_nmi ey36 ?_
      refine vi_istore (lv' := [(9, .int y36), (8, .int y34), (0, .ref (q0 0)), (1, .int x1), (3, .ref b0), (4, .int x2), (5, .ref b2), (6, .ref b3), (7, .int x3)]) C dL_sights_537 (by decide) rfl ?_
      refine vi_aload C 7 dL_sights_539 rfl ?_
      refine vi_iload C 1 dL_sights_541 rfl ?_
      obtain ⟨hz37, h⟩ := ob_if h
      refine vi_zald C 3 6 rfl rfl hz37 dL_sights_543 ?_
      refine vi_if_eq (tgt := 555) C dL_sights_544 (by decide) (fun hc38 => ?_) (fun hc38 => ?_)
      · have h := ob_t h hc38
        refine vi_ldc (v := (-100006)) C dL_sights_555 tkL_181 ?_
        refine vi_goto (tgt := 585) C dL_sights_557 (by decide) ?_
        refine vi_sub C [2, 3, 4, 5, 6, 7, 8, 1, 0] rfl ?_
        exact hk_L_sights_585 C RET ih  _ _ _ _ _ _ _ _ _ _ _ _ _ _ _ _ _ _ _ _ hkc h
      · have h := ob_f h hc38
        refine vi_aload C 7 dL_sights_547 rfl ?_
        refine vi_iload C 0 dL_sights_549 rfl ?_
        obtain ⟨hz39, h⟩ := ob_if h
        refine vi_zald C 3 6 rfl rfl hz39 dL_sights_551 ?_
        refine vi_if_ne (tgt := 560) C dL_sights_552 (by decide) (fun hc40 => ?_) (fun hc40 => ?_)
        · have h := ob_f h hc40
          refine vi_aload C 6 dL_sights_560 rfl ?_
          refine vi_iload C 1 dL_sights_562 rfl ?_
          obtain ⟨hz41, h⟩ := ob_if h
          refine vi_fald C 2 1 rfl rfl hz41 dL_sights_564 ?_
          refine vi_aload C 6 dL_sights_565 rfl ?_
          refine vi_iload C 0 dL_sights_567 rfl ?_
          obtain ⟨hz42, h⟩ := ob_if h
          refine vi_fald C 2 1 rfl rfl hz42 dL_sights_569 ?_
          obtain ⟨hz43, h⟩ := ob_ok h
          refine vi_fsub C dL_sights_570 hz43 ?_
          obtain ⟨hz44, h⟩ := ob_ok h
          refine vi_mabsF C hz44 tlL_182 tcJ9_abs_f6c48 ttJ9_abs_f6c48 tnJ9 (Nat.le_of_ble_eq_true rfl) (Nat.le_of_ble_eq_true rfl) dL_sights_571 ?_
          refine vi_ldcf (v := 1056964608) C dL_sights_574 tkL_186 ?_
          refine vi_fcmp C dL_sights_576 ?_
          refine vi_if_ge (tgt := 584) C dL_sights_577 (by decide) (fun hc45 => ?_) (fun hc45 => ?_)
          · have h := ob_t h hc45
            refine vi_iconst (v := 0) C dL_sights_584 (by decide) ?_
            refine vi_sub C [2, 3, 4, 5, 6, 7, 8, 1, 0] rfl ?_
            exact hk_L_sights_585 C RET ih  _ _ _ _ _ _ _ _ _ _ _ _ _ _ _ _ _ _ _ _ hkc h
          · have h := ob_f h hc45
            refine vi_iconst (v := 1) C dL_sights_580 (by decide) ?_
            refine vi_goto (tgt := 585) C dL_sights_581 (by decide) ?_
            refine vi_sub C [2, 3, 4, 5, 6, 7, 8, 1, 0] rfl ?_
            exact hk_L_sights_585 C RET ih  _ _ _ _ _ _ _ _ _ _ _ _ _ _ _ _ _ _ _ _ hkc h
        · have h := ob_t h hc40
          refine vi_ldc (v := (-100006)) C dL_sights_555 tkL_181 ?_
          refine vi_goto (tgt := 585) C dL_sights_557 (by decide) ?_
          refine vi_sub C [2, 3, 4, 5, 6, 7, 8, 1, 0] rfl ?_
          exact hk_L_sights_585 C RET ih  _ _ _ _ _ _ _ _ _ _ _ _ _ _ _ _ _ _ _ _ hkc h
def hf_L_sights_484 (mc : Nat) (ms : Nat) (rec_234 : Int32 → Int32 → Int32 → Int32 → Nat → (Nat → Int32) → Nat → (Nat → UInt32) → Nat → (Nat → Int32) → vZ → Nat → Nat → Option (Int32 × vZ)) (x1 : Int32) (x2 : Int32) (x3 : Int32) (x4 : Int32) (x5 : Int32) (x6 : Int32) (n7 : Nat) (g8 : Nat → Int32) (n9 : Nat) (g10 : Nat → UInt32) (n11 : Nat) (g12 : Nat → Int32) (u : vZ) (kc : Nat) (ks : Nat) : Option (Int32 × vZ) := (if x5 = 0 then some ((0 : Int32), u) else obp (fX7_sailorOf x3 (6 : Int32) u) fun y3 u2 => (if y3 = x4 then bd ((x3 + 1 : Int32)) fun y5 => rec_234 x1 x2 y5 x6 n7 g8 n9 g10 n11 g12 u2 kc ks else some ((0 : Int32), u2)))
set_option maxRecDepth 100000 in
set_option maxHeartbeats 4000000 in
theorem hk_L_sights_484 {ad adK adV : Nat → Nat} {tS tF : Nat} {tX sK sV : Nat → Nat} {p : Program} {l : Launch} {e : Env} {s : State} {m : MethodId} {args : Array Value} {below : List Frame} {meth : Method} {c : Code} {A : Nat → Prop} {D : va_G} {cI cF cC cS cO cB cZ : ClassId} {Q : State → Prop} {q0 qs qo qt qv qr qx ql : Nat → Nat} {qh : Nat → Nat → Nat} {mc : Nat} {ms : Nat} (C : vC (vE ad adK adV tS tF tX sK sV) p l s m args meth c A D (vT7 cI cF cC cS cO cB cZ) cL_sights 13 RL) {r0 : Int32} {u0 : vZ} (RET : ∀ (q : Nat → Nat) (kc ks : Nat) (pc : Nat) (lv : List (Nat × Value)), (kc ≤ mc ∧ ks ≤ ms) → decode cL_sights pc = .ok (.ireturn, 1) → (r0 = 0 ∨ r0 = 1) → vV p l e { frames := 7, cells := mc, slots := ms, locals := 194 } s m args below meth c A D 13 kc ks Q ([] ++ wX q0 qs qo qt qv qr qx ql ad qh cI cF cC cS cO u0) pc lv [.int r0]) {rec_234 : Int32 → Int32 → Int32 → Int32 → Nat → (Nat → Int32) → Nat → (Nat → UInt32) → Nat → (Nat → Int32) → vZ → Nat → Nat → Option (Int32 × vZ)} (REC_234 : ∀ (b0 : Nat) (b1 : Nat) (b2 : Nat) (b3 : Nat) (x1 : Int32) (x2 : Int32) (x3 : Int32) (x4 : Int32) (n5 : Nat) (g6 : Nat → Int32) (n7 : Nat) (g8 : Nat → UInt32) (n9 : Nat) (g10 : Nat → Int32) (u : vZ) (kc : Nat) (ks : Nat), (kc ≤ mc ∧ ks ≤ ms) → rec_234 x1 x2 x3 x4 n5 g6 n7 g8 n9 g10 u kc ks = some (r0, u0) → vV p l e { frames := 7, cells := mc, slots := ms, locals := 194 } s m args below meth c A D 13 kc ks Q ([(b0, .inr (1, [.ref b1, .int (0 : Int32), .int (0 : Int32), .int x4])), (b1, .inl (cB, n5, .inl (g6))), (b2, .inl (cF, n7, .inr (.inr (.inl (g8))))), (b3, .inl (cZ, n9, .inl (g10)))] ++ wX q0 qs qo qt qv qr qx ql ad qh cI cF cC cS cO u) 234 [(0, .ref (q0 0)), (1, .int x1), (3, .ref b0), (4, .int x2), (5, .ref b2), (6, .ref b3), (7, .int x3)] []) : ∀ (b0 : Nat) (b1 : Nat) (b2 : Nat) (b3 : Nat) (x1 : Int32) (x2 : Int32) (x3 : Int32) (x4 : Int32) (x5 : Int32) (x6 : Int32) (n7 : Nat) (g8 : Nat → Int32) (n9 : Nat) (g10 : Nat → UInt32) (n11 : Nat) (g12 : Nat → Int32) (u : vZ) (kc : Nat) (ks : Nat), (kc ≤ mc ∧ ks ≤ ms) → hf_L_sights_484 mc ms rec_234 x1 x2 x3 x4 x5 x6 n7 g8 n9 g10 n11 g12 u kc ks = some (r0, u0) → vV p l e { frames := 7, cells := mc, slots := ms, locals := 194 } s m args below meth c A D 13 kc ks Q ([(b0, .inr (1, [.ref b1, .int (0 : Int32), .int (0 : Int32), .int x6])), (b1, .inl (cB, n7, .inl (g8))), (b2, .inl (cF, n9, .inr (.inr (.inl (g10))))), (b3, .inl (cZ, n11, .inl (g12)))] ++ wX q0 qs qo qt qv qr qx ql ad qh cI cF cC cS cO u) 484 [(0, .ref (q0 0)), (1, .int x1), (3, .ref b0), (4, .int x2), (5, .ref b2), (6, .ref b3), (7, .int x3), (8, .int x4)] [.int x5] := by
  intro b0 b1 b2 b3 x1 x2 x3 x4 x5 x6 n7 g8 n9 g10 n11 g12 u kc ks hkc h
  rw [hf_L_sights_484] at h
  refine vi_istore (lv' := [(12, .int x5), (0, .ref (q0 0)), (1, .int x1), (3, .ref b0), (4, .int x2), (5, .ref b2), (6, .ref b3), (7, .int x3), (8, .int x4)]) C dL_sights_484 (by decide) rfl ?_
  refine vi_iload C 0 dL_sights_486 rfl ?_
  refine vi_if_eq (tgt := 504) C dL_sights_488 (by decide) (fun hc1 => ?_) (fun hc1 => ?_)
  · have h := ob_t h hc1
    refine vi_iconst (v := 0) C dL_sights_504 (by decide) ?_
    refine vi_pickX (ex2 := []) [] (by decide) rfl ?_
    cases h
    exact RET (fun j => [].getD j 0) _ _ _ _ hkc dL_sights_505 (by decide)
  · have h := ob_f h hc1
    refine vi_aload_n C 1 dL_sights_491 rfl ?_
    refine vi_iload C 7 dL_sights_492 rfl ?_
    refine vi_bipush (v := 6) C dL_sights_494 (by decide) ?_
    obtain ⟨y3, u2, hgu2, h⟩ := ob_p h
    refine cY_i (As := [.int x3, .int (6 : Int32)]) (rest := []) (ud := u2) C 4 (mX7_sailorOf C.2.2.2.2.2.2.2.2.1 hgu2) 2 rfl tcX7_sailorOf tlL_110 tiX7_sailorOf tsX7_sailorOf rfl tnX7 tdX7_sailorOf ⟨Nat.le_of_ble_eq_true rfl, Nat.le_of_ble_eq_true rfl⟩ hkc rfl rfl (Nat.le_of_ble_eq_true rfl) dL_sights_496 ?_
    refine vi_iload C 8 dL_sights_499 rfl ?_
    refine vi_icmp_eq (tgt := 506) C dL_sights_501 (by decide) (fun hc4 => ?_) (fun hc4 => ?_)
    · have h := ob_t h hc4
      obtain ⟨y5, ey5, h⟩ := ob_nm h
      refine vi_iinc (v := y5) (lv' := [(7, .int y5), (12, .int x5), (0, .ref (q0 0)), (1, .int x1), (3, .ref b0), (4, .int x2), (5, .ref b2), (6, .ref b3), (8, .int x4)]) C 7 dL_sights_506 rfl (by rw [ey5]; rfl) (by decide) rfl ?_
      refine vi_goto (tgt := 234) C dL_sights_509 (by decide) ?_
      refine vi_sub C [2, 3, 4, 5, 6, 7, 0] rfl ?_
      exact REC_234 _ _ _ _ _ _ _ _ _ _ _ _ _ _ _ _ _ hkc h
    · have h := ob_f h hc4
      refine vi_iconst (v := 0) C dL_sights_504 (by decide) ?_
      refine vi_pickX (ex2 := []) [] (by decide) rfl ?_
      cases h
      exact RET (fun j => [].getD j 0) _ _ _ _ hkc dL_sights_505 (by decide)
def hf_L_sights_413 (mc : Nat) (ms : Nat) (rec_234 : Int32 → Int32 → Int32 → Int32 → Nat → (Nat → Int32) → Nat → (Nat → UInt32) → Nat → (Nat → Int32) → vZ → Nat → Nat → Option (Int32 × vZ)) (x1 : Int32) (x2 : Int32) (x3 : Int32) (x4 : Int32) (x5 : UInt32) (x6 : Int32) (n7 : Nat) (g8 : Nat → Int32) (n9 : Nat) (g10 : Nat → UInt32) (n11 : Nat) (g12 : Nat → Int32) (u : vZ) (kc : Nat) (ks : Nat) : Option (Int32 × vZ) := if x3 < 0 ∨ n11 ≤ Int32.toNatClampNeg x3 then none else (if g12 (Int32.toNatClampNeg x3) = 0 then obp (fX7_fixBits x3 u) fun y4 u3 => (if y4 = (-100006 : Int32) then obp (fX7_fixAgain x3 u3) fun y7 u6 => (if y7 = (-100006 : Int32) then hf_L_sights_484 mc ms rec_234 x1 x2 x3 x4 (1 : Int32) x6 n7 g8 n9 g10 n11 g12 u6 kc ks else hf_L_sights_484 mc ms rec_234 x1 x2 x3 x4 (0 : Int32) x6 n7 g8 n9 g10 n11 g12 u6 kc ks) else hf_L_sights_484 mc ms rec_234 x1 x2 x3 x4 (0 : Int32) x6 n7 g8 n9 g10 n11 g12 u3 kc ks) else if x3 < 0 ∨ n9 ≤ Int32.toNatClampNeg x3 then none else (if Op.cmpValue (FP.fcmp x5 (g10 (Int32.toNatClampNeg x3))) CmpOp.l = 0 then obp (fX7_fixAgain x3 u) fun y12 u11 => obp (fX7_fixBits x3 u11) fun y14 u13 => (if y12 = y14 then hf_L_sights_484 mc ms rec_234 x1 x2 x3 x4 (1 : Int32) x6 n7 g8 n9 g10 n11 g12 u13 kc ks else hf_L_sights_484 mc ms rec_234 x1 x2 x3 x4 (0 : Int32) x6 n7 g8 n9 g10 n11 g12 u13 kc ks) else hf_L_sights_484 mc ms rec_234 x1 x2 x3 x4 (0 : Int32) x6 n7 g8 n9 g10 n11 g12 u kc ks))
set_option maxRecDepth 100000 in
set_option maxHeartbeats 4000000 in
theorem hk_L_sights_413 {ad adK adV : Nat → Nat} {tS tF : Nat} {tX sK sV : Nat → Nat} {p : Program} {l : Launch} {e : Env} {s : State} {m : MethodId} {args : Array Value} {below : List Frame} {meth : Method} {c : Code} {A : Nat → Prop} {D : va_G} {cI cF cC cS cO cB cZ : ClassId} {Q : State → Prop} {q0 qs qo qt qv qr qx ql : Nat → Nat} {qh : Nat → Nat → Nat} {mc : Nat} {ms : Nat} (C : vC (vE ad adK adV tS tF tX sK sV) p l s m args meth c A D (vT7 cI cF cC cS cO cB cZ) cL_sights 13 RL) {r0 : Int32} {u0 : vZ} (RET : ∀ (q : Nat → Nat) (kc ks : Nat) (pc : Nat) (lv : List (Nat × Value)), (kc ≤ mc ∧ ks ≤ ms) → decode cL_sights pc = .ok (.ireturn, 1) → (r0 = 0 ∨ r0 = 1) → vV p l e { frames := 7, cells := mc, slots := ms, locals := 194 } s m args below meth c A D 13 kc ks Q ([] ++ wX q0 qs qo qt qv qr qx ql ad qh cI cF cC cS cO u0) pc lv [.int r0]) {rec_234 : Int32 → Int32 → Int32 → Int32 → Nat → (Nat → Int32) → Nat → (Nat → UInt32) → Nat → (Nat → Int32) → vZ → Nat → Nat → Option (Int32 × vZ)} (REC_234 : ∀ (b0 : Nat) (b1 : Nat) (b2 : Nat) (b3 : Nat) (x1 : Int32) (x2 : Int32) (x3 : Int32) (x4 : Int32) (n5 : Nat) (g6 : Nat → Int32) (n7 : Nat) (g8 : Nat → UInt32) (n9 : Nat) (g10 : Nat → Int32) (u : vZ) (kc : Nat) (ks : Nat), (kc ≤ mc ∧ ks ≤ ms) → rec_234 x1 x2 x3 x4 n5 g6 n7 g8 n9 g10 u kc ks = some (r0, u0) → vV p l e { frames := 7, cells := mc, slots := ms, locals := 194 } s m args below meth c A D 13 kc ks Q ([(b0, .inr (1, [.ref b1, .int (0 : Int32), .int (0 : Int32), .int x4])), (b1, .inl (cB, n5, .inl (g6))), (b2, .inl (cF, n7, .inr (.inr (.inl (g8))))), (b3, .inl (cZ, n9, .inl (g10)))] ++ wX q0 qs qo qt qv qr qx ql ad qh cI cF cC cS cO u) 234 [(0, .ref (q0 0)), (1, .int x1), (3, .ref b0), (4, .int x2), (5, .ref b2), (6, .ref b3), (7, .int x3)] []) : ∀ (b0 : Nat) (b1 : Nat) (b2 : Nat) (b3 : Nat) (x1 : Int32) (x2 : Int32) (x3 : Int32) (x4 : Int32) (x5 : UInt32) (x6 : Int32) (n7 : Nat) (g8 : Nat → Int32) (n9 : Nat) (g10 : Nat → UInt32) (n11 : Nat) (g12 : Nat → Int32) (u : vZ) (kc : Nat) (ks : Nat), (kc ≤ mc ∧ ks ≤ ms) → hf_L_sights_413 mc ms rec_234 x1 x2 x3 x4 x5 x6 n7 g8 n9 g10 n11 g12 u kc ks = some (r0, u0) → vV p l e { frames := 7, cells := mc, slots := ms, locals := 194 } s m args below meth c A D 13 kc ks Q ([(b0, .inr (1, [.ref b1, .int (0 : Int32), .int (0 : Int32), .int x6])), (b1, .inl (cB, n7, .inl (g8))), (b2, .inl (cF, n9, .inr (.inr (.inl (g10))))), (b3, .inl (cZ, n11, .inl (g12)))] ++ wX q0 qs qo qt qv qr qx ql ad qh cI cF cC cS cO u) 413 [(0, .ref (q0 0)), (1, .int x1), (3, .ref b0), (4, .int x2), (5, .ref b2), (6, .ref b3), (7, .int x3), (8, .int x4)] [.float x5] := by
  intro b0 b1 b2 b3 x1 x2 x3 x4 x5 x6 n7 g8 n9 g10 n11 g12 u kc ks hkc h
  rw [hf_L_sights_413] at h
  refine vi_fstore (lv' := [(11, .float x5), (0, .ref (q0 0)), (1, .int x1), (3, .ref b0), (4, .int x2), (5, .ref b2), (6, .ref b3), (7, .int x3), (8, .int x4)]) C dL_sights_413 (by decide) rfl ?_
  refine vi_aload C 6 dL_sights_415 rfl ?_
  refine vi_iload C 7 dL_sights_417 rfl ?_
  obtain ⟨hz1, h⟩ := ob_if h
  refine vi_zald C 3 6 rfl rfl hz1 dL_sights_419 ?_
  refine vi_if_eq (tgt := 457) C dL_sights_420 (by decide) (fun hc2 => ?_) (fun hc2 => ?_)
  · have h := ob_t h hc2
    refine vi_aload_n C 1 dL_sights_457 rfl ?_
    refine vi_iload C 7 dL_sights_458 rfl ?_
    obtain ⟨y4, u3, hgu3, h⟩ := ob_p h
    refine cY_i (As := [.int x3]) (rest := []) (ud := u3) C 4 (mX7_fixBits C.2.2.2.2.2.2.2.2.1 hgu3) 1 rfl tcX7_fixBits tlL_175 tiX7_fixBits tsX7_fixBits rfl tnX7 tdX7_fixBits ⟨Nat.le_of_ble_eq_true rfl, Nat.le_of_ble_eq_true rfl⟩ hkc rfl rfl (Nat.le_of_ble_eq_true rfl) dL_sights_460 ?_
    refine vi_ldc (v := (-100006)) C dL_sights_463 tkL_181 ?_
    refine vi_icmp_ne (tgt := 483) C dL_sights_465 (by decide) (fun hc5 => ?_) (fun hc5 => ?_)
    · have h := ob_f h hc5
      refine vi_iconst (v := 0) C dL_sights_483 (by decide) ?_
      refine vi_sub C [1, 2, 3, 4, 5, 6, 7, 8] rfl ?_
      exact hk_L_sights_484 C RET REC_234  _ _ _ _ _ _ _ _ _ _ _ _ _ _ _ _ _ _ _ hkc h
    · have h := ob_t h hc5
      refine vi_aload_n C 1 dL_sights_468 rfl ?_
      refine vi_iload C 7 dL_sights_469 rfl ?_
      obtain ⟨y7, u6, hgu6, h⟩ := ob_p h
      refine cY_i (As := [.int x3]) (rest := []) (ud := u6) C 4 (mX7_fixAgain C.2.2.2.2.2.2.2.2.1 hgu6) 1 rfl tcX7_fixAgain tlL_178 tiX7_fixAgain tsX7_fixAgain rfl tnX7 tdX7_fixAgain ⟨Nat.le_of_ble_eq_true rfl, Nat.le_of_ble_eq_true rfl⟩ hkc rfl rfl (Nat.le_of_ble_eq_true rfl) dL_sights_471 ?_
      refine vi_ldc (v := (-100006)) C dL_sights_474 tkL_181 ?_
      refine vi_icmp_ne (tgt := 483) C dL_sights_476 (by decide) (fun hc8 => ?_) (fun hc8 => ?_)
      · have h := ob_f h hc8
        refine vi_iconst (v := 0) C dL_sights_483 (by decide) ?_
        refine vi_sub C [1, 2, 3, 4, 5, 6, 7, 8] rfl ?_
        exact hk_L_sights_484 C RET REC_234  _ _ _ _ _ _ _ _ _ _ _ _ _ _ _ _ _ _ _ hkc h
      · have h := ob_t h hc8
        refine vi_iconst (v := 1) C dL_sights_479 (by decide) ?_
        refine vi_goto (tgt := 484) C dL_sights_480 (by decide) ?_
        refine vi_sub C [1, 2, 3, 4, 5, 6, 7, 8] rfl ?_
        exact hk_L_sights_484 C RET REC_234  _ _ _ _ _ _ _ _ _ _ _ _ _ _ _ _ _ _ _ hkc h
  · have h := ob_f h hc2
    refine vi_fload C 0 dL_sights_423 rfl ?_
    refine vi_aload C 5 dL_sights_425 rfl ?_
    refine vi_iload C 7 dL_sights_427 rfl ?_
    obtain ⟨hz9, h⟩ := ob_if h
    refine vi_fald C 2 1 rfl rfl hz9 dL_sights_429 ?_
    refine vi_fcmp C dL_sights_430 ?_
    refine vi_if_ne (tgt := 453) C dL_sights_431 (by decide) (fun hc10 => ?_) (fun hc10 => ?_)
    · have h := ob_f h hc10
      refine vi_iconst (v := 0) C dL_sights_453 (by decide) ?_
      refine vi_goto (tgt := 484) C dL_sights_454 (by decide) ?_
      refine vi_sub C [1, 2, 3, 4, 5, 6, 7, 8] rfl ?_
      exact hk_L_sights_484 C RET REC_234  _ _ _ _ _ _ _ _ _ _ _ _ _ _ _ _ _ _ _ hkc h
    · have h := ob_t h hc10
      refine vi_aload_n C 1 dL_sights_434 rfl ?_
      refine vi_iload C 7 dL_sights_435 rfl ?_
      obtain ⟨y12, u11, hgu11, h⟩ := ob_p h
      refine cY_i (As := [.int x3]) (rest := []) (ud := u11) C 4 (mX7_fixAgain C.2.2.2.2.2.2.2.2.1 hgu11) 1 rfl tcX7_fixAgain tlL_178 tiX7_fixAgain tsX7_fixAgain rfl tnX7 tdX7_fixAgain ⟨Nat.le_of_ble_eq_true rfl, Nat.le_of_ble_eq_true rfl⟩ hkc rfl rfl (Nat.le_of_ble_eq_true rfl) dL_sights_437 ?_
      refine vi_aload_n C 1 dL_sights_440 rfl ?_
      refine vi_iload C 7 dL_sights_441 rfl ?_
      obtain ⟨y14, u13, hgu13, h⟩ := ob_p h
      refine cY_i (As := [.int x3]) (rest := [.int y12]) (ud := u13) C 4 (mX7_fixBits C.2.2.2.2.2.2.2.2.1 hgu13) 1 rfl tcX7_fixBits tlL_175 tiX7_fixBits tsX7_fixBits rfl tnX7 tdX7_fixBits ⟨Nat.le_of_ble_eq_true rfl, Nat.le_of_ble_eq_true rfl⟩ hkc rfl rfl (Nat.le_of_ble_eq_true rfl) dL_sights_443 ?_
      refine vi_icmp_ne (tgt := 453) C dL_sights_446 (by decide) (fun hc15 => ?_) (fun hc15 => ?_)
      · have h := ob_f h hc15
        refine vi_iconst (v := 0) C dL_sights_453 (by decide) ?_
        refine vi_goto (tgt := 484) C dL_sights_454 (by decide) ?_
        refine vi_sub C [1, 2, 3, 4, 5, 6, 7, 8] rfl ?_
        exact hk_L_sights_484 C RET REC_234  _ _ _ _ _ _ _ _ _ _ _ _ _ _ _ _ _ _ _ hkc h
      · have h := ob_t h hc15
        refine vi_iconst (v := 1) C dL_sights_449 (by decide) ?_
        refine vi_goto (tgt := 484) C dL_sights_450 (by decide) ?_
        refine vi_sub C [1, 2, 3, 4, 5, 6, 7, 8] rfl ?_
        exact hk_L_sights_484 C RET REC_234  _ _ _ _ _ _ _ _ _ _ _ _ _ _ _ _ _ _ _ hkc h
def hf_L_sights_391 (mc : Nat) (ms : Nat) (rec_234 : Int32 → Int32 → Int32 → Int32 → Nat → (Nat → Int32) → Nat → (Nat → UInt32) → Nat → (Nat → Int32) → vZ → Nat → Nat → Option (Int32 × vZ)) (x1 : Int32) (x2 : Int32) (x3 : Int32) (x4 : Int32) (x5 : Int32) (x6 : Int32) (x7 : Int32) (n8 : Nat) (g9 : Nat → Int32) (n10 : Nat) (g11 : Nat → UInt32) (n12 : Nat) (g13 : Nat → Int32) (u : vZ) (kc : Nat) (ks : Nat) : Option (Int32 × vZ) := if x6 < 0 ∨ n12 ≤ Int32.toNatClampNeg x6 then none else bd ((upd g13 (Int32.toNatClampNeg x6) (vp_nar .boolean x5) : Nat → Int32)) fun g2 => if x3 < 0 ∨ n12 ≤ Int32.toNatClampNeg x3 then none else (if g2 (Int32.toNatClampNeg x3) = 0 then hf_L_sights_413 mc ms rec_234 x1 x2 x3 x4 (FP.fconst0) x7 n8 g9 n10 g11 n12 g2 u kc ks else obp (fX7_fixBits x3 u) fun y6 u5 => if vn_sni2f y6 = false then hf_L_sights_413 mc ms rec_234 x1 x2 x3 x4 (Int32.toUInt32 y6) x7 n8 g9 n10 g11 n12 g2 u5 kc ks else none)
set_option maxRecDepth 100000 in
set_option maxHeartbeats 4000000 in
theorem hk_L_sights_391 {ad adK adV : Nat → Nat} {tS tF : Nat} {tX sK sV : Nat → Nat} {p : Program} {l : Launch} {e : Env} {s : State} {m : MethodId} {args : Array Value} {below : List Frame} {meth : Method} {c : Code} {A : Nat → Prop} {D : va_G} {cI cF cC cS cO cB cZ : ClassId} {Q : State → Prop} {q0 qs qo qt qv qr qx ql : Nat → Nat} {qh : Nat → Nat → Nat} {mc : Nat} {ms : Nat} (C : vC (vE ad adK adV tS tF tX sK sV) p l s m args meth c A D (vT7 cI cF cC cS cO cB cZ) cL_sights 13 RL) {r0 : Int32} {u0 : vZ} (RET : ∀ (q : Nat → Nat) (kc ks : Nat) (pc : Nat) (lv : List (Nat × Value)), (kc ≤ mc ∧ ks ≤ ms) → decode cL_sights pc = .ok (.ireturn, 1) → (r0 = 0 ∨ r0 = 1) → vV p l e { frames := 7, cells := mc, slots := ms, locals := 194 } s m args below meth c A D 13 kc ks Q ([] ++ wX q0 qs qo qt qv qr qx ql ad qh cI cF cC cS cO u0) pc lv [.int r0]) {rec_234 : Int32 → Int32 → Int32 → Int32 → Nat → (Nat → Int32) → Nat → (Nat → UInt32) → Nat → (Nat → Int32) → vZ → Nat → Nat → Option (Int32 × vZ)} (REC_234 : ∀ (b0 : Nat) (b1 : Nat) (b2 : Nat) (b3 : Nat) (x1 : Int32) (x2 : Int32) (x3 : Int32) (x4 : Int32) (n5 : Nat) (g6 : Nat → Int32) (n7 : Nat) (g8 : Nat → UInt32) (n9 : Nat) (g10 : Nat → Int32) (u : vZ) (kc : Nat) (ks : Nat), (kc ≤ mc ∧ ks ≤ ms) → rec_234 x1 x2 x3 x4 n5 g6 n7 g8 n9 g10 u kc ks = some (r0, u0) → vV p l e { frames := 7, cells := mc, slots := ms, locals := 194 } s m args below meth c A D 13 kc ks Q ([(b0, .inr (1, [.ref b1, .int (0 : Int32), .int (0 : Int32), .int x4])), (b1, .inl (cB, n5, .inl (g6))), (b2, .inl (cF, n7, .inr (.inr (.inl (g8))))), (b3, .inl (cZ, n9, .inl (g10)))] ++ wX q0 qs qo qt qv qr qx ql ad qh cI cF cC cS cO u) 234 [(0, .ref (q0 0)), (1, .int x1), (3, .ref b0), (4, .int x2), (5, .ref b2), (6, .ref b3), (7, .int x3)] []) : ∀ (b0 : Nat) (b1 : Nat) (b2 : Nat) (b3 : Nat) (x1 : Int32) (x2 : Int32) (x3 : Int32) (x4 : Int32) (x5 : Int32) (x6 : Int32) (x7 : Int32) (n8 : Nat) (g9 : Nat → Int32) (n10 : Nat) (g11 : Nat → UInt32) (n12 : Nat) (g13 : Nat → Int32) (u : vZ) (kc : Nat) (ks : Nat), (kc ≤ mc ∧ ks ≤ ms) → hf_L_sights_391 mc ms rec_234 x1 x2 x3 x4 x5 x6 x7 n8 g9 n10 g11 n12 g13 u kc ks = some (r0, u0) → vV p l e { frames := 7, cells := mc, slots := ms, locals := 194 } s m args below meth c A D 13 kc ks Q ([(b0, .inr (1, [.ref b1, .int (0 : Int32), .int (0 : Int32), .int x7])), (b1, .inl (cB, n8, .inl (g9))), (b2, .inl (cF, n10, .inr (.inr (.inl (g11))))), (b3, .inl (cZ, n12, .inl (g13)))] ++ wX q0 qs qo qt qv qr qx ql ad qh cI cF cC cS cO u) 391 [(0, .ref (q0 0)), (1, .int x1), (3, .ref b0), (4, .int x2), (5, .ref b2), (6, .ref b3), (7, .int x3), (8, .int x4)] [.int x5, .int x6, .ref b3] := by
  intro b0 b1 b2 b3 x1 x2 x3 x4 x5 x6 x7 n8 g9 n10 g11 n12 g13 u kc ks hkc h
  rw [hf_L_sights_391] at h
  obtain ⟨hz1, h⟩ := ob_if h
  obtain ⟨g2, eg2, h⟩ := ob_nm h
  refine vi_zast (w2 := ([(b0, .inr (1, [.ref b1, .int (0 : Int32), .int (0 : Int32), .int x7])), (b1, .inl (cB, n8, .inl (g9))), (b2, .inl (cF, n10, .inr (.inr (.inl (g11))))), (b3, .inl (cZ, n12, .inl (g2)))] ++ wX q0 qs qo qt qv qr qx ql ad qh cI cF cC cS cO u)) C 3 6 rfl rfl hz1 (by rw [eg2]; rfl) dL_sights_391 ?_
  refine vi_aload C 5 dL_sights_392 rfl ?_
  refine vi_iload C 6 dL_sights_394 rfl ?_
  obtain ⟨hz3, h⟩ := ob_if h
  refine vi_zald C 3 6 rfl rfl hz3 dL_sights_396 ?_
  refine vi_if_eq (tgt := 412) C dL_sights_397 (by decide) (fun hc4 => ?_) (fun hc4 => ?_)
  · have h := ob_t h hc4
    refine vi_fconst0 C dL_sights_412 ?_
    refine vi_sub C [0, 1, 2, 3, 4, 5, 6, 7] rfl ?_
    exact hk_L_sights_413 C RET REC_234  _ _ _ _ _ _ _ _ _ _ _ _ _ _ _ _ _ _ _ hkc h
  · have h := ob_f h hc4
    refine vi_aload_n C 0 dL_sights_400 rfl ?_
    refine vi_iload C 6 dL_sights_401 rfl ?_
    obtain ⟨y6, u5, hgu5, h⟩ := ob_p h
    refine cY_i (As := [.int x3]) (rest := []) (ud := u5) C 4 (mX7_fixBits C.2.2.2.2.2.2.2.2.1 hgu5) 1 rfl tcX7_fixBits tlL_175 tiX7_fixBits tsX7_fixBits rfl tnX7 tdX7_fixBits ⟨Nat.le_of_ble_eq_true rfl, Nat.le_of_ble_eq_true rfl⟩ hkc rfl rfl (Nat.le_of_ble_eq_true rfl) dL_sights_403 ?_
    obtain ⟨hz7, h⟩ := ob_ok h
    refine vi_ib2f C hz7 dL_sights_406 tlL_172 tnat_intBitsToFloat tstat_intBitsToFloat tnJxf58ca (Nat.le_of_ble_eq_true rfl) (Nat.le_of_ble_eq_true rfl) ?_
    refine vi_goto (tgt := 413) C dL_sights_409 (by decide) ?_
    refine vi_sub C [0, 1, 2, 3, 4, 5, 6, 7] rfl ?_
    exact hk_L_sights_413 C RET REC_234  _ _ _ _ _ _ _ _ _ _ _ _ _ _ _ _ _ _ _ hkc h
def hf_L_sights_343 (mc : Nat) (ms : Nat) (rec_234 : Int32 → Int32 → Int32 → Int32 → Nat → (Nat → Int32) → Nat → (Nat → UInt32) → Nat → (Nat → Int32) → vZ → Nat → Nat → Option (Int32 × vZ)) (rec_291 : Int32 → Int32 → Int32 → Int32 → UInt32 → Int32 → Int32 → Int32 → Nat → (Nat → Int32) → Nat → (Nat → UInt32) → Nat → (Nat → Int32) → vZ → Nat → Nat → Option (Int32 × vZ)) (x1 : Int32) (x2 : Int32) (x3 : Int32) (x4 : Int32) (x5 : Int32) (x6 : Int32) (x7 : Int32) (x8 : UInt32) (x9 : UInt32) (x10 : Int32) (n11 : Nat) (g12 : Nat → Int32) (n13 : Nat) (g14 : Nat → UInt32) (n15 : Nat) (g16 : Nat → Int32) (u : vZ) (kc : Nat) (ks : Nat) : Option (Int32 × vZ) := if (FP.fadd x9 x8) &&& 0x7fffffff ≤ 0x7f800000 then bd ((FP.fadd x9 x8 : UInt32)) fun y2 => (if x7 = 0 then bd ((x5 + (0 : Int32) : Int32)) fun y4 => bd ((x6 + 1 : Int32)) fun y5 => rec_291 x1 x2 x3 x4 y2 y4 y5 x10 n11 g12 n13 g14 n15 g16 u kc ks else bd ((x5 + (1 : Int32) : Int32)) fun y6 => bd ((x6 + 1 : Int32)) fun y7 => rec_291 x1 x2 x3 x4 y2 y6 y7 x10 n11 g12 n13 g14 n15 g16 u kc ks) else none
set_option maxRecDepth 100000 in
set_option maxHeartbeats 4000000 in
theorem hk_L_sights_343 {ad adK adV : Nat → Nat} {tS tF : Nat} {tX sK sV : Nat → Nat} {p : Program} {l : Launch} {e : Env} {s : State} {m : MethodId} {args : Array Value} {below : List Frame} {meth : Method} {c : Code} {A : Nat → Prop} {D : va_G} {cI cF cC cS cO cB cZ : ClassId} {Q : State → Prop} {q0 qs qo qt qv qr qx ql : Nat → Nat} {qh : Nat → Nat → Nat} {mc : Nat} {ms : Nat} (C : vC (vE ad adK adV tS tF tX sK sV) p l s m args meth c A D (vT7 cI cF cC cS cO cB cZ) cL_sights 13 RL) {r0 : Int32} {u0 : vZ} (RET : ∀ (q : Nat → Nat) (kc ks : Nat) (pc : Nat) (lv : List (Nat × Value)), (kc ≤ mc ∧ ks ≤ ms) → decode cL_sights pc = .ok (.ireturn, 1) → (r0 = 0 ∨ r0 = 1) → vV p l e { frames := 7, cells := mc, slots := ms, locals := 194 } s m args below meth c A D 13 kc ks Q ([] ++ wX q0 qs qo qt qv qr qx ql ad qh cI cF cC cS cO u0) pc lv [.int r0]) {rec_234 : Int32 → Int32 → Int32 → Int32 → Nat → (Nat → Int32) → Nat → (Nat → UInt32) → Nat → (Nat → Int32) → vZ → Nat → Nat → Option (Int32 × vZ)} (REC_234 : ∀ (b0 : Nat) (b1 : Nat) (b2 : Nat) (b3 : Nat) (x1 : Int32) (x2 : Int32) (x3 : Int32) (x4 : Int32) (n5 : Nat) (g6 : Nat → Int32) (n7 : Nat) (g8 : Nat → UInt32) (n9 : Nat) (g10 : Nat → Int32) (u : vZ) (kc : Nat) (ks : Nat), (kc ≤ mc ∧ ks ≤ ms) → rec_234 x1 x2 x3 x4 n5 g6 n7 g8 n9 g10 u kc ks = some (r0, u0) → vV p l e { frames := 7, cells := mc, slots := ms, locals := 194 } s m args below meth c A D 13 kc ks Q ([(b0, .inr (1, [.ref b1, .int (0 : Int32), .int (0 : Int32), .int x4])), (b1, .inl (cB, n5, .inl (g6))), (b2, .inl (cF, n7, .inr (.inr (.inl (g8))))), (b3, .inl (cZ, n9, .inl (g10)))] ++ wX q0 qs qo qt qv qr qx ql ad qh cI cF cC cS cO u) 234 [(0, .ref (q0 0)), (1, .int x1), (3, .ref b0), (4, .int x2), (5, .ref b2), (6, .ref b3), (7, .int x3)] []) {rec_291 : Int32 → Int32 → Int32 → Int32 → UInt32 → Int32 → Int32 → Int32 → Nat → (Nat → Int32) → Nat → (Nat → UInt32) → Nat → (Nat → Int32) → vZ → Nat → Nat → Option (Int32 × vZ)} (REC_291 : ∀ (b0 : Nat) (b1 : Nat) (b2 : Nat) (b3 : Nat) (x1 : Int32) (x2 : Int32) (x3 : Int32) (x4 : Int32) (x5 : UInt32) (x6 : Int32) (x7 : Int32) (x8 : Int32) (n9 : Nat) (g10 : Nat → Int32) (n11 : Nat) (g12 : Nat → UInt32) (n13 : Nat) (g14 : Nat → Int32) (u : vZ) (kc : Nat) (ks : Nat), (kc ≤ mc ∧ ks ≤ ms) → rec_291 x1 x2 x3 x4 x5 x6 x7 x8 n9 g10 n11 g12 n13 g14 u kc ks = some (r0, u0) → vV p l e { frames := 7, cells := mc, slots := ms, locals := 194 } s m args below meth c A D 13 kc ks Q ([(b0, .inr (1, [.ref b1, .int (0 : Int32), .int (0 : Int32), .int x8])), (b1, .inl (cB, n9, .inl (g10))), (b2, .inl (cF, n11, .inr (.inr (.inl (g12))))), (b3, .inl (cZ, n13, .inl (g14)))] ++ wX q0 qs qo qt qv qr qx ql ad qh cI cF cC cS cO u) 291 [(0, .ref (q0 0)), (1, .int x1), (3, .ref b0), (4, .int x2), (5, .ref b2), (6, .ref b3), (7, .int x3), (8, .int x4), (9, .float x5), (10, .int x6), (11, .int x7)] []) : ∀ (b0 : Nat) (b1 : Nat) (b2 : Nat) (b3 : Nat) (x1 : Int32) (x2 : Int32) (x3 : Int32) (x4 : Int32) (x5 : Int32) (x6 : Int32) (x7 : Int32) (x8 : UInt32) (x9 : UInt32) (x10 : Int32) (n11 : Nat) (g12 : Nat → Int32) (n13 : Nat) (g14 : Nat → UInt32) (n15 : Nat) (g16 : Nat → Int32) (u : vZ) (kc : Nat) (ks : Nat), (kc ≤ mc ∧ ks ≤ ms) → hf_L_sights_343 mc ms rec_234 rec_291 x1 x2 x3 x4 x5 x6 x7 x8 x9 x10 n11 g12 n13 g14 n15 g16 u kc ks = some (r0, u0) → vV p l e { frames := 7, cells := mc, slots := ms, locals := 194 } s m args below meth c A D 13 kc ks Q ([(b0, .inr (1, [.ref b1, .int (0 : Int32), .int (0 : Int32), .int x10])), (b1, .inl (cB, n11, .inl (g12))), (b2, .inl (cF, n13, .inr (.inr (.inl (g14))))), (b3, .inl (cZ, n15, .inl (g16)))] ++ wX q0 qs qo qt qv qr qx ql ad qh cI cF cC cS cO u) 343 [(0, .ref (q0 0)), (1, .int x1), (3, .ref b0), (4, .int x2), (5, .ref b2), (6, .ref b3), (7, .int x3), (8, .int x4), (10, .int x5), (11, .int x6), (12, .int x7)] [.float x8, .float x9] := by
  intro b0 b1 b2 b3 x1 x2 x3 x4 x5 x6 x7 x8 x9 x10 n11 g12 n13 g14 n15 g16 u kc ks hkc h
  rw [hf_L_sights_343] at h
  obtain ⟨hz1, h⟩ := ob_ok h
  refine vi_fadd C dL_sights_343 hz1 ?_
  obtain ⟨y2, ey2, h⟩ := ob_nm h
  refine vi_nmf ey2 ?_
  refine vi_fstore (lv' := [(9, .float y2), (0, .ref (q0 0)), (1, .int x1), (3, .ref b0), (4, .int x2), (5, .ref b2), (6, .ref b3), (7, .int x3), (8, .int x4), (10, .int x5), (11, .int x6), (12, .int x7)]) C dL_sights_344 (by decide) rfl ?_
  refine vi_iload C 9 dL_sights_346 rfl ?_
  refine vi_iload C 11 dL_sights_348 rfl ?_
  refine vi_if_eq (tgt := 357) C dL_sights_350 (by decide) (fun hc3 => ?_) (fun hc3 => ?_)
  · have h := ob_t h hc3
    refine vi_iconst (v := 0) C dL_sights_357 (by decide) ?_
    refine vi_iadd C dL_sights_358 ?_
    obtain ⟨y4, ey4, h⟩ := ob_nm h
    refine vi_nmi ey4 ?_
    refine vi_istore (lv' := [(10, .int y4), (9, .float y2), (0, .ref (q0 0)), (1, .int x1), (3, .ref b0), (4, .int x2), (5, .ref b2), (6, .ref b3), (7, .int x3), (8, .int x4), (11, .int x6), (12, .int x7)]) C dL_sights_359 (by decide) rfl ?_
    obtain ⟨y5, ey5, h⟩ := ob_nm h
    refine vi_iinc (v := y5) (lv' := [(11, .int y5), (10, .int y4), (9, .float y2), (0, .ref (q0 0)), (1, .int x1), (3, .ref b0), (4, .int x2), (5, .ref b2), (6, .ref b3), (7, .int x3), (8, .int x4), (12, .int x7)]) C 10 dL_sights_361 rfl (by rw [ey5]; rfl) (by decide) rfl ?_
    refine vi_goto (tgt := 291) C dL_sights_364 (by decide) ?_
    refine vi_sub C [3, 4, 5, 6, 7, 8, 9, 10, 2, 1, 0] rfl ?_
    exact REC_291 _ _ _ _ _ _ _ _ _ _ _ _ _ _ _ _ _ _ _ _ _ hkc h
  · have h := ob_f h hc3
    refine vi_iconst (v := 1) C dL_sights_353 (by decide) ?_
    refine vi_goto (tgt := 358) C dL_sights_354 (by decide) ?_
    refine vi_iadd C dL_sights_358 ?_
    obtain ⟨y6, ey6, h⟩ := ob_nm h
    refine vi_nmi ey6 ?_
    refine vi_istore (lv' := [(10, .int y6), (9, .float y2), (0, .ref (q0 0)), (1, .int x1), (3, .ref b0), (4, .int x2), (5, .ref b2), (6, .ref b3), (7, .int x3), (8, .int x4), (11, .int x6), (12, .int x7)]) C dL_sights_359 (by decide) rfl ?_
    obtain ⟨y7, ey7, h⟩ := ob_nm h
    refine vi_iinc (v := y7) (lv' := [(11, .int y7), (10, .int y6), (9, .float y2), (0, .ref (q0 0)), (1, .int x1), (3, .ref b0), (4, .int x2), (5, .ref b2), (6, .ref b3), (7, .int x3), (8, .int x4), (12, .int x7)]) C 10 dL_sights_361 rfl (by rw [ey7]; rfl) (by decide) rfl ?_
    refine vi_goto (tgt := 291) C dL_sights_364 (by decide) ?_
    refine vi_sub C [3, 4, 5, 6, 7, 8, 9, 10, 2, 1, 0] rfl ?_
    exact REC_291 _ _ _ _ _ _ _ _ _ _ _ _ _ _ _ _ _ _ _ _ _ hkc h
def hf_L_sights_320 (mc : Nat) (ms : Nat) (rec_234 : Int32 → Int32 → Int32 → Int32 → Nat → (Nat → Int32) → Nat → (Nat → UInt32) → Nat → (Nat → Int32) → vZ → Nat → Nat → Option (Int32 × vZ)) (rec_291 : Int32 → Int32 → Int32 → Int32 → UInt32 → Int32 → Int32 → Int32 → Nat → (Nat → Int32) → Nat → (Nat → UInt32) → Nat → (Nat → Int32) → vZ → Nat → Nat → Option (Int32 × vZ)) (x1 : Int32) (x2 : Int32) (x3 : Int32) (x4 : Int32) (x5 : UInt32) (x6 : Int32) (x7 : Int32) (x8 : Int32) (x9 : Int32) (n10 : Nat) (g11 : Nat → Int32) (n12 : Nat) (g13 : Nat → UInt32) (n14 : Nat) (g15 : Nat → Int32) (u : vZ) (kc : Nat) (ks : Nat) : Option (Int32 × vZ) := (if x8 = 0 then hf_L_sights_343 mc ms rec_234 rec_291 x1 x2 x3 x4 x6 x7 x8 (FP.fconst0) x5 x9 n10 g11 n12 g13 n14 g15 u kc ks else obp (fX7_sightOf x7 (2 : Int32) u) fun y3 u2 => if vn_sni2f y3 = false then hf_L_sights_343 mc ms rec_234 rec_291 x1 x2 x3 x4 x6 x7 x8 (Int32.toUInt32 y3) x5 x9 n10 g11 n12 g13 n14 g15 u2 kc ks else none)
set_option maxRecDepth 100000 in
set_option maxHeartbeats 4000000 in
theorem hk_L_sights_320 {ad adK adV : Nat → Nat} {tS tF : Nat} {tX sK sV : Nat → Nat} {p : Program} {l : Launch} {e : Env} {s : State} {m : MethodId} {args : Array Value} {below : List Frame} {meth : Method} {c : Code} {A : Nat → Prop} {D : va_G} {cI cF cC cS cO cB cZ : ClassId} {Q : State → Prop} {q0 qs qo qt qv qr qx ql : Nat → Nat} {qh : Nat → Nat → Nat} {mc : Nat} {ms : Nat} (C : vC (vE ad adK adV tS tF tX sK sV) p l s m args meth c A D (vT7 cI cF cC cS cO cB cZ) cL_sights 13 RL) {r0 : Int32} {u0 : vZ} (RET : ∀ (q : Nat → Nat) (kc ks : Nat) (pc : Nat) (lv : List (Nat × Value)), (kc ≤ mc ∧ ks ≤ ms) → decode cL_sights pc = .ok (.ireturn, 1) → (r0 = 0 ∨ r0 = 1) → vV p l e { frames := 7, cells := mc, slots := ms, locals := 194 } s m args below meth c A D 13 kc ks Q ([] ++ wX q0 qs qo qt qv qr qx ql ad qh cI cF cC cS cO u0) pc lv [.int r0]) {rec_234 : Int32 → Int32 → Int32 → Int32 → Nat → (Nat → Int32) → Nat → (Nat → UInt32) → Nat → (Nat → Int32) → vZ → Nat → Nat → Option (Int32 × vZ)} (REC_234 : ∀ (b0 : Nat) (b1 : Nat) (b2 : Nat) (b3 : Nat) (x1 : Int32) (x2 : Int32) (x3 : Int32) (x4 : Int32) (n5 : Nat) (g6 : Nat → Int32) (n7 : Nat) (g8 : Nat → UInt32) (n9 : Nat) (g10 : Nat → Int32) (u : vZ) (kc : Nat) (ks : Nat), (kc ≤ mc ∧ ks ≤ ms) → rec_234 x1 x2 x3 x4 n5 g6 n7 g8 n9 g10 u kc ks = some (r0, u0) → vV p l e { frames := 7, cells := mc, slots := ms, locals := 194 } s m args below meth c A D 13 kc ks Q ([(b0, .inr (1, [.ref b1, .int (0 : Int32), .int (0 : Int32), .int x4])), (b1, .inl (cB, n5, .inl (g6))), (b2, .inl (cF, n7, .inr (.inr (.inl (g8))))), (b3, .inl (cZ, n9, .inl (g10)))] ++ wX q0 qs qo qt qv qr qx ql ad qh cI cF cC cS cO u) 234 [(0, .ref (q0 0)), (1, .int x1), (3, .ref b0), (4, .int x2), (5, .ref b2), (6, .ref b3), (7, .int x3)] []) {rec_291 : Int32 → Int32 → Int32 → Int32 → UInt32 → Int32 → Int32 → Int32 → Nat → (Nat → Int32) → Nat → (Nat → UInt32) → Nat → (Nat → Int32) → vZ → Nat → Nat → Option (Int32 × vZ)} (REC_291 : ∀ (b0 : Nat) (b1 : Nat) (b2 : Nat) (b3 : Nat) (x1 : Int32) (x2 : Int32) (x3 : Int32) (x4 : Int32) (x5 : UInt32) (x6 : Int32) (x7 : Int32) (x8 : Int32) (n9 : Nat) (g10 : Nat → Int32) (n11 : Nat) (g12 : Nat → UInt32) (n13 : Nat) (g14 : Nat → Int32) (u : vZ) (kc : Nat) (ks : Nat), (kc ≤ mc ∧ ks ≤ ms) → rec_291 x1 x2 x3 x4 x5 x6 x7 x8 n9 g10 n11 g12 n13 g14 u kc ks = some (r0, u0) → vV p l e { frames := 7, cells := mc, slots := ms, locals := 194 } s m args below meth c A D 13 kc ks Q ([(b0, .inr (1, [.ref b1, .int (0 : Int32), .int (0 : Int32), .int x8])), (b1, .inl (cB, n9, .inl (g10))), (b2, .inl (cF, n11, .inr (.inr (.inl (g12))))), (b3, .inl (cZ, n13, .inl (g14)))] ++ wX q0 qs qo qt qv qr qx ql ad qh cI cF cC cS cO u) 291 [(0, .ref (q0 0)), (1, .int x1), (3, .ref b0), (4, .int x2), (5, .ref b2), (6, .ref b3), (7, .int x3), (8, .int x4), (9, .float x5), (10, .int x6), (11, .int x7)] []) : ∀ (b0 : Nat) (b1 : Nat) (b2 : Nat) (b3 : Nat) (x1 : Int32) (x2 : Int32) (x3 : Int32) (x4 : Int32) (x5 : UInt32) (x6 : Int32) (x7 : Int32) (x8 : Int32) (x9 : Int32) (n10 : Nat) (g11 : Nat → Int32) (n12 : Nat) (g13 : Nat → UInt32) (n14 : Nat) (g15 : Nat → Int32) (u : vZ) (kc : Nat) (ks : Nat), (kc ≤ mc ∧ ks ≤ ms) → hf_L_sights_320 mc ms rec_234 rec_291 x1 x2 x3 x4 x5 x6 x7 x8 x9 n10 g11 n12 g13 n14 g15 u kc ks = some (r0, u0) → vV p l e { frames := 7, cells := mc, slots := ms, locals := 194 } s m args below meth c A D 13 kc ks Q ([(b0, .inr (1, [.ref b1, .int (0 : Int32), .int (0 : Int32), .int x9])), (b1, .inl (cB, n10, .inl (g11))), (b2, .inl (cF, n12, .inr (.inr (.inl (g13))))), (b3, .inl (cZ, n14, .inl (g15)))] ++ wX q0 qs qo qt qv qr qx ql ad qh cI cF cC cS cO u) 320 [(0, .ref (q0 0)), (1, .int x1), (3, .ref b0), (4, .int x2), (5, .ref b2), (6, .ref b3), (7, .int x3), (8, .int x4), (9, .float x5), (10, .int x6), (11, .int x7)] [.int x8] := by
  intro b0 b1 b2 b3 x1 x2 x3 x4 x5 x6 x7 x8 x9 n10 g11 n12 g13 n14 g15 u kc ks hkc h
  rw [hf_L_sights_320] at h
  refine vi_istore (lv' := [(12, .int x8), (0, .ref (q0 0)), (1, .int x1), (3, .ref b0), (4, .int x2), (5, .ref b2), (6, .ref b3), (7, .int x3), (8, .int x4), (9, .float x5), (10, .int x6), (11, .int x7)]) C dL_sights_320 (by decide) rfl ?_
  refine vi_fload C 9 dL_sights_322 rfl ?_
  refine vi_iload C 0 dL_sights_324 rfl ?_
  refine vi_if_eq (tgt := 342) C dL_sights_326 (by decide) (fun hc1 => ?_) (fun hc1 => ?_)
  · have h := ob_t h hc1
    refine vi_fconst0 C dL_sights_342 ?_
    refine vi_sub C [1, 2, 3, 4, 5, 6, 7, 8, 10, 11, 0] rfl ?_
    exact hk_L_sights_343 C RET REC_234 REC_291  _ _ _ _ _ _ _ _ _ _ _ _ _ _ _ _ _ _ _ _ _ _ _ hkc h
  · have h := ob_f h hc1
    refine vi_aload_n C 1 dL_sights_329 rfl ?_
    refine vi_iload C 11 dL_sights_330 rfl ?_
    refine vi_iconst (v := 2) C dL_sights_332 (by decide) ?_
    obtain ⟨y3, u2, hgu2, h⟩ := ob_p h
    refine cY_i (As := [.int x7, .int (2 : Int32)]) (rest := [.float x5]) (ud := u2) C 4 (mX7_sightOf C.2.2.2.2.2.2.2.2.1 hgu2) 2 rfl tcX7_sightOf tlL_106 tiX7_sightOf tsX7_sightOf rfl tnX7 tdX7_sightOf ⟨Nat.le_of_ble_eq_true rfl, Nat.le_of_ble_eq_true rfl⟩ hkc rfl rfl (Nat.le_of_ble_eq_true rfl) dL_sights_333 ?_
    obtain ⟨hz4, h⟩ := ob_ok h
    refine vi_ib2f C hz4 dL_sights_336 tlL_172 tnat_intBitsToFloat tstat_intBitsToFloat tnJxf58ca (Nat.le_of_ble_eq_true rfl) (Nat.le_of_ble_eq_true rfl) ?_
    refine vi_goto (tgt := 343) C dL_sights_339 (by decide) ?_
    refine vi_sub C [1, 2, 3, 4, 5, 6, 7, 8, 10, 11, 0] rfl ?_
    exact hk_L_sights_343 C RET REC_234 REC_291  _ _ _ _ _ _ _ _ _ _ _ _ _ _ _ _ _ _ _ _ _ _ _ hkc h
def hf_L_sights_291 (mc : Nat) (ms : Nat) : Nat → (Int32 → Int32 → Int32 → Int32 → Nat → (Nat → Int32) → Nat → (Nat → UInt32) → Nat → (Nat → Int32) → vZ → Nat → Nat → Option (Int32 × vZ)) → Int32 → Int32 → Int32 → Int32 → UInt32 → Int32 → Int32 → Int32 → Nat → (Nat → Int32) → Nat → (Nat → UInt32) → Nat → (Nat → Int32) → vZ → Nat → Nat → Option (Int32 × vZ)
  | 0, _, _, _, _, _, _, _, _, _, _, _, _, _, _, _, _, _, _ => none
  | n + 1, rec_234, x1, x2, x3, x4, x5, x6, x7, x8, n9, g10, n11, g12, n13, g14, u, kc, ks => (if x1 ≤ x7 then if (FP.fdiv x5 (FP.fconst2)) &&& 0x7fffffff ≤ 0x7f800000 then if x3 < 0 ∨ n11 ≤ Int32.toNatClampNeg x3 then none else bd ((vf_upd g12 (Int32.toNatClampNeg x3) (FP.fdiv x5 (FP.fconst2)) : Nat → UInt32)) fun g4 => (if x4 ≤ (1 : Int32) then hf_L_sights_391 mc ms rec_234 x1 x2 x3 x4 (0 : Int32) x3 x8 n9 g10 n11 g4 n13 g14 u kc ks else hf_L_sights_391 mc ms rec_234 x1 x2 x3 x4 (1 : Int32) x3 x8 n9 g10 n11 g4 n13 g14 u kc ks) else none else obp (fX7_sightOf x7 (0 : Int32) u) fun y7 u6 => (if y7 = x3 then (if (2 : Int32) ≤ x6 then hf_L_sights_320 mc ms rec_234 (fun c0 c1 c2 c3 c4 c5 c6 c7 c8 c9 c10 c11 c12 c13 c14 c15 c16 => hf_L_sights_291 mc ms n rec_234 c0 c1 c2 c3 c4 c5 c6 c7 c8 c9 c10 c11 c12 c13 c14 c15 c16) x1 x2 x3 x4 x5 x6 x7 (0 : Int32) x8 n9 g10 n11 g12 n13 g14 u6 kc ks else hf_L_sights_320 mc ms rec_234 (fun c0 c1 c2 c3 c4 c5 c6 c7 c8 c9 c10 c11 c12 c13 c14 c15 c16 => hf_L_sights_291 mc ms n rec_234 c0 c1 c2 c3 c4 c5 c6 c7 c8 c9 c10 c11 c12 c13 c14 c15 c16) x1 x2 x3 x4 x5 x6 x7 (1 : Int32) x8 n9 g10 n11 g12 n13 g14 u6 kc ks) else hf_L_sights_320 mc ms rec_234 (fun c0 c1 c2 c3 c4 c5 c6 c7 c8 c9 c10 c11 c12 c13 c14 c15 c16 => hf_L_sights_291 mc ms n rec_234 c0 c1 c2 c3 c4 c5 c6 c7 c8 c9 c10 c11 c12 c13 c14 c15 c16) x1 x2 x3 x4 x5 x6 x7 (0 : Int32) x8 n9 g10 n11 g12 n13 g14 u6 kc ks))
set_option maxRecDepth 100000 in
set_option maxHeartbeats 4000000 in
theorem hk_L_sights_291 {ad adK adV : Nat → Nat} {tS tF : Nat} {tX sK sV : Nat → Nat} {p : Program} {l : Launch} {e : Env} {s : State} {m : MethodId} {args : Array Value} {below : List Frame} {meth : Method} {c : Code} {A : Nat → Prop} {D : va_G} {cI cF cC cS cO cB cZ : ClassId} {Q : State → Prop} {q0 qs qo qt qv qr qx ql : Nat → Nat} {qh : Nat → Nat → Nat} {mc : Nat} {ms : Nat} (C : vC (vE ad adK adV tS tF tX sK sV) p l s m args meth c A D (vT7 cI cF cC cS cO cB cZ) cL_sights 13 RL) {r0 : Int32} {u0 : vZ} (RET : ∀ (q : Nat → Nat) (kc ks : Nat) (pc : Nat) (lv : List (Nat × Value)), (kc ≤ mc ∧ ks ≤ ms) → decode cL_sights pc = .ok (.ireturn, 1) → (r0 = 0 ∨ r0 = 1) → vV p l e { frames := 7, cells := mc, slots := ms, locals := 194 } s m args below meth c A D 13 kc ks Q ([] ++ wX q0 qs qo qt qv qr qx ql ad qh cI cF cC cS cO u0) pc lv [.int r0]) {rec_234 : Int32 → Int32 → Int32 → Int32 → Nat → (Nat → Int32) → Nat → (Nat → UInt32) → Nat → (Nat → Int32) → vZ → Nat → Nat → Option (Int32 × vZ)} (REC_234 : ∀ (b0 : Nat) (b1 : Nat) (b2 : Nat) (b3 : Nat) (x1 : Int32) (x2 : Int32) (x3 : Int32) (x4 : Int32) (n5 : Nat) (g6 : Nat → Int32) (n7 : Nat) (g8 : Nat → UInt32) (n9 : Nat) (g10 : Nat → Int32) (u : vZ) (kc : Nat) (ks : Nat), (kc ≤ mc ∧ ks ≤ ms) → rec_234 x1 x2 x3 x4 n5 g6 n7 g8 n9 g10 u kc ks = some (r0, u0) → vV p l e { frames := 7, cells := mc, slots := ms, locals := 194 } s m args below meth c A D 13 kc ks Q ([(b0, .inr (1, [.ref b1, .int (0 : Int32), .int (0 : Int32), .int x4])), (b1, .inl (cB, n5, .inl (g6))), (b2, .inl (cF, n7, .inr (.inr (.inl (g8))))), (b3, .inl (cZ, n9, .inl (g10)))] ++ wX q0 qs qo qt qv qr qx ql ad qh cI cF cC cS cO u) 234 [(0, .ref (q0 0)), (1, .int x1), (3, .ref b0), (4, .int x2), (5, .ref b2), (6, .ref b3), (7, .int x3)] []) : ∀ (n : Nat) (b0 : Nat) (b1 : Nat) (b2 : Nat) (b3 : Nat) (x1 : Int32) (x2 : Int32) (x3 : Int32) (x4 : Int32) (x5 : UInt32) (x6 : Int32) (x7 : Int32) (x8 : Int32) (n9 : Nat) (g10 : Nat → Int32) (n11 : Nat) (g12 : Nat → UInt32) (n13 : Nat) (g14 : Nat → Int32) (u : vZ) (kc : Nat) (ks : Nat), (kc ≤ mc ∧ ks ≤ ms) → hf_L_sights_291 mc ms n rec_234 x1 x2 x3 x4 x5 x6 x7 x8 n9 g10 n11 g12 n13 g14 u kc ks = some (r0, u0) → vV p l e { frames := 7, cells := mc, slots := ms, locals := 194 } s m args below meth c A D 13 kc ks Q ([(b0, .inr (1, [.ref b1, .int (0 : Int32), .int (0 : Int32), .int x8])), (b1, .inl (cB, n9, .inl (g10))), (b2, .inl (cF, n11, .inr (.inr (.inl (g12))))), (b3, .inl (cZ, n13, .inl (g14)))] ++ wX q0 qs qo qt qv qr qx ql ad qh cI cF cC cS cO u) 291 [(0, .ref (q0 0)), (1, .int x1), (3, .ref b0), (4, .int x2), (5, .ref b2), (6, .ref b3), (7, .int x3), (8, .int x4), (9, .float x5), (10, .int x6), (11, .int x7)] [] := by
  intro n
  induction n with
  | zero => intro b0 b1 b2 b3 x1 x2 x3 x4 x5 x6 x7 x8 n9 g10 n11 g12 n13 g14 u kc ks hkc h; rw [hf_L_sights_291] at h; cases h
  | succ n ih =>
    intro b0 b1 b2 b3 x1 x2 x3 x4 x5 x6 x7 x8 n9 g10 n11 g12 n13 g14 u kc ks hkc h
    rw [hf_L_sights_291] at h
    refine vi_iload C 10 dL_sights_291 rfl ?_
    refine vi_iload_n C 1 dL_sights_293 rfl ?_
    refine vi_icmp_ge (tgt := 367) C dL_sights_294 (by decide) (fun hc1 => ?_) (fun hc1 => ?_)
    · have h := ob_t h hc1
      refine vi_aload C 4 dL_sights_367 rfl ?_
      refine vi_iload C 6 dL_sights_369 rfl ?_
      refine vi_fload C 8 dL_sights_371 rfl ?_
      refine vi_fconst2 C dL_sights_373 ?_
      obtain ⟨hz2, h⟩ := ob_ok h
      refine vi_fdiv C dL_sights_374 hz2 ?_
      obtain ⟨hz3, h⟩ := ob_if h
      obtain ⟨g4, eg4, h⟩ := ob_nm h
      refine vi_fast (w' := ([(b0, .inr (1, [.ref b1, .int (0 : Int32), .int (0 : Int32), .int x8])), (b1, .inl (cB, n9, .inl (g10))), (b2, .inl (cF, n11, .inr (.inr (.inl (g4))))), (b3, .inl (cZ, n13, .inl (g14)))] ++ wX q0 qs qo qt qv qr qx ql ad qh cI cF cC cS cO u)) C 2 1 rfl rfl hz3 (by rw [eg4]; rfl) dL_sights_375 ?_
      refine vi_aload C 5 dL_sights_376 rfl ?_
      refine vi_iload C 6 dL_sights_378 rfl ?_
      refine vi_iload C 7 dL_sights_380 rfl ?_
      refine vi_iconst (v := 1) C dL_sights_382 (by decide) ?_
      refine vi_icmp_le (tgt := 390) C dL_sights_383 (by decide) (fun hc5 => ?_) (fun hc5 => ?_)
      · have h := ob_t h hc5
        refine vi_iconst (v := 0) C dL_sights_390 (by decide) ?_
        refine vi_sub C [0, 1, 2, 3, 4, 5, 6, 7] rfl ?_
        exact hk_L_sights_391 C RET REC_234  _ _ _ _ _ _ _ _ _ _ _ _ _ _ _ _ _ _ _ _ hkc h
      · have h := ob_f h hc5
        refine vi_iconst (v := 1) C dL_sights_386 (by decide) ?_
        refine vi_goto (tgt := 391) C dL_sights_387 (by decide) ?_
        refine vi_sub C [0, 1, 2, 3, 4, 5, 6, 7] rfl ?_
        exact hk_L_sights_391 C RET REC_234  _ _ _ _ _ _ _ _ _ _ _ _ _ _ _ _ _ _ _ _ hkc h
    · have h := ob_f h hc1
      refine vi_aload_n C 0 dL_sights_297 rfl ?_
      refine vi_iload C 10 dL_sights_298 rfl ?_
      refine vi_iconst (v := 0) C dL_sights_300 (by decide) ?_
      obtain ⟨y7, u6, hgu6, h⟩ := ob_p h
      refine cY_i (As := [.int x7, .int (0 : Int32)]) (rest := []) (ud := u6) C 4 (mX7_sightOf C.2.2.2.2.2.2.2.2.1 hgu6) 2 rfl tcX7_sightOf tlL_106 tiX7_sightOf tsX7_sightOf rfl tnX7 tdX7_sightOf ⟨Nat.le_of_ble_eq_true rfl, Nat.le_of_ble_eq_true rfl⟩ hkc rfl rfl (Nat.le_of_ble_eq_true rfl) dL_sights_301 ?_
      refine vi_iload C 6 dL_sights_304 rfl ?_
      refine vi_icmp_ne (tgt := 319) C dL_sights_306 (by decide) (fun hc8 => ?_) (fun hc8 => ?_)
      · have h := ob_f h hc8
        refine vi_iconst (v := 0) C dL_sights_319 (by decide) ?_
        refine vi_sub C [0, 1, 2, 3, 4, 5, 6, 7, 8, 9, 10] rfl ?_
        exact hk_L_sights_320 C RET REC_234 ih  _ _ _ _ _ _ _ _ _ _ _ _ _ _ _ _ _ _ _ _ _ _ hkc h
      · have h := ob_t h hc8
        refine vi_iload C 9 dL_sights_309 rfl ?_
        refine vi_iconst (v := 2) C dL_sights_311 (by decide) ?_
        refine vi_icmp_ge (tgt := 319) C dL_sights_312 (by decide) (fun hc9 => ?_) (fun hc9 => ?_)
        · have h := ob_t h hc9
          refine vi_iconst (v := 0) C dL_sights_319 (by decide) ?_
          refine vi_sub C [0, 1, 2, 3, 4, 5, 6, 7, 8, 9, 10] rfl ?_
          exact hk_L_sights_320 C RET REC_234 ih  _ _ _ _ _ _ _ _ _ _ _ _ _ _ _ _ _ _ _ _ _ _ hkc h
        · have h := ob_f h hc9
          refine vi_iconst (v := 1) C dL_sights_315 (by decide) ?_
          refine vi_goto (tgt := 320) C dL_sights_316 (by decide) ?_
          refine vi_sub C [0, 1, 2, 3, 4, 5, 6, 7, 8, 9, 10] rfl ?_
          exact hk_L_sights_320 C RET REC_234 ih  _ _ _ _ _ _ _ _ _ _ _ _ _ _ _ _ _ _ _ _ _ _ hkc h
def hf_L_sights_252 (mc : Nat) (ms : Nat) : Nat → (Int32 → Int32 → Int32 → Int32 → Nat → (Nat → Int32) → Nat → (Nat → UInt32) → Nat → (Nat → Int32) → vZ → Nat → Nat → Option (Int32 × vZ)) → Int32 → Int32 → Int32 → Int32 → UInt32 → Int32 → Int32 → Nat → (Nat → Int32) → Nat → (Nat → UInt32) → Nat → (Nat → Int32) → vZ → Nat → Nat → Option (Int32 × vZ)
  | 0, _, _, _, _, _, _, _, _, _, _, _, _, _, _, _, _, _ => none
  | n + 1, rec_234, x1, x2, x3, x4, x5, x6, x7, n8, g9, n10, g11, n12, g13, u, kc, ks => (if x6 < 0 then hf_L_sights_291 mc ms vF rec_234 x1 x2 x3 x4 x5 (0 : Int32) (0 : Int32) x7 n8 g9 n10 g11 n12 g13 u kc ks else obp (fX7_sightOf x6 (0 : Int32) u) fun y3 u2 => (if y3 = x3 then bd ((x4 + (1 : Int32) : Int32)) fun y7 => bd ((x6 + (-1) : Int32)) fun y8 => hf_L_sights_252 mc ms n rec_234 x1 x2 x3 y7 x5 y8 x7 n8 g9 n10 g11 n12 g13 u2 kc ks else bd ((x4 + (0 : Int32) : Int32)) fun y5 => bd ((x6 + (-1) : Int32)) fun y6 => hf_L_sights_252 mc ms n rec_234 x1 x2 x3 y5 x5 y6 x7 n8 g9 n10 g11 n12 g13 u2 kc ks))
set_option maxRecDepth 100000 in
set_option maxHeartbeats 4000000 in
theorem hk_L_sights_252 {ad adK adV : Nat → Nat} {tS tF : Nat} {tX sK sV : Nat → Nat} {p : Program} {l : Launch} {e : Env} {s : State} {m : MethodId} {args : Array Value} {below : List Frame} {meth : Method} {c : Code} {A : Nat → Prop} {D : va_G} {cI cF cC cS cO cB cZ : ClassId} {Q : State → Prop} {q0 qs qo qt qv qr qx ql : Nat → Nat} {qh : Nat → Nat → Nat} {mc : Nat} {ms : Nat} (C : vC (vE ad adK adV tS tF tX sK sV) p l s m args meth c A D (vT7 cI cF cC cS cO cB cZ) cL_sights 13 RL) {r0 : Int32} {u0 : vZ} (RET : ∀ (q : Nat → Nat) (kc ks : Nat) (pc : Nat) (lv : List (Nat × Value)), (kc ≤ mc ∧ ks ≤ ms) → decode cL_sights pc = .ok (.ireturn, 1) → (r0 = 0 ∨ r0 = 1) → vV p l e { frames := 7, cells := mc, slots := ms, locals := 194 } s m args below meth c A D 13 kc ks Q ([] ++ wX q0 qs qo qt qv qr qx ql ad qh cI cF cC cS cO u0) pc lv [.int r0]) {rec_234 : Int32 → Int32 → Int32 → Int32 → Nat → (Nat → Int32) → Nat → (Nat → UInt32) → Nat → (Nat → Int32) → vZ → Nat → Nat → Option (Int32 × vZ)} (REC_234 : ∀ (b0 : Nat) (b1 : Nat) (b2 : Nat) (b3 : Nat) (x1 : Int32) (x2 : Int32) (x3 : Int32) (x4 : Int32) (n5 : Nat) (g6 : Nat → Int32) (n7 : Nat) (g8 : Nat → UInt32) (n9 : Nat) (g10 : Nat → Int32) (u : vZ) (kc : Nat) (ks : Nat), (kc ≤ mc ∧ ks ≤ ms) → rec_234 x1 x2 x3 x4 n5 g6 n7 g8 n9 g10 u kc ks = some (r0, u0) → vV p l e { frames := 7, cells := mc, slots := ms, locals := 194 } s m args below meth c A D 13 kc ks Q ([(b0, .inr (1, [.ref b1, .int (0 : Int32), .int (0 : Int32), .int x4])), (b1, .inl (cB, n5, .inl (g6))), (b2, .inl (cF, n7, .inr (.inr (.inl (g8))))), (b3, .inl (cZ, n9, .inl (g10)))] ++ wX q0 qs qo qt qv qr qx ql ad qh cI cF cC cS cO u) 234 [(0, .ref (q0 0)), (1, .int x1), (3, .ref b0), (4, .int x2), (5, .ref b2), (6, .ref b3), (7, .int x3)] []) : ∀ (n : Nat) (b0 : Nat) (b1 : Nat) (b2 : Nat) (b3 : Nat) (x1 : Int32) (x2 : Int32) (x3 : Int32) (x4 : Int32) (x5 : UInt32) (x6 : Int32) (x7 : Int32) (n8 : Nat) (g9 : Nat → Int32) (n10 : Nat) (g11 : Nat → UInt32) (n12 : Nat) (g13 : Nat → Int32) (u : vZ) (kc : Nat) (ks : Nat), (kc ≤ mc ∧ ks ≤ ms) → hf_L_sights_252 mc ms n rec_234 x1 x2 x3 x4 x5 x6 x7 n8 g9 n10 g11 n12 g13 u kc ks = some (r0, u0) → vV p l e { frames := 7, cells := mc, slots := ms, locals := 194 } s m args below meth c A D 13 kc ks Q ([(b0, .inr (1, [.ref b1, .int (0 : Int32), .int (0 : Int32), .int x7])), (b1, .inl (cB, n8, .inl (g9))), (b2, .inl (cF, n10, .inr (.inr (.inl (g11))))), (b3, .inl (cZ, n12, .inl (g13)))] ++ wX q0 qs qo qt qv qr qx ql ad qh cI cF cC cS cO u) 252 [(0, .ref (q0 0)), (1, .int x1), (3, .ref b0), (4, .int x2), (5, .ref b2), (6, .ref b3), (7, .int x3), (8, .int x4), (9, .float x5), (10, .int x6)] [] := by
  intro n
  induction n with
  | zero => intro b0 b1 b2 b3 x1 x2 x3 x4 x5 x6 x7 n8 g9 n10 g11 n12 g13 u kc ks hkc h; rw [hf_L_sights_252] at h; cases h
  | succ n ih =>
    intro b0 b1 b2 b3 x1 x2 x3 x4 x5 x6 x7 n8 g9 n10 g11 n12 g13 u kc ks hkc h
    rw [hf_L_sights_252] at h
    refine vi_iload C 9 dL_sights_252 rfl ?_
    refine vi_if_lt (tgt := 285) C dL_sights_254 (by decide) (fun hc1 => ?_) (fun hc1 => ?_)
    · have h := ob_t h hc1
      refine vi_iconst (v := 0) C dL_sights_285 (by decide) ?_
      refine vi_istore (lv' := [(10, .int (0 : Int32)), (0, .ref (q0 0)), (1, .int x1), (3, .ref b0), (4, .int x2), (5, .ref b2), (6, .ref b3), (7, .int x3), (8, .int x4), (9, .float x5)]) C dL_sights_286 (by decide) rfl ?_
      refine vi_iconst (v := 0) C dL_sights_288 (by decide) ?_
      refine vi_istore (lv' := [(11, .int (0 : Int32)), (10, .int (0 : Int32)), (0, .ref (q0 0)), (1, .int x1), (3, .ref b0), (4, .int x2), (5, .ref b2), (6, .ref b3), (7, .int x3), (8, .int x4), (9, .float x5)]) C dL_sights_289 (by decide) rfl ?_
      refine vi_sub C [2, 3, 4, 5, 6, 7, 8, 9, 10, 1, 0] rfl ?_
      exact hk_L_sights_291 C RET REC_234 vF _ _ _ _ _ _ _ _ _ _ _ _ _ _ _ _ _ _ _ _ _ hkc h
    · have h := ob_f h hc1
      refine vi_iload C 7 dL_sights_257 rfl ?_
      refine vi_aload_n C 0 dL_sights_259 rfl ?_
      refine vi_iload C 9 dL_sights_260 rfl ?_
      refine vi_iconst (v := 0) C dL_sights_262 (by decide) ?_
      obtain ⟨y3, u2, hgu2, h⟩ := ob_p h
      refine cY_i (As := [.int x6, .int (0 : Int32)]) (rest := [.int x4]) (ud := u2) C 4 (mX7_sightOf C.2.2.2.2.2.2.2.2.1 hgu2) 2 rfl tcX7_sightOf tlL_106 tiX7_sightOf tsX7_sightOf rfl tnX7 tdX7_sightOf ⟨Nat.le_of_ble_eq_true rfl, Nat.le_of_ble_eq_true rfl⟩ hkc rfl rfl (Nat.le_of_ble_eq_true rfl) dL_sights_263 ?_
      refine vi_iload C 6 dL_sights_266 rfl ?_
      refine vi_icmp_ne (tgt := 275) C dL_sights_268 (by decide) (fun hc4 => ?_) (fun hc4 => ?_)
      · have h := ob_f h hc4
        refine vi_iconst (v := 0) C dL_sights_275 (by decide) ?_
        refine vi_iadd C dL_sights_276 ?_
        obtain ⟨y5, ey5, h⟩ := ob_nm h
        refine vi_nmi ey5 ?_
        refine vi_istore (lv' := [(8, .int y5), (0, .ref (q0 0)), (1, .int x1), (3, .ref b0), (4, .int x2), (5, .ref b2), (6, .ref b3), (7, .int x3), (9, .float x5), (10, .int x6)]) C dL_sights_277 (by decide) rfl ?_
        obtain ⟨y6, ey6, h⟩ := ob_nm h
        refine vi_iinc (v := y6) (lv' := [(10, .int y6), (8, .int y5), (0, .ref (q0 0)), (1, .int x1), (3, .ref b0), (4, .int x2), (5, .ref b2), (6, .ref b3), (7, .int x3), (9, .float x5)]) C 9 dL_sights_279 rfl (by rw [ey6]; rfl) (by decide) rfl ?_
        refine vi_goto (tgt := 252) C dL_sights_282 (by decide) ?_
        refine vi_sub C [2, 3, 4, 5, 6, 7, 8, 1, 9, 0] rfl ?_
        exact ih _ _ _ _ _ _ _ _ _ _ _ _ _ _ _ _ _ _ _ _ hkc h
      · have h := ob_t h hc4
        refine vi_iconst (v := 1) C dL_sights_271 (by decide) ?_
        refine vi_goto (tgt := 276) C dL_sights_272 (by decide) ?_
        refine vi_iadd C dL_sights_276 ?_
        obtain ⟨y7, ey7, h⟩ := ob_nm h
        refine vi_nmi ey7 ?_
        refine vi_istore (lv' := [(8, .int y7), (0, .ref (q0 0)), (1, .int x1), (3, .ref b0), (4, .int x2), (5, .ref b2), (6, .ref b3), (7, .int x3), (9, .float x5), (10, .int x6)]) C dL_sights_277 (by decide) rfl ?_
        obtain ⟨y8, ey8, h⟩ := ob_nm h
        refine vi_iinc (v := y8) (lv' := [(10, .int y8), (8, .int y7), (0, .ref (q0 0)), (1, .int x1), (3, .ref b0), (4, .int x2), (5, .ref b2), (6, .ref b3), (7, .int x3), (9, .float x5)]) C 9 dL_sights_279 rfl (by rw [ey8]; rfl) (by decide) rfl ?_
        refine vi_goto (tgt := 252) C dL_sights_282 (by decide) ?_
        refine vi_sub C [2, 3, 4, 5, 6, 7, 8, 1, 9, 0] rfl ?_
        exact ih _ _ _ _ _ _ _ _ _ _ _ _ _ _ _ _ _ _ _ _ hkc h
def hf_L_sights_234 (mc : Nat) (ms : Nat) : Nat → Int32 → Int32 → Int32 → Int32 → Nat → (Nat → Int32) → Nat → (Nat → UInt32) → Nat → (Nat → Int32) → vZ → Nat → Nat → Option (Int32 × vZ)
  | 0, _, _, _, _, _, _, _, _, _, _, _, _, _ => none
  | n + 1, x1, x2, x3, x4, n5, g6, n7, g8, n9, g10, u, kc, ks => (if x2 ≤ x3 then hf_L_sights_515 mc ms vF x1 x2 (0 : Int32) x4 n5 g6 n7 g8 n9 g10 u kc ks else bd ((FP.fconst0 : UInt32)) fun y2 => bd ((x1 - (1 : Int32) : Int32)) fun y3 => hf_L_sights_252 mc ms vF (fun c0 c1 c2 c3 c4 c5 c6 c7 c8 c9 c10 c11 c12 => hf_L_sights_234 mc ms n  c0 c1 c2 c3 c4 c5 c6 c7 c8 c9 c10 c11 c12) x1 x2 x3 (0 : Int32) y2 y3 x4 n5 g6 n7 g8 n9 g10 u kc ks)
set_option maxRecDepth 100000 in
set_option maxHeartbeats 4000000 in
theorem hk_L_sights_234 {ad adK adV : Nat → Nat} {tS tF : Nat} {tX sK sV : Nat → Nat} {p : Program} {l : Launch} {e : Env} {s : State} {m : MethodId} {args : Array Value} {below : List Frame} {meth : Method} {c : Code} {A : Nat → Prop} {D : va_G} {cI cF cC cS cO cB cZ : ClassId} {Q : State → Prop} {q0 qs qo qt qv qr qx ql : Nat → Nat} {qh : Nat → Nat → Nat} {mc : Nat} {ms : Nat} (C : vC (vE ad adK adV tS tF tX sK sV) p l s m args meth c A D (vT7 cI cF cC cS cO cB cZ) cL_sights 13 RL) {r0 : Int32} {u0 : vZ} (RET : ∀ (q : Nat → Nat) (kc ks : Nat) (pc : Nat) (lv : List (Nat × Value)), (kc ≤ mc ∧ ks ≤ ms) → decode cL_sights pc = .ok (.ireturn, 1) → (r0 = 0 ∨ r0 = 1) → vV p l e { frames := 7, cells := mc, slots := ms, locals := 194 } s m args below meth c A D 13 kc ks Q ([] ++ wX q0 qs qo qt qv qr qx ql ad qh cI cF cC cS cO u0) pc lv [.int r0]) : ∀ (n : Nat) (b0 : Nat) (b1 : Nat) (b2 : Nat) (b3 : Nat) (x1 : Int32) (x2 : Int32) (x3 : Int32) (x4 : Int32) (n5 : Nat) (g6 : Nat → Int32) (n7 : Nat) (g8 : Nat → UInt32) (n9 : Nat) (g10 : Nat → Int32) (u : vZ) (kc : Nat) (ks : Nat), (kc ≤ mc ∧ ks ≤ ms) → hf_L_sights_234 mc ms n x1 x2 x3 x4 n5 g6 n7 g8 n9 g10 u kc ks = some (r0, u0) → vV p l e { frames := 7, cells := mc, slots := ms, locals := 194 } s m args below meth c A D 13 kc ks Q ([(b0, .inr (1, [.ref b1, .int (0 : Int32), .int (0 : Int32), .int x4])), (b1, .inl (cB, n5, .inl (g6))), (b2, .inl (cF, n7, .inr (.inr (.inl (g8))))), (b3, .inl (cZ, n9, .inl (g10)))] ++ wX q0 qs qo qt qv qr qx ql ad qh cI cF cC cS cO u) 234 [(0, .ref (q0 0)), (1, .int x1), (3, .ref b0), (4, .int x2), (5, .ref b2), (6, .ref b3), (7, .int x3)] [] := by
  intro n
  induction n with
  | zero => intro b0 b1 b2 b3 x1 x2 x3 x4 n5 g6 n7 g8 n9 g10 u kc ks hkc h; rw [hf_L_sights_234] at h; cases h
  | succ n ih =>
    intro b0 b1 b2 b3 x1 x2 x3 x4 n5 g6 n7 g8 n9 g10 u kc ks hkc h
    rw [hf_L_sights_234] at h
    refine vi_iload C 6 dL_sights_234 rfl ?_
    refine vi_iload C 3 dL_sights_236 rfl ?_
    refine vi_icmp_ge (tgt := 512) C dL_sights_238 (by decide) (fun hc1 => ?_) (fun hc1 => ?_)
    · have h := ob_t h hc1
      refine vi_iconst (v := 0) C dL_sights_512 (by decide) ?_
      refine vi_istore (lv' := [(7, .int (0 : Int32)), (0, .ref (q0 0)), (1, .int x1), (3, .ref b0), (4, .int x2), (5, .ref b2), (6, .ref b3)]) C dL_sights_513 (by decide) rfl ?_
      refine vi_sub C [1, 2, 3, 4, 5, 6, 0] rfl ?_
      exact hk_L_sights_515 C RET  vF _ _ _ _ _ _ _ _ _ _ _ _ _ _ _ _ _ hkc h
    · have h := ob_f h hc1
      refine vi_iconst (v := 0) C dL_sights_241 (by decide) ?_
      refine vi_istore (lv' := [(8, .int (0 : Int32)), (0, .ref (q0 0)), (1, .int x1), (3, .ref b0), (4, .int x2), (5, .ref b2), (6, .ref b3), (7, .int x3)]) C dL_sights_242 (by decide) rfl ?_
      refine vi_fconst0 C dL_sights_244 ?_
      obtain ⟨y2, ey2, h⟩ := ob_nm h
      refine vi_nmf ey2 ?_
      refine vi_fstore (lv' := [(9, .float y2), (8, .int (0 : Int32)), (0, .ref (q0 0)), (1, .int x1), (3, .ref b0), (4, .int x2), (5, .ref b2), (6, .ref b3), (7, .int x3)]) C dL_sights_245 (by decide) rfl ?_
      refine vi_iload_n C 3 dL_sights_247 rfl ?_
      refine vi_iconst (v := 1) C dL_sights_248 (by decide) ?_
      refine vi_isub C dL_sights_249 ?_
      obtain ⟨y3, ey3, h⟩ := ob_nm h
      refine vi_nmi ey3 ?_
      refine vi_istore (lv' := [(10, .int y3), (9, .float y2), (8, .int (0 : Int32)), (0, .ref (q0 0)), (1, .int x1), (3, .ref b0), (4, .int x2), (5, .ref b2), (6, .ref b3), (7, .int x3)]) C dL_sights_250 (by decide) rfl ?_
      refine vi_sub C [3, 4, 5, 6, 7, 8, 9, 2, 1, 0] rfl ?_
      exact hk_L_sights_252 C RET ih vF _ _ _ _ _ _ _ _ _ _ _ _ _ _ _ _ _ _ _ _ hkc h
def hf_L_sights_156 (mc : Nat) (ms : Nat) (rec_19 : Int32 → Int32 → Int32 → Int32 → Nat → (Nat → Int32) → vZ → Nat → Nat → Option (Int32 × vZ)) (x1 : Int32) (x2 : Int32) (x3 : Int32) (x4 : Int32) (x5 : Int32) (n6 : Nat) (g7 : Nat → Int32) (u : vZ) (kc : Nat) (ks : Nat) : Option (Int32 × vZ) := (if x4 = 0 then some ((0 : Int32), u) else obp (fX7_sightOf x2 (0 : Int32) u) fun y3 u2 => (if y3 < 0 then some ((0 : Int32), u2) else obp (fX7_sightOf x2 (0 : Int32) u2) fun y6 u5 => obp (fX7_account (0 : Int32) u5) fun y8 u7 => (if y8 ≤ y6 then some ((0 : Int32), u7) else obp (fX7_sightOf x2 (1 : Int32) u7) fun y11 u10 => obp (fX7_account (1 : Int32) u10) fun y13 u12 => (if y11 ≤ y13 then bd ((x2 + 1 : Int32)) fun y15 => rec_19 x1 x3 y15 x5 n6 g7 u12 kc ks else some ((0 : Int32), u12)))))
set_option maxRecDepth 100000 in
set_option maxHeartbeats 4000000 in
theorem hk_L_sights_156 {ad adK adV : Nat → Nat} {tS tF : Nat} {tX sK sV : Nat → Nat} {p : Program} {l : Launch} {e : Env} {s : State} {m : MethodId} {args : Array Value} {below : List Frame} {meth : Method} {c : Code} {A : Nat → Prop} {D : va_G} {cI cF cC cS cO cB cZ : ClassId} {Q : State → Prop} {q0 qs qo qt qv qr qx ql : Nat → Nat} {qh : Nat → Nat → Nat} {mc : Nat} {ms : Nat} (C : vC (vE ad adK adV tS tF tX sK sV) p l s m args meth c A D (vT7 cI cF cC cS cO cB cZ) cL_sights 13 RL) {r0 : Int32} {u0 : vZ} (RET : ∀ (q : Nat → Nat) (kc ks : Nat) (pc : Nat) (lv : List (Nat × Value)), (kc ≤ mc ∧ ks ≤ ms) → decode cL_sights pc = .ok (.ireturn, 1) → (r0 = 0 ∨ r0 = 1) → vV p l e { frames := 7, cells := mc, slots := ms, locals := 194 } s m args below meth c A D 13 kc ks Q ([] ++ wX q0 qs qo qt qv qr qx ql ad qh cI cF cC cS cO u0) pc lv [.int r0]) {rec_19 : Int32 → Int32 → Int32 → Int32 → Nat → (Nat → Int32) → vZ → Nat → Nat → Option (Int32 × vZ)} (REC_19 : ∀ (b0 : Nat) (b1 : Nat) (x1 : Int32) (x2 : Int32) (x3 : Int32) (x4 : Int32) (n5 : Nat) (g6 : Nat → Int32) (u : vZ) (kc : Nat) (ks : Nat), (kc ≤ mc ∧ ks ≤ ms) → rec_19 x1 x2 x3 x4 n5 g6 u kc ks = some (r0, u0) → vV p l e { frames := 7, cells := mc, slots := ms, locals := 194 } s m args below meth c A D 13 kc ks Q ([(b0, .inr (1, [.ref b1, .int (0 : Int32), .int (0 : Int32), .int x4])), (b1, .inl (cB, n5, .inl (g6)))] ++ wX q0 qs qo qt qv qr qx ql ad qh cI cF cC cS cO u) 19 [(0, .ref (q0 0)), (1, .int x1), (2, .int x2), (3, .ref b0), (4, .int x3)] []) : ∀ (b0 : Nat) (b1 : Nat) (x1 : Int32) (x2 : Int32) (x3 : Int32) (x4 : Int32) (x5 : Int32) (n6 : Nat) (g7 : Nat → Int32) (u : vZ) (kc : Nat) (ks : Nat), (kc ≤ mc ∧ ks ≤ ms) → hf_L_sights_156 mc ms rec_19 x1 x2 x3 x4 x5 n6 g7 u kc ks = some (r0, u0) → vV p l e { frames := 7, cells := mc, slots := ms, locals := 194 } s m args below meth c A D 13 kc ks Q ([(b0, .inr (1, [.ref b1, .int (0 : Int32), .int (0 : Int32), .int x5])), (b1, .inl (cB, n6, .inl (g7)))] ++ wX q0 qs qo qt qv qr qx ql ad qh cI cF cC cS cO u) 156 [(0, .ref (q0 0)), (1, .int x1), (3, .ref b0), (4, .int x2), (5, .int x3), (7, .int x4)] [] := by
  intro b0 b1 x1 x2 x3 x4 x5 n6 g7 u kc ks hkc h
  rw [hf_L_sights_156] at h
  refine vi_iload C 5 dL_sights_156 rfl ?_
  refine vi_if_eq (tgt := 201) C dL_sights_158 (by decide) (fun hc1 => ?_) (fun hc1 => ?_)
  · have h := ob_t h hc1
    refine vi_iconst (v := 0) C dL_sights_201 (by decide) ?_
    refine vi_pickX (ex2 := []) [] (by decide) rfl ?_
    cases h
    exact RET (fun j => [].getD j 0) _ _ _ _ hkc dL_sights_202 (by decide)
  · have h := ob_f h hc1
    refine vi_aload_n C 0 dL_sights_161 rfl ?_
    refine vi_iload C 3 dL_sights_162 rfl ?_
    refine vi_iconst (v := 0) C dL_sights_164 (by decide) ?_
    obtain ⟨y3, u2, hgu2, h⟩ := ob_p h
    refine cY_i (As := [.int x2, .int (0 : Int32)]) (rest := []) (ud := u2) C 2 (mX7_sightOf C.2.2.2.2.2.2.2.2.1 hgu2) 2 rfl tcX7_sightOf tlL_106 tiX7_sightOf tsX7_sightOf rfl tnX7 tdX7_sightOf ⟨Nat.le_of_ble_eq_true rfl, Nat.le_of_ble_eq_true rfl⟩ hkc rfl rfl (Nat.le_of_ble_eq_true rfl) dL_sights_165 ?_
    refine vi_if_lt (tgt := 201) C dL_sights_168 (by decide) (fun hc4 => ?_) (fun hc4 => ?_)
    · have h := ob_t h hc4
      refine vi_iconst (v := 0) C dL_sights_201 (by decide) ?_
      refine vi_pickX (ex2 := []) [] (by decide) rfl ?_
      cases h
      exact RET (fun j => [].getD j 0) _ _ _ _ hkc dL_sights_202 (by decide)
    · have h := ob_f h hc4
      refine vi_aload_n C 0 dL_sights_171 rfl ?_
      refine vi_iload C 3 dL_sights_172 rfl ?_
      refine vi_iconst (v := 0) C dL_sights_174 (by decide) ?_
      obtain ⟨y6, u5, hgu5, h⟩ := ob_p h
      refine cY_i (As := [.int x2, .int (0 : Int32)]) (rest := []) (ud := u5) C 2 (mX7_sightOf C.2.2.2.2.2.2.2.2.1 hgu5) 2 rfl tcX7_sightOf tlL_106 tiX7_sightOf tsX7_sightOf rfl tnX7 tdX7_sightOf ⟨Nat.le_of_ble_eq_true rfl, Nat.le_of_ble_eq_true rfl⟩ hkc rfl rfl (Nat.le_of_ble_eq_true rfl) dL_sights_175 ?_
      refine vi_aload_n C 0 dL_sights_178 rfl ?_
      refine vi_iconst (v := 0) C dL_sights_179 (by decide) ?_
      obtain ⟨y8, u7, hgu7, h⟩ := ob_p h
      refine cY_i (As := [.int (0 : Int32)]) (rest := [.int y6]) (ud := u7) C 2 (mX7_account C.2.2.2.2.2.2.2.2.1 hgu7) 1 rfl tcX7_account tlL_37 tiX7_account tsX7_account rfl tnX7 tdX7_account ⟨Nat.le_of_ble_eq_true rfl, Nat.le_of_ble_eq_true rfl⟩ hkc rfl rfl (Nat.le_of_ble_eq_true rfl) dL_sights_180 ?_
      refine vi_icmp_ge (tgt := 201) C dL_sights_183 (by decide) (fun hc9 => ?_) (fun hc9 => ?_)
      · have h := ob_t h hc9
        refine vi_iconst (v := 0) C dL_sights_201 (by decide) ?_
        refine vi_pickX (ex2 := []) [] (by decide) rfl ?_
        cases h
        exact RET (fun j => [].getD j 0) _ _ _ _ hkc dL_sights_202 (by decide)
      · have h := ob_f h hc9
        refine vi_aload_n C 0 dL_sights_186 rfl ?_
        refine vi_iload C 3 dL_sights_187 rfl ?_
        refine vi_iconst (v := 1) C dL_sights_189 (by decide) ?_
        obtain ⟨y11, u10, hgu10, h⟩ := ob_p h
        refine cY_i (As := [.int x2, .int (1 : Int32)]) (rest := []) (ud := u10) C 2 (mX7_sightOf C.2.2.2.2.2.2.2.2.1 hgu10) 2 rfl tcX7_sightOf tlL_106 tiX7_sightOf tsX7_sightOf rfl tnX7 tdX7_sightOf ⟨Nat.le_of_ble_eq_true rfl, Nat.le_of_ble_eq_true rfl⟩ hkc rfl rfl (Nat.le_of_ble_eq_true rfl) dL_sights_190 ?_
        refine vi_aload_n C 0 dL_sights_193 rfl ?_
        refine vi_iconst (v := 1) C dL_sights_194 (by decide) ?_
        obtain ⟨y13, u12, hgu12, h⟩ := ob_p h
        refine cY_i (As := [.int (1 : Int32)]) (rest := [.int y11]) (ud := u12) C 2 (mX7_account C.2.2.2.2.2.2.2.2.1 hgu12) 1 rfl tcX7_account tlL_37 tiX7_account tsX7_account rfl tnX7 tdX7_account ⟨Nat.le_of_ble_eq_true rfl, Nat.le_of_ble_eq_true rfl⟩ hkc rfl rfl (Nat.le_of_ble_eq_true rfl) dL_sights_195 ?_
        refine vi_icmp_le (tgt := 203) C dL_sights_198 (by decide) (fun hc14 => ?_) (fun hc14 => ?_)
        · have h := ob_t h hc14
          refine vi_iload C 4 dL_sights_203 rfl ?_
          refine vi_istore_n (lv' := [(2, .int x3), (0, .ref (q0 0)), (1, .int x1), (3, .ref b0), (4, .int x2), (5, .int x3), (7, .int x4)]) C dL_sights_205 rfl (by decide) rfl ?_
          obtain ⟨y15, ey15, h⟩ := ob_nm h
          refine vi_iinc (v := y15) (lv' := [(4, .int y15), (2, .int x3), (0, .ref (q0 0)), (1, .int x1), (3, .ref b0), (5, .int x3), (7, .int x4)]) C 4 dL_sights_206 rfl (by rw [ey15]; rfl) (by decide) rfl ?_
          refine vi_goto (tgt := 19) C dL_sights_209 (by decide) ?_
          refine vi_sub C [2, 3, 1, 4, 0] rfl ?_
          exact REC_19 _ _ _ _ _ _ _ _ _ _ _ hkc h
        · have h := ob_f h hc14
          refine vi_iconst (v := 0) C dL_sights_201 (by decide) ?_
          refine vi_pickX (ex2 := []) [] (by decide) rfl ?_
          cases h
          exact RET (fun j => [].getD j 0) _ _ _ _ hkc dL_sights_202 (by decide)
def hf_L_sights_134 (mc : Nat) (ms : Nat) (rec_19 : Int32 → Int32 → Int32 → Int32 → Nat → (Nat → Int32) → vZ → Nat → Nat → Option (Int32 × vZ)) (x1 : Int32) (x2 : Int32) (x3 : Int32) (x4 : Int32) (x5 : UInt32) (x6 : Int32) (x7 : Int32) (n8 : Nat) (g9 : Nat → Int32) (u : vZ) (kc : Nat) (ks : Nat) : Option (Int32 × vZ) := (if Op.cmpValue (FP.fcmp x5 (FP.fconst0)) CmpOp.g < 0 then some ((0 : Int32), u) else (if Op.cmpValue (FP.fcmp x5 (FP.fconst0)) CmpOp.l = 0 then (if x4 < x2 then some ((0 : Int32), u) else hf_L_sights_156 mc ms rec_19 x1 x3 x4 x6 x7 n8 g9 u kc ks) else hf_L_sights_156 mc ms rec_19 x1 x3 x4 x6 x7 n8 g9 u kc ks))
set_option maxRecDepth 100000 in
set_option maxHeartbeats 4000000 in
theorem hk_L_sights_134 {ad adK adV : Nat → Nat} {tS tF : Nat} {tX sK sV : Nat → Nat} {p : Program} {l : Launch} {e : Env} {s : State} {m : MethodId} {args : Array Value} {below : List Frame} {meth : Method} {c : Code} {A : Nat → Prop} {D : va_G} {cI cF cC cS cO cB cZ : ClassId} {Q : State → Prop} {q0 qs qo qt qv qr qx ql : Nat → Nat} {qh : Nat → Nat → Nat} {mc : Nat} {ms : Nat} (C : vC (vE ad adK adV tS tF tX sK sV) p l s m args meth c A D (vT7 cI cF cC cS cO cB cZ) cL_sights 13 RL) {r0 : Int32} {u0 : vZ} (RET : ∀ (q : Nat → Nat) (kc ks : Nat) (pc : Nat) (lv : List (Nat × Value)), (kc ≤ mc ∧ ks ≤ ms) → decode cL_sights pc = .ok (.ireturn, 1) → (r0 = 0 ∨ r0 = 1) → vV p l e { frames := 7, cells := mc, slots := ms, locals := 194 } s m args below meth c A D 13 kc ks Q ([] ++ wX q0 qs qo qt qv qr qx ql ad qh cI cF cC cS cO u0) pc lv [.int r0]) {rec_19 : Int32 → Int32 → Int32 → Int32 → Nat → (Nat → Int32) → vZ → Nat → Nat → Option (Int32 × vZ)} (REC_19 : ∀ (b0 : Nat) (b1 : Nat) (x1 : Int32) (x2 : Int32) (x3 : Int32) (x4 : Int32) (n5 : Nat) (g6 : Nat → Int32) (u : vZ) (kc : Nat) (ks : Nat), (kc ≤ mc ∧ ks ≤ ms) → rec_19 x1 x2 x3 x4 n5 g6 u kc ks = some (r0, u0) → vV p l e { frames := 7, cells := mc, slots := ms, locals := 194 } s m args below meth c A D 13 kc ks Q ([(b0, .inr (1, [.ref b1, .int (0 : Int32), .int (0 : Int32), .int x4])), (b1, .inl (cB, n5, .inl (g6)))] ++ wX q0 qs qo qt qv qr qx ql ad qh cI cF cC cS cO u) 19 [(0, .ref (q0 0)), (1, .int x1), (2, .int x2), (3, .ref b0), (4, .int x3)] []) : ∀ (b0 : Nat) (b1 : Nat) (x1 : Int32) (x2 : Int32) (x3 : Int32) (x4 : Int32) (x5 : UInt32) (x6 : Int32) (x7 : Int32) (n8 : Nat) (g9 : Nat → Int32) (u : vZ) (kc : Nat) (ks : Nat), (kc ≤ mc ∧ ks ≤ ms) → hf_L_sights_134 mc ms rec_19 x1 x2 x3 x4 x5 x6 x7 n8 g9 u kc ks = some (r0, u0) → vV p l e { frames := 7, cells := mc, slots := ms, locals := 194 } s m args below meth c A D 13 kc ks Q ([(b0, .inr (1, [.ref b1, .int (0 : Int32), .int (0 : Int32), .int x7])), (b1, .inl (cB, n8, .inl (g9)))] ++ wX q0 qs qo qt qv qr qx ql ad qh cI cF cC cS cO u) 134 [(0, .ref (q0 0)), (1, .int x1), (2, .int x2), (3, .ref b0), (4, .int x3), (5, .int x4), (6, .float x5)] [.int x6] := by
  intro b0 b1 x1 x2 x3 x4 x5 x6 x7 n8 g9 u kc ks hkc h
  rw [hf_L_sights_134] at h
  refine vi_istore (lv' := [(7, .int x6), (0, .ref (q0 0)), (1, .int x1), (2, .int x2), (3, .ref b0), (4, .int x3), (5, .int x4), (6, .float x5)]) C dL_sights_134 (by decide) rfl ?_
  refine vi_fload C 7 dL_sights_136 rfl ?_
  refine vi_fconst0 C dL_sights_138 ?_
  refine vi_fcmp C dL_sights_139 ?_
  refine vi_if_lt (tgt := 201) C dL_sights_140 (by decide) (fun hc1 => ?_) (fun hc1 => ?_)
  · have h := ob_t h hc1
    refine vi_iconst (v := 0) C dL_sights_201 (by decide) ?_
    refine vi_pickX (ex2 := []) [] (by decide) rfl ?_
    cases h
    exact RET (fun j => [].getD j 0) _ _ _ _ hkc dL_sights_202 (by decide)
  · have h := ob_f h hc1
    refine vi_fload C 7 dL_sights_143 rfl ?_
    refine vi_fconst0 C dL_sights_145 ?_
    refine vi_fcmp C dL_sights_146 ?_
    refine vi_if_ne (tgt := 156) C dL_sights_147 (by decide) (fun hc2 => ?_) (fun hc2 => ?_)
    · have h := ob_f h hc2
      refine vi_sub C [1, 2, 4, 5, 6, 0] rfl ?_
      exact hk_L_sights_156 C RET REC_19  _ _ _ _ _ _ _ _ _ _ _ _ hkc h
    · have h := ob_t h hc2
      refine vi_iload C 6 dL_sights_150 rfl ?_
      refine vi_iload_n C 3 dL_sights_152 rfl ?_
      refine vi_icmp_lt (tgt := 201) C dL_sights_153 (by decide) (fun hc3 => ?_) (fun hc3 => ?_)
      · have h := ob_t h hc3
        refine vi_iconst (v := 0) C dL_sights_201 (by decide) ?_
        refine vi_pickX (ex2 := []) [] (by decide) rfl ?_
        cases h
        exact RET (fun j => [].getD j 0) _ _ _ _ hkc dL_sights_202 (by decide)
      · have h := ob_f h hc3
        refine vi_sub C [1, 2, 4, 5, 6, 0] rfl ?_
        exact hk_L_sights_156 C RET REC_19  _ _ _ _ _ _ _ _ _ _ _ _ hkc h
def hf_L_sights_103 (mc : Nat) (ms : Nat) (rec_19 : Int32 → Int32 → Int32 → Int32 → Nat → (Nat → Int32) → vZ → Nat → Nat → Option (Int32 × vZ)) (x1 : Int32) (x2 : Int32) (x3 : Int32) (x4 : Int32) (x5 : UInt32) (x6 : Int32) (n7 : Nat) (g8 : Nat → Int32) (u : vZ) (kc : Nat) (ks : Nat) : Option (Int32 × vZ) := (if x3 = 0 then hf_L_sights_134 mc ms rec_19 x1 x2 x3 x4 x5 (1 : Int32) x6 n7 g8 u kc ks else obp (fX7_sightOf x3 (1 : Int32) u) fun y3 u2 => obp (fX7_sightOf (x3 - (1 : Int32)) (1 : Int32) u2) fun y5 u4 => (if y5 < y3 then hf_L_sights_134 mc ms rec_19 x1 x2 x3 x4 x5 (0 : Int32) x6 n7 g8 u4 kc ks else hf_L_sights_134 mc ms rec_19 x1 x2 x3 x4 x5 (1 : Int32) x6 n7 g8 u4 kc ks))
set_option maxRecDepth 100000 in
set_option maxHeartbeats 4000000 in
theorem hk_L_sights_103 {ad adK adV : Nat → Nat} {tS tF : Nat} {tX sK sV : Nat → Nat} {p : Program} {l : Launch} {e : Env} {s : State} {m : MethodId} {args : Array Value} {below : List Frame} {meth : Method} {c : Code} {A : Nat → Prop} {D : va_G} {cI cF cC cS cO cB cZ : ClassId} {Q : State → Prop} {q0 qs qo qt qv qr qx ql : Nat → Nat} {qh : Nat → Nat → Nat} {mc : Nat} {ms : Nat} (C : vC (vE ad adK adV tS tF tX sK sV) p l s m args meth c A D (vT7 cI cF cC cS cO cB cZ) cL_sights 13 RL) {r0 : Int32} {u0 : vZ} (RET : ∀ (q : Nat → Nat) (kc ks : Nat) (pc : Nat) (lv : List (Nat × Value)), (kc ≤ mc ∧ ks ≤ ms) → decode cL_sights pc = .ok (.ireturn, 1) → (r0 = 0 ∨ r0 = 1) → vV p l e { frames := 7, cells := mc, slots := ms, locals := 194 } s m args below meth c A D 13 kc ks Q ([] ++ wX q0 qs qo qt qv qr qx ql ad qh cI cF cC cS cO u0) pc lv [.int r0]) {rec_19 : Int32 → Int32 → Int32 → Int32 → Nat → (Nat → Int32) → vZ → Nat → Nat → Option (Int32 × vZ)} (REC_19 : ∀ (b0 : Nat) (b1 : Nat) (x1 : Int32) (x2 : Int32) (x3 : Int32) (x4 : Int32) (n5 : Nat) (g6 : Nat → Int32) (u : vZ) (kc : Nat) (ks : Nat), (kc ≤ mc ∧ ks ≤ ms) → rec_19 x1 x2 x3 x4 n5 g6 u kc ks = some (r0, u0) → vV p l e { frames := 7, cells := mc, slots := ms, locals := 194 } s m args below meth c A D 13 kc ks Q ([(b0, .inr (1, [.ref b1, .int (0 : Int32), .int (0 : Int32), .int x4])), (b1, .inl (cB, n5, .inl (g6)))] ++ wX q0 qs qo qt qv qr qx ql ad qh cI cF cC cS cO u) 19 [(0, .ref (q0 0)), (1, .int x1), (2, .int x2), (3, .ref b0), (4, .int x3)] []) : ∀ (b0 : Nat) (b1 : Nat) (x1 : Int32) (x2 : Int32) (x3 : Int32) (x4 : Int32) (x5 : UInt32) (x6 : Int32) (n7 : Nat) (g8 : Nat → Int32) (u : vZ) (kc : Nat) (ks : Nat), (kc ≤ mc ∧ ks ≤ ms) → hf_L_sights_103 mc ms rec_19 x1 x2 x3 x4 x5 x6 n7 g8 u kc ks = some (r0, u0) → vV p l e { frames := 7, cells := mc, slots := ms, locals := 194 } s m args below meth c A D 13 kc ks Q ([(b0, .inr (1, [.ref b1, .int (0 : Int32), .int (0 : Int32), .int x6])), (b1, .inl (cB, n7, .inl (g8)))] ++ wX q0 qs qo qt qv qr qx ql ad qh cI cF cC cS cO u) 103 [(0, .ref (q0 0)), (1, .int x1), (2, .int x2), (3, .ref b0), (4, .int x3), (5, .int x4)] [.float x5] := by
  intro b0 b1 x1 x2 x3 x4 x5 x6 n7 g8 u kc ks hkc h
  rw [hf_L_sights_103] at h
  refine vi_fstore (lv' := [(6, .float x5), (0, .ref (q0 0)), (1, .int x1), (2, .int x2), (3, .ref b0), (4, .int x3), (5, .int x4)]) C dL_sights_103 (by decide) rfl ?_
  refine vi_iload C 5 dL_sights_105 rfl ?_
  refine vi_if_eq (tgt := 129) C dL_sights_107 (by decide) (fun hc1 => ?_) (fun hc1 => ?_)
  · have h := ob_t h hc1
    refine vi_iconst (v := 1) C dL_sights_129 (by decide) ?_
    refine vi_goto (tgt := 134) C dL_sights_130 (by decide) ?_
    refine vi_sub C [1, 2, 3, 4, 5, 6, 0] rfl ?_
    exact hk_L_sights_134 C RET REC_19  _ _ _ _ _ _ _ _ _ _ _ _ _ _ hkc h
  · have h := ob_f h hc1
    refine vi_aload_n C 1 dL_sights_110 rfl ?_
    refine vi_iload C 5 dL_sights_111 rfl ?_
    refine vi_iconst (v := 1) C dL_sights_113 (by decide) ?_
    obtain ⟨y3, u2, hgu2, h⟩ := ob_p h
    refine cY_i (As := [.int x3, .int (1 : Int32)]) (rest := []) (ud := u2) C 2 (mX7_sightOf C.2.2.2.2.2.2.2.2.1 hgu2) 2 rfl tcX7_sightOf tlL_106 tiX7_sightOf tsX7_sightOf rfl tnX7 tdX7_sightOf ⟨Nat.le_of_ble_eq_true rfl, Nat.le_of_ble_eq_true rfl⟩ hkc rfl rfl (Nat.le_of_ble_eq_true rfl) dL_sights_114 ?_
    refine vi_aload_n C 1 dL_sights_117 rfl ?_
    refine vi_iload C 5 dL_sights_118 rfl ?_
    refine vi_iconst (v := 1) C dL_sights_120 (by decide) ?_
    refine vi_isub C dL_sights_121 ?_
    refine vi_iconst (v := 1) C dL_sights_122 (by decide) ?_
    obtain ⟨y5, u4, hgu4, h⟩ := ob_p h
    refine cY_i (As := [.int (x3 - (1 : Int32)), .int (1 : Int32)]) (rest := [.int y3]) (ud := u4) C 2 (mX7_sightOf C.2.2.2.2.2.2.2.2.1 hgu4) 2 rfl tcX7_sightOf tlL_106 tiX7_sightOf tsX7_sightOf rfl tnX7 tdX7_sightOf ⟨Nat.le_of_ble_eq_true rfl, Nat.le_of_ble_eq_true rfl⟩ hkc rfl rfl (Nat.le_of_ble_eq_true rfl) dL_sights_123 ?_
    refine vi_icmp_gt (tgt := 133) C dL_sights_126 (by decide) (fun hc6 => ?_) (fun hc6 => ?_)
    · have h := ob_t h hc6
      refine vi_iconst (v := 0) C dL_sights_133 (by decide) ?_
      refine vi_sub C [1, 2, 3, 4, 5, 6, 0] rfl ?_
      exact hk_L_sights_134 C RET REC_19  _ _ _ _ _ _ _ _ _ _ _ _ _ _ hkc h
    · have h := ob_f h hc6
      refine vi_iconst (v := 1) C dL_sights_129 (by decide) ?_
      refine vi_goto (tgt := 134) C dL_sights_130 (by decide) ?_
      refine vi_sub C [1, 2, 3, 4, 5, 6, 0] rfl ?_
      exact hk_L_sights_134 C RET REC_19  _ _ _ _ _ _ _ _ _ _ _ _ _ _ hkc h
def hf_L_sights_38 (mc : Nat) (ms : Nat) (rec_19 : Int32 → Int32 → Int32 → Int32 → Nat → (Nat → Int32) → vZ → Nat → Nat → Option (Int32 × vZ)) (x1 : Int32) (x2 : Int32) (x3 : Int32) (x4 : Nat) (x5 : Int32) (n6 : Nat) (g7 : Nat → Int32) (u : vZ) (kc : Nat) (ks : Nat) : Option (Int32 × vZ) := if kc + (gc1 (x5 + Int32.ofNat (vLlen.getD x4 0)) n6) ≤ mc ∧ ks + (gc2 (x5 + Int32.ofNat (vLlen.getD x4 0)) n6) ≤ ms then (hf_J4_append_15ec4_K (gc1 (x5 + Int32.ofNat (vLlen.getD x4 0)) n6) (gc2 (x5 + Int32.ofNat (vLlen.getD x4 0)) n6) x4 x5 n6 g7).bind fun z2 => bd (kc + (gc1 (x5 + Int32.ofNat (vLlen.getD x4 0)) n6)) fun kc4 => bd (ks + (gc2 (x5 + Int32.ofNat (vLlen.getD x4 0)) n6)) fun ks5 => obp (fX7_sightOf x3 (0 : Int32) u) fun y7 u6 => if kc4 + (gc1 (z2.1 + (fJ6_stringSize_0f7a4 y7).getD 0) (z2.2.1)) ≤ mc ∧ ks5 + (gc2 (z2.1 + (fJ6_stringSize_0f7a4 y7).getD 0) (z2.2.1)) ≤ ms then (hf_J4_append_bf812 (gc1 (z2.1 + (fJ6_stringSize_0f7a4 y7).getD 0) (z2.2.1)) (gc2 (z2.1 + (fJ6_stringSize_0f7a4 y7).getD 0) (z2.2.1)) y7 (z2.1) (z2.2.1) (z2.2.2)).bind fun z9 => bd (kc4 + (gc1 (z2.1 + (fJ6_stringSize_0f7a4 y7).getD 0) (z2.2.1))) fun kc11 => bd (ks5 + (gc2 (z2.1 + (fJ6_stringSize_0f7a4 y7).getD 0) (z2.2.1))) fun ks12 => if kc11 + (gc1 (z9.1 + 1) (z9.2.1)) ≤ mc ∧ ks12 + (gc2 (z9.1 + 1) (z9.2.1)) ≤ ms then (hf_J4_append_cf468 (gc1 (z9.1 + 1) (z9.2.1)) (gc2 (z9.1 + 1) (z9.2.1)) (58 : Int32) (z9.1) (z9.2.1) (z9.2.2)).bind fun z14 => bd (kc11 + (gc1 (z9.1 + 1) (z9.2.1))) fun kc16 => bd (ks12 + (gc2 (z9.1 + 1) (z9.2.1))) fun ks17 => obp (fX7_sightOf x3 (1 : Int32) u6) fun y19 u18 => if kc16 + (gc1 (z14.1 + (fJ6_stringSize_0f7a4 y19).getD 0) (z14.2.1)) ≤ mc ∧ ks17 + (gc2 (z14.1 + (fJ6_stringSize_0f7a4 y19).getD 0) (z14.2.1)) ≤ ms then (hf_J4_append_bf812 (gc1 (z14.1 + (fJ6_stringSize_0f7a4 y19).getD 0) (z14.2.1)) (gc2 (z14.1 + (fJ6_stringSize_0f7a4 y19).getD 0) (z14.2.1)) y19 (z14.1) (z14.2.1) (z14.2.2)).bind fun z21 => bd (kc16 + (gc1 (z14.1 + (fJ6_stringSize_0f7a4 y19).getD 0) (z14.2.1))) fun kc23 => bd (ks17 + (gc2 (z14.1 + (fJ6_stringSize_0f7a4 y19).getD 0) (z14.2.1))) fun ks24 => obp (fX7_ranked x3 u18) fun y26 u25 => (if 0 ≤ x2 then obp (fX7_sightOf x2 (2 : Int32) u25) fun y29 u28 => if vn_sni2f y29 = false then obp (fX7_sightOf y26 (2 : Int32) u28) fun y32 u31 => if vn_sni2f y32 = false then if (FP.fsub (Int32.toUInt32 y29) (Int32.toUInt32 y32)) &&& 0x7fffffff ≤ 0x7f800000 then hf_L_sights_103 mc ms rec_19 x1 x2 x3 y26 (FP.fsub (Int32.toUInt32 y29) (Int32.toUInt32 y32)) (z21.1) (z21.2.1) (z21.2.2) u31 kc23 ks24 else none else none else none else hf_L_sights_103 mc ms rec_19 x1 x2 x3 y26 (FP.fconst1) (z21.1) (z21.2.1) (z21.2.2) u25 kc23 ks24) else none else none else none else none
set_option maxRecDepth 100000 in
set_option maxHeartbeats 4000000 in
theorem hk_L_sights_38 {ad adK adV : Nat → Nat} {tS tF : Nat} {tX sK sV : Nat → Nat} {p : Program} {l : Launch} {e : Env} {s : State} {m : MethodId} {args : Array Value} {below : List Frame} {meth : Method} {c : Code} {A : Nat → Prop} {D : va_G} {cI cF cC cS cO cB cZ : ClassId} {Q : State → Prop} {q0 qs qo qt qv qr qx ql : Nat → Nat} {qh : Nat → Nat → Nat} {mc : Nat} {ms : Nat} (C : vC (vE ad adK adV tS tF tX sK sV) p l s m args meth c A D (vT7 cI cF cC cS cO cB cZ) cL_sights 13 RL) {r0 : Int32} {u0 : vZ} (RET : ∀ (q : Nat → Nat) (kc ks : Nat) (pc : Nat) (lv : List (Nat × Value)), (kc ≤ mc ∧ ks ≤ ms) → decode cL_sights pc = .ok (.ireturn, 1) → (r0 = 0 ∨ r0 = 1) → vV p l e { frames := 7, cells := mc, slots := ms, locals := 194 } s m args below meth c A D 13 kc ks Q ([] ++ wX q0 qs qo qt qv qr qx ql ad qh cI cF cC cS cO u0) pc lv [.int r0]) {rec_19 : Int32 → Int32 → Int32 → Int32 → Nat → (Nat → Int32) → vZ → Nat → Nat → Option (Int32 × vZ)} (REC_19 : ∀ (b0 : Nat) (b1 : Nat) (x1 : Int32) (x2 : Int32) (x3 : Int32) (x4 : Int32) (n5 : Nat) (g6 : Nat → Int32) (u : vZ) (kc : Nat) (ks : Nat), (kc ≤ mc ∧ ks ≤ ms) → rec_19 x1 x2 x3 x4 n5 g6 u kc ks = some (r0, u0) → vV p l e { frames := 7, cells := mc, slots := ms, locals := 194 } s m args below meth c A D 13 kc ks Q ([(b0, .inr (1, [.ref b1, .int (0 : Int32), .int (0 : Int32), .int x4])), (b1, .inl (cB, n5, .inl (g6)))] ++ wX q0 qs qo qt qv qr qx ql ad qh cI cF cC cS cO u) 19 [(0, .ref (q0 0)), (1, .int x1), (2, .int x2), (3, .ref b0), (4, .int x3)] []) : ∀ (b0 : Nat) (b1 : Nat) (x1 : Int32) (x2 : Int32) (x3 : Int32) (x4 : Nat) (x5 : Int32) (n6 : Nat) (g7 : Nat → Int32) (u : vZ) (kc : Nat) (ks : Nat), (kc ≤ mc ∧ ks ≤ ms) → hf_L_sights_38 mc ms rec_19 x1 x2 x3 x4 x5 n6 g7 u kc ks = some (r0, u0) → vV p l e { frames := 7, cells := mc, slots := ms, locals := 194 } s m args below meth c A D 13 kc ks Q ([(b0, .inr (1, [.ref b1, .int (0 : Int32), .int (0 : Int32), .int x5])), (b1, .inl (cB, n6, .inl (g7)))] ++ wX q0 qs qo qt qv qr qx ql ad qh cI cF cC cS cO u) 38 [(0, .ref (q0 0)), (1, .int x1), (2, .int x2), (3, .ref b0), (4, .int x3)] [.ref (sK x4), .ref b0] := by
  intro b0 b1 x1 x2 x3 x4 x5 n6 g7 u kc ks hkc h
  rw [hf_L_sights_38] at h
  obtain ⟨hz1, h⟩ := ob_ok h
  obtain ⟨z2, hgz2, h⟩ := ob_bd h
  refine vi_w C (w' := ([] ++ [(b0, .inr (1, [.ref b1, .int (0 : Int32), .int (0 : Int32), .int x5])), (b1, .inl (cB, n6, .inl (g7)))]) ++ wX q0 qs qo qt qv qr qx ql ad qh cI cF cC cS cO u) rfl ?_
  refine vi_swp ?_
  refine g_cr C (g_runV (T := TJ4) (N := 4) (ci := 1) (fs := [.ref b1, .int (0 : Int32), .int (0 : Int32), .int x5]) (As := [.ref (sK x4)]) (rest := []) (w1 := ([] ++ wX q0 qs qo qt qv qr qx ql ad qh cI cF cC cS cO u)) (wc := [(b0, .inr (1, [.ref b1, .int (0 : Int32), .int (0 : Int32), .int x5])), (b1, .inl (cB, n6, .inl (g7)))]) C (hm_J4_append_15ec4_K (a0 := b0) (a1 := b1) (mc := (gc1 (x5 + Int32.ofNat (vLlen.getD x4 0)) n6)) (ms := (gc2 (x5 + Int32.ofNat (vLlen.getD x4 0)) n6)) (ki := x4) (f0_3 := x5) (n1 := n6) (g1 := g7) (r_o1 := z2.1) (r_n2 := z2.2.1) (r_g3 := z2.2.2) C.2.2.2.2.2.2.2.2.1 hgz2) 1 rfl tcJ4_append_15ec4 tlL_100 tiJ4_append_15ec4 tsJ4_append_15ec4 tnJ4 tdJ4_append_15ec4 ⟨Nat.le_of_ble_eq_true rfl, Nat.le_of_ble_eq_true rfl⟩ hz1 (0 + 101 + 0) rfl rfl rfl (Nat.le_of_ble_eq_true rfl) dL_sights_38 rfl) rfl (fun q3 => ?_)
  refine vi_swp ?_
  refine vi_w C (w' := ([(b0, .inr (1, [.ref (q3 0), .int (0 : Int32), .int (0 : Int32), .int (z2.1)])), ((q3 0), .inl (cB, z2.2.1, .inl (z2.2.2)))] ++ wX q0 qs qo qt qv qr qx ql ad qh cI cF cC cS cO u)) rfl ?_
  obtain ⟨kc4, ekc4, h⟩ := ob_nm h
  obtain ⟨ks5, eks5, h⟩ := ob_nm h
  refine vi_kk ekc4.symm eks5.symm ?_
  rw [← ekc4, ← eks5] at hz1
  refine vi_aload_n C 0 dL_sights_41 rfl ?_
  refine vi_iload C 4 dL_sights_42 rfl ?_
  refine vi_iconst (v := 0) C dL_sights_44 (by decide) ?_
  obtain ⟨y7, u6, hgu6, h⟩ := ob_p h
  refine cY_i (As := [.int x3, .int (0 : Int32)]) (rest := [.ref b0]) (ud := u6) C 2 (mX7_sightOf C.2.2.2.2.2.2.2.2.1 hgu6) 2 rfl tcX7_sightOf tlL_106 tiX7_sightOf tsX7_sightOf rfl tnX7 tdX7_sightOf ⟨Nat.le_of_ble_eq_true rfl, Nat.le_of_ble_eq_true rfl⟩ hz1 rfl rfl (Nat.le_of_ble_eq_true rfl) dL_sights_45 ?_
  obtain ⟨hz8, h⟩ := ob_ok h
  obtain ⟨z9, hgz9, h⟩ := ob_bd h
  refine vi_w C (w' := ([] ++ [(b0, .inr (1, [.ref (q3 0), .int (0 : Int32), .int (0 : Int32), .int (z2.1)])), ((q3 0), .inl (cB, z2.2.1, .inl (z2.2.2)))]) ++ wX q0 qs qo qt qv qr qx ql ad qh cI cF cC cS cO u6) rfl ?_
  refine vi_swp ?_
  refine g_cr C (g_runV (T := TJ4) (N := 4) (ci := 1) (fs := [.ref (q3 0), .int (0 : Int32), .int (0 : Int32), .int (z2.1)]) (As := [.int y7]) (rest := []) (w1 := ([] ++ wX q0 qs qo qt qv qr qx ql ad qh cI cF cC cS cO u6)) (wc := [(b0, .inr (1, [.ref (q3 0), .int (0 : Int32), .int (0 : Int32), .int (z2.1)])), ((q3 0), .inl (cB, z2.2.1, .inl (z2.2.2)))]) C (hm_J4_append_bf812 (a0 := b0) (a1 := (q3 0)) (mc := (gc1 (z2.1 + (fJ6_stringSize_0f7a4 y7).getD 0) (z2.2.1))) (ms := (gc2 (z2.1 + (fJ6_stringSize_0f7a4 y7).getD 0) (z2.2.1))) (x1 := y7) (f0_3 := (z2.1)) (n1 := (z2.2.1)) (g1 := (z2.2.2)) (r_o1 := z9.1) (r_n2 := z9.2.1) (r_g3 := z9.2.2) C.2.2.2.2.2.2.2.2.1 hgz9) 1 rfl tcJ4_append_bf812 tlL_90 tiJ4_append_bf812 tsJ4_append_bf812 tnJ4 tdJ4_append_bf812 ⟨Nat.le_of_ble_eq_true rfl, Nat.le_of_ble_eq_true rfl⟩ hz8 (0 + 101 + 0) rfl rfl rfl (Nat.le_of_ble_eq_true rfl) dL_sights_48 rfl) rfl (fun q10 => ?_)
  refine vi_swp ?_
  refine vi_w C (w' := ([(b0, .inr (1, [.ref (q10 0), .int (0 : Int32), .int (0 : Int32), .int (z9.1)])), ((q10 0), .inl (cB, z9.2.1, .inl (z9.2.2)))] ++ wX q0 qs qo qt qv qr qx ql ad qh cI cF cC cS cO u6)) rfl ?_
  obtain ⟨kc11, ekc11, h⟩ := ob_nm h
  obtain ⟨ks12, eks12, h⟩ := ob_nm h
  refine vi_kk ekc11.symm eks12.symm ?_
  rw [← ekc11, ← eks12] at hz8
  refine vi_bipush (v := 58) C dL_sights_51 (by decide) ?_
  obtain ⟨hz13, h⟩ := ob_ok h
  obtain ⟨z14, hgz14, h⟩ := ob_bd h
  refine vi_w C (w' := ([] ++ [(b0, .inr (1, [.ref (q10 0), .int (0 : Int32), .int (0 : Int32), .int (z9.1)])), ((q10 0), .inl (cB, z9.2.1, .inl (z9.2.2)))]) ++ wX q0 qs qo qt qv qr qx ql ad qh cI cF cC cS cO u6) rfl ?_
  refine vi_swp ?_
  refine g_cr C (g_runV (T := TJ4) (N := 4) (ci := 1) (fs := [.ref (q10 0), .int (0 : Int32), .int (0 : Int32), .int (z9.1)]) (As := [.int (58 : Int32)]) (rest := []) (w1 := ([] ++ wX q0 qs qo qt qv qr qx ql ad qh cI cF cC cS cO u6)) (wc := [(b0, .inr (1, [.ref (q10 0), .int (0 : Int32), .int (0 : Int32), .int (z9.1)])), ((q10 0), .inl (cB, z9.2.1, .inl (z9.2.2)))]) C (hm_J4_append_cf468 (a0 := b0) (a1 := (q10 0)) (mc := (gc1 (z9.1 + 1) (z9.2.1))) (ms := (gc2 (z9.1 + 1) (z9.2.1))) (x1 := (58 : Int32)) (f0_3 := (z9.1)) (n1 := (z9.2.1)) (g1 := (z9.2.2)) (r_o1 := z14.1) (r_n2 := z14.2.1) (r_g3 := z14.2.2) C.2.2.2.2.2.2.2.2.1 hgz14) 1 rfl tcJ4_append_cf468 tlL_83 tiJ4_append_cf468 tsJ4_append_cf468 tnJ4 tdJ4_append_cf468 ⟨Nat.le_of_ble_eq_true rfl, Nat.le_of_ble_eq_true rfl⟩ hz13 (0 + 101 + 0) rfl rfl rfl (Nat.le_of_ble_eq_true rfl) dL_sights_53 rfl) rfl (fun q15 => ?_)
  refine vi_swp ?_
  refine vi_w C (w' := ([(b0, .inr (1, [.ref (q15 0), .int (0 : Int32), .int (0 : Int32), .int (z14.1)])), ((q15 0), .inl (cB, z14.2.1, .inl (z14.2.2)))] ++ wX q0 qs qo qt qv qr qx ql ad qh cI cF cC cS cO u6)) rfl ?_
  obtain ⟨kc16, ekc16, h⟩ := ob_nm h
  obtain ⟨ks17, eks17, h⟩ := ob_nm h
  refine vi_kk ekc16.symm eks17.symm ?_
  rw [← ekc16, ← eks17] at hz13
  refine vi_aload_n C 0 dL_sights_56 rfl ?_
  refine vi_iload C 4 dL_sights_57 rfl ?_
  refine vi_iconst (v := 1) C dL_sights_59 (by decide) ?_
  obtain ⟨y19, u18, hgu18, h⟩ := ob_p h
  refine cY_i (As := [.int x3, .int (1 : Int32)]) (rest := [.ref b0]) (ud := u18) C 2 (mX7_sightOf C.2.2.2.2.2.2.2.2.1 hgu18) 2 rfl tcX7_sightOf tlL_106 tiX7_sightOf tsX7_sightOf rfl tnX7 tdX7_sightOf ⟨Nat.le_of_ble_eq_true rfl, Nat.le_of_ble_eq_true rfl⟩ hz13 rfl rfl (Nat.le_of_ble_eq_true rfl) dL_sights_60 ?_
  obtain ⟨hz20, h⟩ := ob_ok h
  obtain ⟨z21, hgz21, h⟩ := ob_bd h
  refine vi_w C (w' := ([] ++ [(b0, .inr (1, [.ref (q15 0), .int (0 : Int32), .int (0 : Int32), .int (z14.1)])), ((q15 0), .inl (cB, z14.2.1, .inl (z14.2.2)))]) ++ wX q0 qs qo qt qv qr qx ql ad qh cI cF cC cS cO u18) rfl ?_
  refine vi_swp ?_
  refine g_cr C (g_runV (T := TJ4) (N := 4) (ci := 1) (fs := [.ref (q15 0), .int (0 : Int32), .int (0 : Int32), .int (z14.1)]) (As := [.int y19]) (rest := []) (w1 := ([] ++ wX q0 qs qo qt qv qr qx ql ad qh cI cF cC cS cO u18)) (wc := [(b0, .inr (1, [.ref (q15 0), .int (0 : Int32), .int (0 : Int32), .int (z14.1)])), ((q15 0), .inl (cB, z14.2.1, .inl (z14.2.2)))]) C (hm_J4_append_bf812 (a0 := b0) (a1 := (q15 0)) (mc := (gc1 (z14.1 + (fJ6_stringSize_0f7a4 y19).getD 0) (z14.2.1))) (ms := (gc2 (z14.1 + (fJ6_stringSize_0f7a4 y19).getD 0) (z14.2.1))) (x1 := y19) (f0_3 := (z14.1)) (n1 := (z14.2.1)) (g1 := (z14.2.2)) (r_o1 := z21.1) (r_n2 := z21.2.1) (r_g3 := z21.2.2) C.2.2.2.2.2.2.2.2.1 hgz21) 1 rfl tcJ4_append_bf812 tlL_90 tiJ4_append_bf812 tsJ4_append_bf812 tnJ4 tdJ4_append_bf812 ⟨Nat.le_of_ble_eq_true rfl, Nat.le_of_ble_eq_true rfl⟩ hz20 (0 + 101 + 0) rfl rfl rfl (Nat.le_of_ble_eq_true rfl) dL_sights_63 rfl) rfl (fun q22 => ?_)
  refine vi_swp ?_
  refine vi_w C (w' := ([(b0, .inr (1, [.ref (q22 0), .int (0 : Int32), .int (0 : Int32), .int (z21.1)])), ((q22 0), .inl (cB, z21.2.1, .inl (z21.2.2)))] ++ wX q0 qs qo qt qv qr qx ql ad qh cI cF cC cS cO u18)) rfl ?_
  obtain ⟨kc23, ekc23, h⟩ := ob_nm h
  obtain ⟨ks24, eks24, h⟩ := ob_nm h
  refine vi_kk ekc23.symm eks24.symm ?_
  rw [← ekc23, ← eks24] at hz20
  refine vi_pop C dL_sights_66 rfl ?_
  refine vi_aload_n C 0 dL_sights_67 rfl ?_
  refine vi_iload C 4 dL_sights_68 rfl ?_
  obtain ⟨y26, u25, hgu25, h⟩ := ob_p h
  refine cY_i (As := [.int x3]) (rest := []) (ud := u25) C 2 (mX7_ranked C.2.2.2.2.2.2.2.2.1 hgu25) 1 rfl tcX7_ranked tlL_169 tiX7_ranked tsX7_ranked rfl tnX7 tdX7_ranked ⟨Nat.le_of_ble_eq_true rfl, Nat.le_of_ble_eq_true rfl⟩ hz20 rfl rfl (Nat.le_of_ble_eq_true rfl) dL_sights_70 ?_
  refine vi_istore (lv' := [(5, .int y26), (0, .ref (q0 0)), (1, .int x1), (2, .int x2), (3, .ref b0), (4, .int x3)]) C dL_sights_73 (by decide) rfl ?_
  refine vi_iload_n C 3 dL_sights_75 rfl ?_
  refine vi_if_ge (tgt := 83) C dL_sights_76 (by decide) (fun hc27 => ?_) (fun hc27 => ?_)
  · have h := ob_t h hc27
    refine vi_aload_n C 1 dL_sights_83 rfl ?_
    refine vi_iload_n C 3 dL_sights_84 rfl ?_
    refine vi_iconst (v := 2) C dL_sights_85 (by decide) ?_
    obtain ⟨y29, u28, hgu28, h⟩ := ob_p h
    refine cY_i (As := [.int x2, .int (2 : Int32)]) (rest := []) (ud := u28) C 2 (mX7_sightOf C.2.2.2.2.2.2.2.2.1 hgu28) 2 rfl tcX7_sightOf tlL_106 tiX7_sightOf tsX7_sightOf rfl tnX7 tdX7_sightOf ⟨Nat.le_of_ble_eq_true rfl, Nat.le_of_ble_eq_true rfl⟩ hz20 rfl rfl (Nat.le_of_ble_eq_true rfl) dL_sights_86 ?_
    obtain ⟨hz30, h⟩ := ob_ok h
    refine vi_ib2f C hz30 dL_sights_89 tlL_172 tnat_intBitsToFloat tstat_intBitsToFloat tnJxf58ca (Nat.le_of_ble_eq_true rfl) (Nat.le_of_ble_eq_true rfl) ?_
    refine vi_aload_n C 1 dL_sights_92 rfl ?_
    refine vi_iload C 0 dL_sights_93 rfl ?_
    refine vi_iconst (v := 2) C dL_sights_95 (by decide) ?_
    obtain ⟨y32, u31, hgu31, h⟩ := ob_p h
    refine cY_i (As := [.int y26, .int (2 : Int32)]) (rest := [.float (Int32.toUInt32 y29)]) (ud := u31) C 2 (mX7_sightOf C.2.2.2.2.2.2.2.2.1 hgu31) 2 rfl tcX7_sightOf tlL_106 tiX7_sightOf tsX7_sightOf rfl tnX7 tdX7_sightOf ⟨Nat.le_of_ble_eq_true rfl, Nat.le_of_ble_eq_true rfl⟩ hz20 rfl rfl (Nat.le_of_ble_eq_true rfl) dL_sights_96 ?_
    obtain ⟨hz33, h⟩ := ob_ok h
    refine vi_ib2f C hz33 dL_sights_99 tlL_172 tnat_intBitsToFloat tstat_intBitsToFloat tnJxf58ca (Nat.le_of_ble_eq_true rfl) (Nat.le_of_ble_eq_true rfl) ?_
    obtain ⟨hz34, h⟩ := ob_ok h
    refine vi_fsub C dL_sights_102 hz34 ?_
    refine vi_sub C [1, 2, 3, 4, 5, 0] rfl ?_
    exact hk_L_sights_103 C RET REC_19  _ _ _ _ _ _ _ _ _ _ _ _ _ hz20 h
  · have h := ob_f h hc27
    refine vi_fconst1 C dL_sights_79 ?_
    refine vi_goto (tgt := 103) C dL_sights_80 (by decide) ?_
    refine vi_sub C [1, 2, 3, 4, 5, 0] rfl ?_
    exact hk_L_sights_103 C RET REC_19  _ _ _ _ _ _ _ _ _ _ _ _ _ hz20 h
def hf_L_sights_19 (mc : Nat) (ms : Nat) : Nat → Int32 → Int32 → Int32 → Int32 → Nat → (Nat → Int32) → vZ → Nat → Nat → Option (Int32 × vZ)
  | 0, _, _, _, _, _, _, _, _, _ => none
  | n + 1, x1, x2, x3, x4, n5, g6, u, kc, ks => (if x1 ≤ x3 then obp (fX7_account (0 : Int32) u) fun y3 u2 => if y3 < 0 ∨ 100000 < (Int32.toNatClampNeg y3) then none else if kc + 1 ≤ mc ∧ ks + (Int32.toNatClampNeg y3) ≤ ms then bd ((Int32.toNatClampNeg y3)) fun n6 => bd (kc + 1) fun kc8 => bd (ks + n6) fun ks9 => if y3 < 0 ∨ 100000 < (Int32.toNatClampNeg y3) then none else if kc8 + 1 ≤ mc ∧ ks9 + (Int32.toNatClampNeg y3) ≤ ms then bd ((Int32.toNatClampNeg y3)) fun n12 => bd (kc8 + 1) fun kc14 => bd (ks9 + n12) fun ks15 => hf_L_sights_234 mc ms vF x1 y3 (0 : Int32) x4 n5 g6 n6 (fun _ => 0) n12 (fun _ => 0) u2 kc14 ks15 else none else none else (if x3 = 0 then hf_L_sights_38 mc ms (fun c0 c1 c2 c3 c4 c5 c6 c7 c8 => hf_L_sights_19 mc ms n  c0 c1 c2 c3 c4 c5 c6 c7 c8) x1 x2 x3 (1) x4 n5 g6 u kc ks else hf_L_sights_38 mc ms (fun c0 c1 c2 c3 c4 c5 c6 c7 c8 => hf_L_sights_19 mc ms n  c0 c1 c2 c3 c4 c5 c6 c7 c8) x1 x2 x3 (2) x4 n5 g6 u kc ks))
set_option maxRecDepth 100000 in
set_option maxHeartbeats 4000000 in
theorem hk_L_sights_19 {ad adK adV : Nat → Nat} {tS tF : Nat} {tX sK sV : Nat → Nat} {p : Program} {l : Launch} {e : Env} {s : State} {m : MethodId} {args : Array Value} {below : List Frame} {meth : Method} {c : Code} {A : Nat → Prop} {D : va_G} {cI cF cC cS cO cB cZ : ClassId} {Q : State → Prop} {q0 qs qo qt qv qr qx ql : Nat → Nat} {qh : Nat → Nat → Nat} {mc : Nat} {ms : Nat} (C : vC (vE ad adK adV tS tF tX sK sV) p l s m args meth c A D (vT7 cI cF cC cS cO cB cZ) cL_sights 13 RL) {r0 : Int32} {u0 : vZ} (RET : ∀ (q : Nat → Nat) (kc ks : Nat) (pc : Nat) (lv : List (Nat × Value)), (kc ≤ mc ∧ ks ≤ ms) → decode cL_sights pc = .ok (.ireturn, 1) → (r0 = 0 ∨ r0 = 1) → vV p l e { frames := 7, cells := mc, slots := ms, locals := 194 } s m args below meth c A D 13 kc ks Q ([] ++ wX q0 qs qo qt qv qr qx ql ad qh cI cF cC cS cO u0) pc lv [.int r0]) : ∀ (n : Nat) (b0 : Nat) (b1 : Nat) (x1 : Int32) (x2 : Int32) (x3 : Int32) (x4 : Int32) (n5 : Nat) (g6 : Nat → Int32) (u : vZ) (kc : Nat) (ks : Nat), (kc ≤ mc ∧ ks ≤ ms) → hf_L_sights_19 mc ms n x1 x2 x3 x4 n5 g6 u kc ks = some (r0, u0) → vV p l e { frames := 7, cells := mc, slots := ms, locals := 194 } s m args below meth c A D 13 kc ks Q ([(b0, .inr (1, [.ref b1, .int (0 : Int32), .int (0 : Int32), .int x4])), (b1, .inl (cB, n5, .inl (g6)))] ++ wX q0 qs qo qt qv qr qx ql ad qh cI cF cC cS cO u) 19 [(0, .ref (q0 0)), (1, .int x1), (2, .int x2), (3, .ref b0), (4, .int x3)] [] := by
  intro n
  induction n with
  | zero => intro b0 b1 x1 x2 x3 x4 n5 g6 u kc ks hkc h; rw [hf_L_sights_19] at h; cases h
  | succ n ih =>
    intro b0 b1 x1 x2 x3 x4 n5 g6 u kc ks hkc h
    rw [hf_L_sights_19] at h
    refine vi_iload C 4 dL_sights_19 rfl ?_
    refine vi_iload_n C 1 dL_sights_21 rfl ?_
    refine vi_icmp_ge (tgt := 212) C dL_sights_22 (by decide) (fun hc1 => ?_) (fun hc1 => ?_)
    · have h := ob_t h hc1
      refine vi_aload_n C 0 dL_sights_212 rfl ?_
      refine vi_iconst (v := 0) C dL_sights_213 (by decide) ?_
      obtain ⟨y3, u2, hgu2, h⟩ := ob_p h
      refine cY_i (As := [.int (0 : Int32)]) (rest := []) (ud := u2) C 2 (mX7_account C.2.2.2.2.2.2.2.2.1 hgu2) 1 rfl tcX7_account tlL_37 tiX7_account tsX7_account rfl tnX7 tdX7_account ⟨Nat.le_of_ble_eq_true rfl, Nat.le_of_ble_eq_true rfl⟩ hkc rfl rfl (Nat.le_of_ble_eq_true rfl) dL_sights_214 ?_
      refine vi_istore (lv' := [(4, .int y3), (0, .ref (q0 0)), (1, .int x1), (2, .int x2), (3, .ref b0)]) C dL_sights_217 (by decide) rfl ?_
      refine vi_iload C 0 dL_sights_219 rfl ?_
      obtain ⟨hz4, h⟩ := ob_if h
      obtain ⟨hz5, h⟩ := ob_ok h
      obtain ⟨n6, en6, h⟩ := ob_nm h
      rw [← en6] at hz5
      refine vi_newa (atype := .float) (ty := .float) (cA := cF) (N := n6) (a0 := (n6, .inr (.inr (.inl (fun _ => 0))))) C 1 tac_float rfl rfl (fun _ => rfl) (fun z => hz4 (Or.inl z)) en6.symm (by rw [en6]; exact (gle8 hz4)) hz5.1 hz5.2 dL_sights_221 (fun a7 => ?_)
      refine vi_swp ?_
      refine vi_w C (w' := ([(b0, .inr (1, [.ref b1, .int (0 : Int32), .int (0 : Int32), .int x4])), (b1, .inl (cB, n5, .inl (g6))), (a7, .inl (cF, n6, .inr (.inr (.inl (fun _ => 0)))))] ++ wX q0 qs qo qt qv qr qx ql ad qh cI cF cC cS cO u2)) rfl ?_
      obtain ⟨kc8, ekc8, h⟩ := ob_nm h
      obtain ⟨ks9, eks9, h⟩ := ob_nm h
      refine vi_kk ekc8.symm eks9.symm ?_
      rw [← ekc8, ← eks9] at hz5
      refine vi_astore (lv' := [(5, .ref a7), (4, .int y3), (0, .ref (q0 0)), (1, .int x1), (2, .int x2), (3, .ref b0)]) C dL_sights_223 (by decide) rfl ?_
      refine vi_iload C 1 dL_sights_225 rfl ?_
      obtain ⟨hz10, h⟩ := ob_if h
      obtain ⟨hz11, h⟩ := ob_ok h
      obtain ⟨n12, en12, h⟩ := ob_nm h
      rw [← en12] at hz11
      refine vi_newa (atype := .boolean) (ty := .boolean) (cA := cZ) (N := n12) (a0 := (n12, .inl (fun _ => 0))) C 6 tac_boolean rfl rfl (fun _ => rfl) (fun z => hz10 (Or.inl z)) en12.symm (by rw [en12]; exact (gle8 hz10)) hz11.1 hz11.2 dL_sights_227 (fun a13 => ?_)
      refine vi_swp ?_
      refine vi_w C (w' := ([(b0, .inr (1, [.ref b1, .int (0 : Int32), .int (0 : Int32), .int x4])), (b1, .inl (cB, n5, .inl (g6))), (a7, .inl (cF, n6, .inr (.inr (.inl (fun _ => 0))))), (a13, .inl (cZ, n12, .inl (fun _ => 0)))] ++ wX q0 qs qo qt qv qr qx ql ad qh cI cF cC cS cO u2)) rfl ?_
      obtain ⟨kc14, ekc14, h⟩ := ob_nm h
      obtain ⟨ks15, eks15, h⟩ := ob_nm h
      refine vi_kk ekc14.symm eks15.symm ?_
      rw [← ekc14, ← eks15] at hz11
      refine vi_astore (lv' := [(6, .ref a13), (5, .ref a7), (4, .int y3), (0, .ref (q0 0)), (1, .int x1), (2, .int x2), (3, .ref b0)]) C dL_sights_229 (by decide) rfl ?_
      refine vi_iconst (v := 0) C dL_sights_231 (by decide) ?_
      refine vi_istore (lv' := [(7, .int (0 : Int32)), (6, .ref a13), (5, .ref a7), (4, .int y3), (0, .ref (q0 0)), (1, .int x1), (2, .int x2), (3, .ref b0)]) C dL_sights_232 (by decide) rfl ?_
      refine vi_sub C [4, 5, 7, 3, 2, 1, 0] rfl ?_
      exact hk_L_sights_234 C RET  vF _ _ _ _ _ _ _ _ _ _ _ _ _ _ _ _ _ hz11 h
    · have h := ob_f h hc1
      refine vi_aload_n C 3 dL_sights_25 rfl ?_
      refine vi_iload C 4 dL_sights_26 rfl ?_
      refine vi_if_ne (tgt := 36) C dL_sights_28 (by decide) (fun hc16 => ?_) (fun hc16 => ?_)
      · have h := ob_f h hc16
        refine vi_ldcs C (vE_x C).2.2.2.1 dL_sights_36 ?_
        refine vi_sub C [0, 1, 2, 3, 4] rfl ?_
        exact hk_L_sights_38 C RET ih  _ _ _ _ _ _ _ _ _ _ _ _ hkc h
      · have h := ob_t h hc16
        refine vi_ldcs C (vE_x C).2.2.1 dL_sights_31 ?_
        refine vi_goto (tgt := 38) C dL_sights_33 (by decide) ?_
        refine vi_sub C [0, 1, 2, 3, 4] rfl ?_
        exact hk_L_sights_38 C RET ih  _ _ _ _ _ _ _ _ _ _ _ _ hkc h
def hf_L_sights (mc : Nat) (ms : Nat) (u : vZ) : Option (Int32 × vZ) := obp (fX7_account (3 : Int32) u) fun y2 u1 => if 0 + 1 ≤ mc ∧ 0 + 4 ≤ ms then bd (0 + 1) fun kc5 => bd (0 + 4) fun ks6 => if kc5 + (1) ≤ mc ∧ ks6 + (16) ≤ ms then (hf_J4_init_da8c8 (1) (16)).bind fun z8 => bd (kc5 + (1)) fun kc10 => bd (ks6 + (16)) fun ks11 => hf_L_sights_19 mc ms vF y2 (-1 : Int32) (0 : Int32) (0 : Int32) (z8.1) (z8.2) u1 kc10 ks11 else none else none
set_option maxRecDepth 100000 in
set_option maxHeartbeats 4000000 in
theorem hk_L_sights_e {ad adK adV : Nat → Nat} {tS tF : Nat} {tX sK sV : Nat → Nat} {p : Program} {l : Launch} {e : Env} {s : State} {m : MethodId} {args : Array Value} {below : List Frame} {meth : Method} {c : Code} {A : Nat → Prop} {D : va_G} {cI cF cC cS cO cB cZ : ClassId} {Q : State → Prop} {q0 qs qo qt qv qr qx ql : Nat → Nat} {qh : Nat → Nat → Nat} {mc : Nat} {ms : Nat} (C : vC (vE ad adK adV tS tF tX sK sV) p l s m args meth c A D (vT7 cI cF cC cS cO cB cZ) cL_sights 13 RL) {r0 : Int32} {u0 : vZ} (RET : ∀ (q : Nat → Nat) (kc ks : Nat) (pc : Nat) (lv : List (Nat × Value)), (kc ≤ mc ∧ ks ≤ ms) → decode cL_sights pc = .ok (.ireturn, 1) → (r0 = 0 ∨ r0 = 1) → vV p l e { frames := 7, cells := mc, slots := ms, locals := 194 } s m args below meth c A D 13 kc ks Q ([] ++ wX q0 qs qo qt qv qr qx ql ad qh cI cF cC cS cO u0) pc lv [.int r0]) {u : vZ} (h : hf_L_sights mc ms u = some (r0, u0)) : vV p l e { frames := 7, cells := mc, slots := ms, locals := 194 } s m args below meth c A D 13 (0) (0) Q ([] ++ wX q0 qs qo qt qv qr qx ql ad qh cI cF cC cS cO u) 0 [(0, .ref (q0 0))] [] := by
  rw [hf_L_sights] at h
  refine vi_aload_n C 0 dL_sights_0 rfl ?_
  refine vi_iconst (v := 3) C dL_sights_1 (by decide) ?_
  obtain ⟨y2, u1, hgu1, h⟩ := ob_p h
  refine cY_i (As := [.int (3 : Int32)]) (rest := []) (ud := u1) C 0 (mX7_account C.2.2.2.2.2.2.2.2.1 hgu1) 1 rfl tcX7_account tlL_37 tiX7_account tsX7_account rfl tnX7 tdX7_account ⟨Nat.le_of_ble_eq_true rfl, Nat.le_of_ble_eq_true rfl⟩ ⟨Nat.zero_le _, Nat.zero_le _⟩ rfl rfl (Nat.le_of_ble_eq_true rfl) dL_sights_2 ?_
  refine vi_istore_n (lv' := [(1, .int y2), (0, .ref (q0 0))]) C dL_sights_5 rfl (by decide) rfl ?_
  refine vi_iconst (v := (-1)) C dL_sights_6 (by decide) ?_
  refine vi_istore_n (lv' := [(2, .int (-1 : Int32)), (1, .int y2), (0, .ref (q0 0))]) C dL_sights_7 rfl (by decide) rfl ?_
  obtain ⟨hz3, h⟩ := ob_ok h
  refine vi_new (ci := 1) (fs := [.null, .int (0 : Int32), .int (0 : Int32), .int (0 : Int32)]) C inJ4w tyJ4 tyJ4_ok tlcL_77 tinst_J4 tnJ4 rfl (by decide +kernel) hz3.1 hz3.2 dL_sights_8 (fun a4 => ?_)
  refine vi_swp ?_
  refine vi_w C (w' := ([(a4, .inr (1, [.null, .int (0 : Int32), .int (0 : Int32), .int (0 : Int32)]))] ++ wX q0 qs qo qt qv qr qx ql ad qh cI cF cC cS cO u1)) rfl ?_
  obtain ⟨kc5, ekc5, h⟩ := ob_nm h
  obtain ⟨ks6, eks6, h⟩ := ob_nm h
  refine vi_kk ekc5.symm eks6.symm ?_
  rw [← ekc5, ← eks6] at hz3
  refine vi_dup C dL_sights_11 rfl ?_
  obtain ⟨hz7, h⟩ := ob_ok h
  obtain ⟨z8, hgz8, h⟩ := ob_bd h
  refine vi_w C (w' := ([] ++ [(a4, .inr (1, [.null, .int (0 : Int32), .int (0 : Int32), .int (0 : Int32)]))]) ++ wX q0 qs qo qt qv qr qx ql ad qh cI cF cC cS cO u1) rfl ?_
  refine vi_swp ?_
  refine g_cv C (g_runI (As := []) (rest := [.ref a4]) (w1 := ([] ++ wX q0 qs qo qt qv qr qx ql ad qh cI cF cC cS cO u1)) (wc := [(a4, .inr (1, [.null, .int (0 : Int32), .int (0 : Int32), .int (0 : Int32)]))]) C (hm_J4_init_da8c8 (a0 := a4) (mc := (1)) (ms := (16)) (r_n1 := z8.1) (r_g2 := z8.2) C.2.2.2.2.2.2.2.2.1 hgz8) 0 rfl tcJ4_init_da8c8 tlL_79 tiJ4_init_da8c8 rfl tnJ4 tdJ4_init_da8c8 ⟨Nat.le_of_ble_eq_true rfl, Nat.le_of_ble_eq_true rfl⟩ hz7 rfl (Nat.le_of_ble_eq_true rfl) dL_sights_12 rfl) rfl (fun q9 => ?_)
  refine vi_swp ?_
  refine vi_w C (w' := ([(a4, .inr (1, [.ref (q9 0), .int (0 : Int32), .int (0 : Int32), .int (0 : Int32)])), ((q9 0), .inl (cB, z8.1, .inl (z8.2)))] ++ wX q0 qs qo qt qv qr qx ql ad qh cI cF cC cS cO u1)) rfl ?_
  obtain ⟨kc10, ekc10, h⟩ := ob_nm h
  obtain ⟨ks11, eks11, h⟩ := ob_nm h
  refine vi_kk ekc10.symm eks11.symm ?_
  rw [← ekc10, ← eks11] at hz7
  refine vi_astore_n (lv' := [(3, .ref a4), (2, .int (-1 : Int32)), (1, .int y2), (0, .ref (q0 0))]) C dL_sights_15 rfl (by decide) rfl ?_
  refine vi_iconst (v := 0) C dL_sights_16 (by decide) ?_
  refine vi_istore (lv' := [(4, .int (0 : Int32)), (3, .ref a4), (2, .int (-1 : Int32)), (1, .int y2), (0, .ref (q0 0))]) C dL_sights_17 (by decide) rfl ?_
  refine vi_sub C [4, 3, 2, 1, 0] rfl ?_
  exact hk_L_sights_19 C RET  vF _ _ _ _ _ _ _ _ _ _ _ hz7 h
theorem hm_L_sights {ad adK adV : Nat → Nat} {tS tF : Nat} {tX sK sV : Nat → Nat} (hE : vEok (vE ad adK adV tS tF tX sK sV)) {l : Launch} {D : va_G} {cI cF cC cS cO cB cZ : ClassId} {q0 qs qo qt qv qr qx ql : Nat → Nat} {qh : Nat → Nat → Nat} {mc : Nat} {ms : Nat} {r0 : Int32} {u0 : vZ} {u : vZ} (h : hf_L_sights mc ms u = some (r0, u0)) : vG (vE ad adK adV tS tF tX sK sV) l yL_sights cL_sights 13 (some .boolean) 7 194 mc ms D (vT7 cI cF cC cS cO cB cZ) [.ref (q0 0)] ([] ++ wX q0 qs qo qt qv qr qx ql ad qh cI cF cC cS cO u) (gQi D (fun q => ([] ++ wX q0 qs qo qt qv qr qx ql ad qh cI cF cC cS cO u0)) r0) :=
  vG_of hE (by decide +kernel) (Nat.le_of_ble_eq_true rfl) (fun p e s m args below meth c A C hr hin => hk_L_sights_e C (fun q kc ks pc lv hk hd hz => g_reti (WQ := (fun q => ([] ++ wX q0 qs qo qt qv qr qx ql ad qh cI cF cC cS cO u0))) C hr (by rcases hz with rfl | rfl <;> rfl) q rfl hk hd) h)
