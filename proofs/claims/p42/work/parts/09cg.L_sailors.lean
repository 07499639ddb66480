def hf_L_sailors_591 (mc : Nat) (ms : Nat) (x1 : Int32) (x2 : Int32) (x3 : Int64) (x4 : UInt64) (u : vZ) (kc : Nat) (ks : Nat) : Option (Int32 × vZ) := obp (fX7_account (5 : Int32) u) fun y2 u1 => (if y2 = x2 then obp (fX7_account (6 : Int32) u1) fun y5 u4 => obp (fX7_account (7 : Int32) u4) fun y7 u6 => obp (fX7_account (8 : Int32) u6) fun y9 u8 => (if y5 = (x2 + y7) + y9 then obp (fX7_meanAngle u8) fun y12 u11 => (if Op.cmpValue (FP.dcmp y12 x4) CmpOp.l = 0 then obp (fX7_packed u11) fun y15 u14 => (if lg_cmp y15 x3 = 0 then obp (fX7_isCounted u14) fun y18 u17 => (if y18 = 0 then some ((0 : Int32), u17) else obp (fX7_highest x1 u17) fun y21 u20 => (if y21 = (-100001 : Int32) then obp (fX7_write x1 u20) fun y24 u23 => (if y24 = (-100001 : Int32) then obp (fX7_angle x1 u23) fun y27 u26 => (if Op.cmpValue (FP.fcmp y27 (FP.fconst0)) CmpOp.l = 0 then obp (fX7_readBits x1 u26) fun y30 u29 => (if y30 = (-100001 : Int32) then obp (fX7_watchOf (4 : Int32) (0 : Int32) u29) fun y33 u32 => (if y33 = (-100001 : Int32) then some ((1 : Int32), u32) else some ((0 : Int32), u32)) else some ((0 : Int32), u29)) else some ((0 : Int32), u26)) else some ((0 : Int32), u23)) else some ((0 : Int32), u20))) else some ((0 : Int32), u14)) else some ((0 : Int32), u11)) else some ((0 : Int32), u8)) else some ((0 : Int32), u1))
set_option maxRecDepth 100000 in
set_option maxHeartbeats 4000000 in
theorem hk_L_sailors_591 {ad adK adV : Nat → Nat} {tS tF : Nat} {tX sK sV : Nat → Nat} {p : Program} {l : Launch} {e : Env} {s : State} {m : MethodId} {args : Array Value} {below : List Frame} {meth : Method} {c : Code} {A : Nat → Prop} {D : va_G} {cI cF cC cS cO cB cZ : ClassId} {Q : State → Prop} {q0 qs qo qt qv qr qx ql : Nat → Nat} {qh : Nat → Nat → Nat} {mc : Nat} {ms : Nat} (C : vC (vE ad adK adV tS tF tX sK sV) p l s m args meth c A D (vT7 cI cF cC cS cO cB cZ) cL_sailors 16 RL) {r0 : Int32} {u0 : vZ} (RET : ∀ (q : Nat → Nat) (kc ks : Nat) (pc : Nat) (lv : List (Nat × Value)), (kc ≤ mc ∧ ks ≤ ms) → decode cL_sailors pc = .ok (.ireturn, 1) → (r0 = 0 ∨ r0 = 1) → vV p l e { frames := 9, cells := mc, slots := ms, locals := 214 } s m args below meth c A D 16 kc ks Q ([] ++ wX q0 qs qo qt qv qr qx ql ad qh cI cF cC cS cO u0) pc lv [.int r0]) : ∀ (x1 : Int32) (x2 : Int32) (x3 : Int64) (x4 : UInt64) (u : vZ) (kc : Nat) (ks : Nat), (kc ≤ mc ∧ ks ≤ ms) → hf_L_sailors_591 mc ms x1 x2 x3 x4 u kc ks = some (r0, u0) → vV p l e { frames := 9, cells := mc, slots := ms, locals := 214 } s m args below meth c A D 16 kc ks Q ([] ++ wX q0 qs qo qt qv qr qx ql ad qh cI cF cC cS cO u) 591 [(0, .ref (q0 0)), (1, .int x1), (2, .int x2), (5, .long x3)] [.double x4] := by
  intro x1 x2 x3 x4 u kc ks hkc h
  rw [hf_L_sailors_591] at h
  refine vi_dstore (lv' := [(7, .double x4), (0, .ref (q0 0)), (1, .int x1), (2, .int x2), (5, .long x3)]) C dL_sailors_591 (by decide) rfl ?_
  refine vi_aload_n C 1 dL_sailors_593 rfl ?_
  refine vi_iconst (v := 5) C dL_sailors_594 (by decide) ?_
  obtain ⟨y2, u1, hgu1, h⟩ := ob_p h
  refine cY_i (As := [.int (5 : Int32)]) (rest := []) (ud := u1) C 0 (mX7_account C.2.2.2.2.2.2.2.2.1 hgu1) 1 rfl tcX7_account tlL_37 tiX7_account tsX7_account rfl tnX7 tdX7_account ⟨Nat.le_of_ble_eq_true rfl, Nat.le_of_ble_eq_true rfl⟩ hkc rfl rfl (Nat.le_of_ble_eq_true rfl) dL_sailors_595 ?_
  refine vi_iload_n C 3 dL_sailors_598 rfl ?_
  refine vi_icmp_ne (tgt := 708) C dL_sailors_599 (by decide) (fun hc3 => ?_) (fun hc3 => ?_)
  · have h := ob_f h hc3
    refine vi_iconst (v := 0) C dL_sailors_708 (by decide) ?_
    cases h
    exact RET (fun j => [].getD j 0) _ _ _ _ hkc dL_sailors_709 (by decide)
  · have h := ob_t h hc3
    refine vi_aload_n C 1 dL_sailors_602 rfl ?_
    refine vi_bipush (v := 6) C dL_sailors_603 (by decide) ?_
    obtain ⟨y5, u4, hgu4, h⟩ := ob_p h
    refine cY_i (As := [.int (6 : Int32)]) (rest := []) (ud := u4) C 0 (mX7_account C.2.2.2.2.2.2.2.2.1 hgu4) 1 rfl tcX7_account tlL_37 tiX7_account tsX7_account rfl tnX7 tdX7_account ⟨Nat.le_of_ble_eq_true rfl, Nat.le_of_ble_eq_true rfl⟩ hkc rfl rfl (Nat.le_of_ble_eq_true rfl) dL_sailors_605 ?_
    refine vi_iload_n C 3 dL_sailors_608 rfl ?_
    refine vi_aload_n C 1 dL_sailors_609 rfl ?_
    refine vi_bipush (v := 7) C dL_sailors_610 (by decide) ?_
    obtain ⟨y7, u6, hgu6, h⟩ := ob_p h
    refine cY_i (As := [.int (7 : Int32)]) (rest := [.int x2, .int y5]) (ud := u6) C 0 (mX7_account C.2.2.2.2.2.2.2.2.1 hgu6) 1 rfl tcX7_account tlL_37 tiX7_account tsX7_account rfl tnX7 tdX7_account ⟨Nat.le_of_ble_eq_true rfl, Nat.le_of_ble_eq_true rfl⟩ hkc rfl rfl (Nat.le_of_ble_eq_true rfl) dL_sailors_612 ?_
    refine vi_iadd C dL_sailors_615 ?_
    refine vi_aload_n C 1 dL_sailors_616 rfl ?_
    refine vi_bipush (v := 8) C dL_sailors_617 (by decide) ?_
    obtain ⟨y9, u8, hgu8, h⟩ := ob_p h
    refine cY_i (As := [.int (8 : Int32)]) (rest := [.int (x2 + y7), .int y5]) (ud := u8) C 0 (mX7_account C.2.2.2.2.2.2.2.2.1 hgu8) 1 rfl tcX7_account tlL_37 tiX7_account tsX7_account rfl tnX7 tdX7_account ⟨Nat.le_of_ble_eq_true rfl, Nat.le_of_ble_eq_true rfl⟩ hkc rfl rfl (Nat.le_of_ble_eq_true rfl) dL_sailors_619 ?_
    refine vi_iadd C dL_sailors_622 ?_
    refine vi_icmp_ne (tgt := 708) C dL_sailors_623 (by decide) (fun hc10 => ?_) (fun hc10 => ?_)
    · have h := ob_f h hc10
      refine vi_iconst (v := 0) C dL_sailors_708 (by decide) ?_
      cases h
      exact RET (fun j => [].getD j 0) _ _ _ _ hkc dL_sailors_709 (by decide)
    · have h := ob_t h hc10
      refine vi_aload_n C 1 dL_sailors_626 rfl ?_
      obtain ⟨y12, u11, hgu11, h⟩ := ob_p h
      refine cY_d (As := []) (rest := []) (ud := u11) C 0 (mX7_meanAngle C.2.2.2.2.2.2.2.2.1 hgu11) 0 rfl tcX7_meanAngle tlL_154 tiX7_meanAngle tsX7_meanAngle rfl tnX7 tdX7_meanAngle ⟨Nat.le_of_ble_eq_true rfl, Nat.le_of_ble_eq_true rfl⟩ hkc rfl rfl (Nat.le_of_ble_eq_true rfl) dL_sailors_627 ?_
      refine vi_dload C 0 dL_sailors_630 rfl ?_
      refine vi_dcmp C dL_sailors_632 ?_
      refine vi_if_ne (tgt := 708) C dL_sailors_633 (by decide) (fun hc13 => ?_) (fun hc13 => ?_)
      · have h := ob_f h hc13
        refine vi_iconst (v := 0) C dL_sailors_708 (by decide) ?_
        cases h
        exact RET (fun j => [].getD j 0) _ _ _ _ hkc dL_sailors_709 (by decide)
      · have h := ob_t h hc13
        refine vi_aload_n C 1 dL_sailors_636 rfl ?_
        obtain ⟨y15, u14, hgu14, h⟩ := ob_p h
        refine cY_l (As := []) (rest := []) (ud := u14) C 0 (mX7_packed C.2.2.2.2.2.2.2.2.1 hgu14) 0 rfl tcX7_packed tlL_158 tiX7_packed tsX7_packed rfl tnX7 tdX7_packed ⟨Nat.le_of_ble_eq_true rfl, Nat.le_of_ble_eq_true rfl⟩ hkc rfl rfl (Nat.le_of_ble_eq_true rfl) dL_sailors_637 ?_
        refine vi_lload C 4 dL_sailors_640 rfl ?_
        refine vi_lcmp C dL_sailors_642 ?_
        refine vi_if_ne (tgt := 708) C dL_sailors_643 (by decide) (fun hc16 => ?_) (fun hc16 => ?_)
        · have h := ob_f h hc16
          refine vi_iconst (v := 0) C dL_sailors_708 (by decide) ?_
          cases h
          exact RET (fun j => [].getD j 0) _ _ _ _ hkc dL_sailors_709 (by decide)
        · have h := ob_t h hc16
          refine vi_aload_n C 1 dL_sailors_646 rfl ?_
          obtain ⟨y18, u17, hgu17, h⟩ := ob_p h
          refine cY_i (As := []) (rest := []) (ud := u17) C 0 (mX7_isCounted C.2.2.2.2.2.2.2.2.1 hgu17) 0 rfl tcX7_isCounted tlL_162 tiX7_isCounted tsX7_isCounted rfl tnX7 tdX7_isCounted ⟨Nat.le_of_ble_eq_true rfl, Nat.le_of_ble_eq_true rfl⟩ hkc rfl rfl (Nat.le_of_ble_eq_true rfl) dL_sailors_647 ?_
          refine vi_if_eq (tgt := 708) C dL_sailors_650 (by decide) (fun hc19 => ?_) (fun hc19 => ?_)
          · have h := ob_t h hc19
            refine vi_iconst (v := 0) C dL_sailors_708 (by decide) ?_
            cases h
            exact RET (fun j => [].getD j 0) _ _ _ _ hkc dL_sailors_709 (by decide)
          · have h := ob_f h hc19
            refine vi_aload_n C 1 dL_sailors_653 rfl ?_
            refine vi_iload_n C 2 dL_sailors_654 rfl ?_
            obtain ⟨y21, u20, hgu20, h⟩ := ob_p h
            refine cY_i (As := [.int x1]) (rest := []) (ud := u20) C 0 (mX7_highest C.2.2.2.2.2.2.2.2.1 hgu20) 1 rfl tcX7_highest tlL_134 tiX7_highest tsX7_highest rfl tnX7 tdX7_highest ⟨Nat.le_of_ble_eq_true rfl, Nat.le_of_ble_eq_true rfl⟩ hkc rfl rfl (Nat.le_of_ble_eq_true rfl) dL_sailors_655 ?_
            refine vi_ldc (v := (-100001)) C dL_sailors_658 tkL_166 ?_
            refine vi_icmp_ne (tgt := 708) C dL_sailors_660 (by decide) (fun hc22 => ?_) (fun hc22 => ?_)
            · have h := ob_f h hc22
              refine vi_iconst (v := 0) C dL_sailors_708 (by decide) ?_
              cases h
              exact RET (fun j => [].getD j 0) _ _ _ _ hkc dL_sailors_709 (by decide)
            · have h := ob_t h hc22
              refine vi_aload_n C 1 dL_sailors_663 rfl ?_
              refine vi_iload_n C 2 dL_sailors_664 rfl ?_
              obtain ⟨y24, u23, hgu23, h⟩ := ob_p h
              refine cY_i (As := [.int x1]) (rest := []) (ud := u23) C 0 (mX7_write C.2.2.2.2.2.2.2.2.1 hgu23) 1 rfl tcX7_write tlL_93 tiX7_write tsX7_write rfl tnX7 tdX7_write ⟨Nat.le_of_ble_eq_true rfl, Nat.le_of_ble_eq_true rfl⟩ hkc rfl rfl (Nat.le_of_ble_eq_true rfl) dL_sailors_665 ?_
              refine vi_ldc (v := (-100001)) C dL_sailors_668 tkL_166 ?_
              refine vi_icmp_ne (tgt := 708) C dL_sailors_670 (by decide) (fun hc25 => ?_) (fun hc25 => ?_)
              · have h := ob_f h hc25
                refine vi_iconst (v := 0) C dL_sailors_708 (by decide) ?_
                cases h
                exact RET (fun j => [].getD j 0) _ _ _ _ hkc dL_sailors_709 (by decide)
              · have h := ob_t h hc25
                refine vi_aload_n C 1 dL_sailors_673 rfl ?_
                refine vi_iload_n C 2 dL_sailors_674 rfl ?_
                obtain ⟨y27, u26, hgu26, h⟩ := ob_p h
                refine cY_f (As := [.int x1]) (rest := []) (ud := u26) C 0 (mX7_angle C.2.2.2.2.2.2.2.2.1 hgu26) 1 rfl tcX7_angle tlL_137 tiX7_angle tsX7_angle rfl tnX7 tdX7_angle ⟨Nat.le_of_ble_eq_true rfl, Nat.le_of_ble_eq_true rfl⟩ hkc rfl rfl (Nat.le_of_ble_eq_true rfl) dL_sailors_675 ?_
                refine vi_fconst0 C dL_sailors_678 ?_
                refine vi_fcmp C dL_sailors_679 ?_
                refine vi_if_ne (tgt := 708) C dL_sailors_680 (by decide) (fun hc28 => ?_) (fun hc28 => ?_)
                · have h := ob_f h hc28
                  refine vi_iconst (v := 0) C dL_sailors_708 (by decide) ?_
                  cases h
                  exact RET (fun j => [].getD j 0) _ _ _ _ hkc dL_sailors_709 (by decide)
                · have h := ob_t h hc28
                  refine vi_aload_n C 1 dL_sailors_683 rfl ?_
                  refine vi_iload_n C 2 dL_sailors_684 rfl ?_
                  obtain ⟨y30, u29, hgu29, h⟩ := ob_p h
                  refine cY_i (As := [.int x1]) (rest := []) (ud := u29) C 0 (mX7_readBits C.2.2.2.2.2.2.2.2.1 hgu29) 1 rfl tcX7_readBits tlL_141 tiX7_readBits tsX7_readBits rfl tnX7 tdX7_readBits ⟨Nat.le_of_ble_eq_true rfl, Nat.le_of_ble_eq_true rfl⟩ hkc rfl rfl (Nat.le_of_ble_eq_true rfl) dL_sailors_685 ?_
                  refine vi_ldc (v := (-100001)) C dL_sailors_688 tkL_166 ?_
                  refine vi_icmp_ne (tgt := 708) C dL_sailors_690 (by decide) (fun hc31 => ?_) (fun hc31 => ?_)
                  · have h := ob_f h hc31
                    refine vi_iconst (v := 0) C dL_sailors_708 (by decide) ?_
                    cases h
                    exact RET (fun j => [].getD j 0) _ _ _ _ hkc dL_sailors_709 (by decide)
                  · have h := ob_t h hc31
                    refine vi_aload_n C 1 dL_sailors_693 rfl ?_
                    refine vi_iconst (v := 4) C dL_sailors_694 (by decide) ?_
                    refine vi_iconst (v := 0) C dL_sailors_695 (by decide) ?_
                    obtain ⟨y33, u32, hgu32, h⟩ := ob_p h
                    refine cY_i (As := [.int (4 : Int32), .int (0 : Int32)]) (rest := []) (ud := u32) C 0 (mX7_watchOf C.2.2.2.2.2.2.2.2.1 hgu32) 2 rfl tcX7_watchOf tlL_103 tiX7_watchOf tsX7_watchOf rfl tnX7 tdX7_watchOf ⟨Nat.le_of_ble_eq_true rfl, Nat.le_of_ble_eq_true rfl⟩ hkc rfl rfl (Nat.le_of_ble_eq_true rfl) dL_sailors_696 ?_
                    refine vi_ldc (v := (-100001)) C dL_sailors_699 tkL_166 ?_
                    refine vi_icmp_ne (tgt := 708) C dL_sailors_701 (by decide) (fun hc34 => ?_) (fun hc34 => ?_)
                    · have h := ob_f h hc34
                      refine vi_iconst (v := 0) C dL_sailors_708 (by decide) ?_
                      cases h
                      exact RET (fun j => [].getD j 0) _ _ _ _ hkc dL_sailors_709 (by decide)
                    · have h := ob_t h hc34
                      refine vi_iconst (v := 1) C dL_sailors_704 (by decide) ?_
                      refine vi_goto (tgt := 709) C dL_sailors_705 (by decide) ?_
                      cases h
                      exact RET (fun j => [].getD j 0) _ _ _ _ hkc dL_sailors_709 (by decide)
def hf_L_sailors_497 (mc : Nat) (ms : Nat) (rec_420 : Int32 → Int32 → Int32 → Int64 → Int32 → vZ → Nat → Nat → Option (Int32 × vZ)) (rec_434 : Int32 → Int32 → Int32 → Int64 → Int32 → Int32 → (Nat → Int32) → vZ → Nat → Nat → Option (Int32 × vZ)) (x1 : Int32) (x2 : Int32) (x3 : Int32) (x4 : Int64) (x5 : Int32) (x6 : Int32) (x7 : Int32) (x8 : Int32) (x9 : Int32) (x10 : Int32) (g11 : Nat → Int32) (u : vZ) (kc : Nat) (ks : Nat) : Option (Int32 × vZ) := if x10 < 0 ∨ 3 ≤ Int32.toNatClampNeg x10 then none else bd ((upd g11 (Int32.toNatClampNeg x10) (x9 + x8) : Nat → Int32)) fun g2 => if (2 : Int32) < 0 ∨ 3 ≤ Int32.toNatClampNeg (2 : Int32) then none else (if x7 = 0 then if (2 : Int32) < 0 ∨ 3 ≤ Int32.toNatClampNeg (2 : Int32) then none else bd ((upd g2 (Int32.toNatClampNeg (2 : Int32)) ((g2 (Int32.toNatClampNeg (2 : Int32))) + (0 : Int32)) : Nat → Int32)) fun g6 => bd ((x6 + 1 : Int32)) fun y7 => rec_434 x1 x2 x3 x4 x5 y7 g6 u kc ks else obp (fX7_sailorOf x6 (4 : Int32) u) fun y9 u8 => if (2 : Int32) < 0 ∨ 3 ≤ Int32.toNatClampNeg (2 : Int32) then none else bd ((upd g2 (Int32.toNatClampNeg (2 : Int32)) ((g2 (Int32.toNatClampNeg (2 : Int32))) + y9) : Nat → Int32)) fun g11 => bd ((x6 + 1 : Int32)) fun y12 => rec_434 x1 x2 x3 x4 x5 y12 g11 u8 kc ks)
set_option maxRecDepth 100000 in
set_option maxHeartbeats 4000000 in
theorem hk_L_sailors_497 {ad adK adV : Nat → Nat} {tS tF : Nat} {tX sK sV : Nat → Nat} {p : Program} {l : Launch} {e : Env} {s : State} {m : MethodId} {args : Array Value} {below : List Frame} {meth : Method} {c : Code} {A : Nat → Prop} {D : va_G} {cI cF cC cS cO cB cZ : ClassId} {Q : State → Prop} {q0 qs qo qt qv qr qx ql : Nat → Nat} {qh : Nat → Nat → Nat} {mc : Nat} {ms : Nat} (C : vC (vE ad adK adV tS tF tX sK sV) p l s m args meth c A D (vT7 cI cF cC cS cO cB cZ) cL_sailors 16 RL) {r0 : Int32} {u0 : vZ} (RET : ∀ (q : Nat → Nat) (kc ks : Nat) (pc : Nat) (lv : List (Nat × Value)), (kc ≤ mc ∧ ks ≤ ms) → decode cL_sailors pc = .ok (.ireturn, 1) → (r0 = 0 ∨ r0 = 1) → vV p l e { frames := 9, cells := mc, slots := ms, locals := 214 } s m args below meth c A D 16 kc ks Q ([] ++ wX q0 qs qo qt qv qr qx ql ad qh cI cF cC cS cO u0) pc lv [.int r0]) {rec_420 : Int32 → Int32 → Int32 → Int64 → Int32 → vZ → Nat → Nat → Option (Int32 × vZ)} (REC_420 : ∀ (x1 : Int32) (x2 : Int32) (x3 : Int32) (x4 : Int64) (x5 : Int32) (u : vZ) (kc : Nat) (ks : Nat), (kc ≤ mc ∧ ks ≤ ms) → rec_420 x1 x2 x3 x4 x5 u kc ks = some (r0, u0) → vV p l e { frames := 9, cells := mc, slots := ms, locals := 214 } s m args below meth c A D 16 kc ks Q ([] ++ wX q0 qs qo qt qv qr qx ql ad qh cI cF cC cS cO u) 420 [(0, .ref (q0 0)), (1, .int x1), (2, .int x2), (3, .int x3), (5, .long x4), (7, .int x5)] []) {rec_434 : Int32 → Int32 → Int32 → Int64 → Int32 → Int32 → (Nat → Int32) → vZ → Nat → Nat → Option (Int32 × vZ)} (REC_434 : ∀ (b0 : Nat) (x1 : Int32) (x2 : Int32) (x3 : Int32) (x4 : Int64) (x5 : Int32) (x6 : Int32) (g7 : Nat → Int32) (u : vZ) (kc : Nat) (ks : Nat), (kc ≤ mc ∧ ks ≤ ms) → rec_434 x1 x2 x3 x4 x5 x6 g7 u kc ks = some (r0, u0) → vV p l e { frames := 9, cells := mc, slots := ms, locals := 214 } s m args below meth c A D 16 kc ks Q ([(b0, .inl (cI, 3, .inl (g7)))] ++ wX q0 qs qo qt qv qr qx ql ad qh cI cF cC cS cO u) 434 [(0, .ref (q0 0)), (1, .int x1), (2, .int x2), (3, .int x3), (5, .long x4), (7, .int x5), (8, .ref b0), (9, .int x6)] []) : ∀ (b0 : Nat) (x1 : Int32) (x2 : Int32) (x3 : Int32) (x4 : Int64) (x5 : Int32) (x6 : Int32) (x7 : Int32) (x8 : Int32) (x9 : Int32) (x10 : Int32) (g11 : Nat → Int32) (u : vZ) (kc : Nat) (ks : Nat), (kc ≤ mc ∧ ks ≤ ms) → hf_L_sailors_497 mc ms rec_420 rec_434 x1 x2 x3 x4 x5 x6 x7 x8 x9 x10 g11 u kc ks = some (r0, u0) → vV p l e { frames := 9, cells := mc, slots := ms, locals := 214 } s m args below meth c A D 16 kc ks Q ([(b0, .inl (cI, 3, .inl (g11)))] ++ wX q0 qs qo qt qv qr qx ql ad qh cI cF cC cS cO u) 497 [(0, .ref (q0 0)), (1, .int x1), (2, .int x2), (3, .int x3), (5, .long x4), (7, .int x5), (8, .ref b0), (9, .int x6), (10, .int x7)] [.int x8, .int x9, .int x10, .ref b0] := by
  intro b0 x1 x2 x3 x4 x5 x6 x7 x8 x9 x10 g11 u kc ks hkc h
  rw [hf_L_sailors_497] at h
  refine vi_iadd C dL_sailors_497 ?_
  obtain ⟨hz1, h⟩ := ob_if h
  obtain ⟨g2, eg2, h⟩ := ob_nm h
  refine vi_iast (w' := ([(b0, .inl (cI, 3, .inl (g2)))] ++ wX q0 qs qo qt qv qr qx ql ad qh cI cF cC cS cO u)) C 0 0 rfl rfl hz1 (by rw [eg2]; rfl) dL_sailors_498 ?_
  refine vi_aload C 6 dL_sailors_499 rfl ?_
  refine vi_iconst (v := 2) C dL_sailors_501 (by decide) ?_
  refine vi_dup2 C dL_sailors_502 rfl rfl ?_
  obtain ⟨hz3, h⟩ := ob_if h
  refine vi_iald C 0 0 rfl rfl hz3 dL_sailors_503 ?_
  refine vi_iload C 8 dL_sailors_504 rfl ?_
  refine vi_if_eq (tgt := 519) C dL_sailors_506 (by decide) (fun hc4 => ?_) (fun hc4 => ?_)
  · have h := ob_t h hc4
    refine vi_iconst (v := 0) C dL_sailors_519 (by decide) ?_
    refine vi_iadd C dL_sailors_520 ?_
    obtain ⟨hz5, h⟩ := ob_if h
    obtain ⟨g6, eg6, h⟩ := ob_nm h
    refine vi_iast (w' := ([(b0, .inl (cI, 3, .inl (g6)))] ++ wX q0 qs qo qt qv qr qx ql ad qh cI cF cC cS cO u)) C 0 0 rfl rfl hz5 (by rw [eg6]; rfl) dL_sailors_521 ?_
    obtain ⟨y7, ey7, h⟩ := ob_nm h
    refine vi_iinc (v := y7) (lv' := [(9, .int y7), (0, .ref (q0 0)), (1, .int x1), (2, .int x2), (3, .int x3), (5, .long x4), (7, .int x5), (8, .ref b0), (10, .int x7)]) C 7 dL_sailors_522 rfl (by rw [ey7]; rfl) (by decide) rfl ?_
    refine vi_goto (tgt := 434) C dL_sailors_525 (by decide) ?_
    refine vi_sub C [1, 2, 3, 4, 5, 6, 7, 0] rfl ?_
    exact REC_434 _ _ _ _ _ _ _ _ _ _ _ hkc h
  · have h := ob_f h hc4
    refine vi_aload_n C 0 dL_sailors_509 rfl ?_
    refine vi_iload C 7 dL_sailors_510 rfl ?_
    refine vi_iconst (v := 4) C dL_sailors_512 (by decide) ?_
    obtain ⟨y9, u8, hgu8, h⟩ := ob_p h
    refine cY_i (As := [.int x6, .int (4 : Int32)]) (rest := [.int (g2 (Int32.toNatClampNeg (2 : Int32))), .int (2 : Int32), .ref b0]) (ud := u8) C 1 (mX7_sailorOf C.2.2.2.2.2.2.2.2.1 hgu8) 2 rfl tcX7_sailorOf tlL_110 tiX7_sailorOf tsX7_sailorOf rfl tnX7 tdX7_sailorOf ⟨Nat.le_of_ble_eq_true rfl, Nat.le_of_ble_eq_true rfl⟩ hkc rfl rfl (Nat.le_of_ble_eq_true rfl) dL_sailors_513 ?_
    refine vi_goto (tgt := 520) C dL_sailors_516 (by decide) ?_
    refine vi_iadd C dL_sailors_520 ?_
    obtain ⟨hz10, h⟩ := ob_if h
    obtain ⟨g11, eg11, h⟩ := ob_nm h
    refine vi_iast (w' := ([(b0, .inl (cI, 3, .inl (g11)))] ++ wX q0 qs qo qt qv qr qx ql ad qh cI cF cC cS cO u8)) C 0 0 rfl rfl hz10 (by rw [eg11]; rfl) dL_sailors_521 ?_
    obtain ⟨y12, ey12, h⟩ := ob_nm h
    refine vi_iinc (v := y12) (lv' := [(9, .int y12), (0, .ref (q0 0)), (1, .int x1), (2, .int x2), (3, .int x3), (5, .long x4), (7, .int x5), (8, .ref b0), (10, .int x7)]) C 7 dL_sailors_522 rfl (by rw [ey12]; rfl) (by decide) rfl ?_
    refine vi_goto (tgt := 434) C dL_sailors_525 (by decide) ?_
    refine vi_sub C [1, 2, 3, 4, 5, 6, 7, 0] rfl ?_
    exact REC_434 _ _ _ _ _ _ _ _ _ _ _ hkc h
def hf_L_sailors_474 (mc : Nat) (ms : Nat) (rec_420 : Int32 → Int32 → Int32 → Int64 → Int32 → vZ → Nat → Nat → Option (Int32 × vZ)) (rec_434 : Int32 → Int32 → Int32 → Int64 → Int32 → Int32 → (Nat → Int32) → vZ → Nat → Nat → Option (Int32 × vZ)) (x1 : Int32) (x2 : Int32) (x3 : Int32) (x4 : Int64) (x5 : Int32) (x6 : Int32) (x7 : Int32) (x8 : Int32) (x9 : Int32) (x10 : Int32) (g11 : Nat → Int32) (u : vZ) (kc : Nat) (ks : Nat) : Option (Int32 × vZ) := if x10 < 0 ∨ 3 ≤ Int32.toNatClampNeg x10 then none else bd ((upd g11 (Int32.toNatClampNeg x10) (x9 + x8) : Nat → Int32)) fun g2 => if (1 : Int32) < 0 ∨ 3 ≤ Int32.toNatClampNeg (1 : Int32) then none else (if x7 = 0 then hf_L_sailors_497 mc ms rec_420 rec_434 x1 x2 x3 x4 x5 x6 x7 (0 : Int32) (g2 (Int32.toNatClampNeg (1 : Int32))) (1 : Int32) g2 u kc ks else obp (fX7_sailorOf x6 (3 : Int32) u) fun y6 u5 => hf_L_sailors_497 mc ms rec_420 rec_434 x1 x2 x3 x4 x5 x6 x7 y6 (g2 (Int32.toNatClampNeg (1 : Int32))) (1 : Int32) g2 u5 kc ks)
set_option maxRecDepth 100000 in
set_option maxHeartbeats 4000000 in
theorem hk_L_sailors_474 {ad adK adV : Nat → Nat} {tS tF : Nat} {tX sK sV : Nat → Nat} {p : Program} {l : Launch} {e : Env} {s : State} {m : MethodId} {args : Array Value} {below : List Frame} {meth : Method} {c : Code} {A : Nat → Prop} {D : va_G} {cI cF cC cS cO cB cZ : ClassId} {Q : State → Prop} {q0 qs qo qt qv qr qx ql : Nat → Nat} {qh : Nat → Nat → Nat} {mc : Nat} {ms : Nat} (C : vC (vE ad adK adV tS tF tX sK sV) p l s m args meth c A D (vT7 cI cF cC cS cO cB cZ) cL_sailors 16 RL) {r0 : Int32} {u0 : vZ} (RET : ∀ (q : Nat → Nat) (kc ks : Nat) (pc : Nat) (lv : List (Nat × Value)), (kc ≤ mc ∧ ks ≤ ms) → decode cL_sailors pc = .ok (.ireturn, 1) → (r0 = 0 ∨ r0 = 1) → vV p l e { frames := 9, cells := mc, slots := ms, locals := 214 } s m args below meth c A D 16 kc ks Q ([] ++ wX q0 qs qo qt qv qr qx ql ad qh cI cF cC cS cO u0) pc lv [.int r0]) {rec_420 : Int32 → Int32 → Int32 → Int64 → Int32 → vZ → Nat → Nat → Option (Int32 × vZ)} (REC_420 : ∀ (x1 : Int32) (x2 : Int32) (x3 : Int32) (x4 : Int64) (x5 : Int32) (u : vZ) (kc : Nat) (ks : Nat), (kc ≤ mc ∧ ks ≤ ms) → rec_420 x1 x2 x3 x4 x5 u kc ks = some (r0, u0) → vV p l e { frames := 9, cells := mc, slots := ms, locals := 214 } s m args below meth c A D 16 kc ks Q ([] ++ wX q0 qs qo qt qv qr qx ql ad qh cI cF cC cS cO u) 420 [(0, .ref (q0 0)), (1, .int x1), (2, .int x2), (3, .int x3), (5, .long x4), (7, .int x5)] []) {rec_434 : Int32 → Int32 → Int32 → Int64 → Int32 → Int32 → (Nat → Int32) → vZ → Nat → Nat → Option (Int32 × vZ)} (REC_434 : ∀ (b0 : Nat) (x1 : Int32) (x2 : Int32) (x3 : Int32) (x4 : Int64) (x5 : Int32) (x6 : Int32) (g7 : Nat → Int32) (u : vZ) (kc : Nat) (ks : Nat), (kc ≤ mc ∧ ks ≤ ms) → rec_434 x1 x2 x3 x4 x5 x6 g7 u kc ks = some (r0, u0) → vV p l e { frames := 9, cells := mc, slots := ms, locals := 214 } s m args below meth c A D 16 kc ks Q ([(b0, .inl (cI, 3, .inl (g7)))] ++ wX q0 qs qo qt qv qr qx ql ad qh cI cF cC cS cO u) 434 [(0, .ref (q0 0)), (1, .int x1), (2, .int x2), (3, .int x3), (5, .long x4), (7, .int x5), (8, .ref b0), (9, .int x6)] []) : ∀ (b0 : Nat) (x1 : Int32) (x2 : Int32) (x3 : Int32) (x4 : Int64) (x5 : Int32) (x6 : Int32) (x7 : Int32) (x8 : Int32) (x9 : Int32) (x10 : Int32) (g11 : Nat → Int32) (u : vZ) (kc : Nat) (ks : Nat), (kc ≤ mc ∧ ks ≤ ms) → hf_L_sailors_474 mc ms rec_420 rec_434 x1 x2 x3 x4 x5 x6 x7 x8 x9 x10 g11 u kc ks = some (r0, u0) → vV p l e { frames := 9, cells := mc, slots := ms, locals := 214 } s m args below meth c A D 16 kc ks Q ([(b0, .inl (cI, 3, .inl (g11)))] ++ wX q0 qs qo qt qv qr qx ql ad qh cI cF cC cS cO u) 474 [(0, .ref (q0 0)), (1, .int x1), (2, .int x2), (3, .int x3), (5, .long x4), (7, .int x5), (8, .ref b0), (9, .int x6), (10, .int x7)] [.int x8, .int x9, .int x10, .ref b0] := by
  intro b0 x1 x2 x3 x4 x5 x6 x7 x8 x9 x10 g11 u kc ks hkc h
  rw [hf_L_sailors_474] at h
  refine vi_iadd C dL_sailors_474 ?_
  obtain ⟨hz1, h⟩ := ob_if h
  obtain ⟨g2, eg2, h⟩ := ob_nm h
  refine vi_iast (w' := ([(b0, .inl (cI, 3, .inl (g2)))] ++ wX q0 qs qo qt qv qr qx ql ad qh cI cF cC cS cO u)) C 0 0 rfl rfl hz1 (by rw [eg2]; rfl) dL_sailors_475 ?_
  refine vi_aload C 6 dL_sailors_476 rfl ?_
  refine vi_iconst (v := 1) C dL_sailors_478 (by decide) ?_
  refine vi_dup2 C dL_sailors_479 rfl rfl ?_
  obtain ⟨hz3, h⟩ := ob_if h
  refine vi_iald C 0 0 rfl rfl hz3 dL_sailors_480 ?_
  refine vi_iload C 8 dL_sailors_481 rfl ?_
  refine vi_if_eq (tgt := 496) C dL_sailors_483 (by decide) (fun hc4 => ?_) (fun hc4 => ?_)
  · have h := ob_t h hc4
    refine vi_iconst (v := 0) C dL_sailors_496 (by decide) ?_
    refine vi_sub C [0, 1, 2, 3, 4, 5, 6, 7, 8] rfl ?_
    exact hk_L_sailors_497 C RET REC_420 REC_434  _ _ _ _ _ _ _ _ _ _ _ _ _ _ _ hkc h
  · have h := ob_f h hc4
    refine vi_aload_n C 0 dL_sailors_486 rfl ?_
    refine vi_iload C 7 dL_sailors_487 rfl ?_
    refine vi_iconst (v := 3) C dL_sailors_489 (by decide) ?_
    obtain ⟨y6, u5, hgu5, h⟩ := ob_p h
    refine cY_i (As := [.int x6, .int (3 : Int32)]) (rest := [.int (g2 (Int32.toNatClampNeg (1 : Int32))), .int (1 : Int32), .ref b0]) (ud := u5) C 1 (mX7_sailorOf C.2.2.2.2.2.2.2.2.1 hgu5) 2 rfl tcX7_sailorOf tlL_110 tiX7_sailorOf tsX7_sailorOf rfl tnX7 tdX7_sailorOf ⟨Nat.le_of_ble_eq_true rfl, Nat.le_of_ble_eq_true rfl⟩ hkc rfl rfl (Nat.le_of_ble_eq_true rfl) dL_sailors_490 ?_
    refine vi_goto (tgt := 497) C dL_sailors_493 (by decide) ?_
    refine vi_sub C [0, 1, 2, 3, 4, 5, 6, 7, 8] rfl ?_
    exact hk_L_sailors_497 C RET REC_420 REC_434  _ _ _ _ _ _ _ _ _ _ _ _ _ _ _ hkc h
def hf_L_sailors_457 (mc : Nat) (ms : Nat) (rec_420 : Int32 → Int32 → Int32 → Int64 → Int32 → vZ → Nat → Nat → Option (Int32 × vZ)) (rec_434 : Int32 → Int32 → Int32 → Int64 → Int32 → Int32 → (Nat → Int32) → vZ → Nat → Nat → Option (Int32 × vZ)) (x1 : Int32) (x2 : Int32) (x3 : Int32) (x4 : Int64) (x5 : Int32) (x6 : Int32) (x7 : Int32) (g8 : Nat → Int32) (u : vZ) (kc : Nat) (ks : Nat) : Option (Int32 × vZ) := if (0 : Int32) < 0 ∨ 3 ≤ Int32.toNatClampNeg (0 : Int32) then none else (if x7 = 0 then hf_L_sailors_474 mc ms rec_420 rec_434 x1 x2 x3 x4 x5 x6 x7 (0 : Int32) (g8 (Int32.toNatClampNeg (0 : Int32))) (0 : Int32) g8 u kc ks else hf_L_sailors_474 mc ms rec_420 rec_434 x1 x2 x3 x4 x5 x6 x7 (1 : Int32) (g8 (Int32.toNatClampNeg (0 : Int32))) (0 : Int32) g8 u kc ks)
set_option maxRecDepth 100000 in
set_option maxHeartbeats 4000000 in
theorem hk_L_sailors_457 {ad adK adV : Nat → Nat} {tS tF : Nat} {tX sK sV : Nat → Nat} {p : Program} {l : Launch} {e : Env} {s : State} {m : MethodId} {args : Array Value} {below : List Frame} {meth : Method} {c : Code} {A : Nat → Prop} {D : va_G} {cI cF cC cS cO cB cZ : ClassId} {Q : State → Prop} {q0 qs qo qt qv qr qx ql : Nat → Nat} {qh : Nat → Nat → Nat} {mc : Nat} {ms : Nat} (C : vC (vE ad adK adV tS tF tX sK sV) p l s m args meth c A D (vT7 cI cF cC cS cO cB cZ) cL_sailors 16 RL) {r0 : Int32} {u0 : vZ} (RET : ∀ (q : Nat → Nat) (kc ks : Nat) (pc : Nat) (lv : List (Nat × Value)), (kc ≤ mc ∧ ks ≤ ms) → decode cL_sailors pc = .ok (.ireturn, 1) → (r0 = 0 ∨ r0 = 1) → vV p l e { frames := 9, cells := mc, slots := ms, locals := 214 } s m args below meth c A D 16 kc ks Q ([] ++ wX q0 qs qo qt qv qr qx ql ad qh cI cF cC cS cO u0) pc lv [.int r0]) {rec_420 : Int32 → Int32 → Int32 → Int64 → Int32 → vZ → Nat → Nat → Option (Int32 × vZ)} (REC_420 : ∀ (x1 : Int32) (x2 : Int32) (x3 : Int32) (x4 : Int64) (x5 : Int32) (u : vZ) (kc : Nat) (ks : Nat), (kc ≤ mc ∧ ks ≤ ms) → rec_420 x1 x2 x3 x4 x5 u kc ks = some (r0, u0) → vV p l e { frames := 9, cells := mc, slots := ms, locals := 214 } s m args below meth c A D 16 kc ks Q ([] ++ wX q0 qs qo qt qv qr qx ql ad qh cI cF cC cS cO u) 420 [(0, .ref (q0 0)), (1, .int x1), (2, .int x2), (3, .int x3), (5, .long x4), (7, .int x5)] []) {rec_434 : Int32 → Int32 → Int32 → Int64 → Int32 → Int32 → (Nat → Int32) → vZ → Nat → Nat → Option (Int32 × vZ)} (REC_434 : ∀ (b0 : Nat) (x1 : Int32) (x2 : Int32) (x3 : Int32) (x4 : Int64) (x5 : Int32) (x6 : Int32) (g7 : Nat → Int32) (u : vZ) (kc : Nat) (ks : Nat), (kc ≤ mc ∧ ks ≤ ms) → rec_434 x1 x2 x3 x4 x5 x6 g7 u kc ks = some (r0, u0) → vV p l e { frames := 9, cells := mc, slots := ms, locals := 214 } s m args below meth c A D 16 kc ks Q ([(b0, .inl (cI, 3, .inl (g7)))] ++ wX q0 qs qo qt qv qr qx ql ad qh cI cF cC cS cO u) 434 [(0, .ref (q0 0)), (1, .int x1), (2, .int x2), (3, .int x3), (5, .long x4), (7, .int x5), (8, .ref b0), (9, .int x6)] []) : ∀ (b0 : Nat) (x1 : Int32) (x2 : Int32) (x3 : Int32) (x4 : Int64) (x5 : Int32) (x6 : Int32) (x7 : Int32) (g8 : Nat → Int32) (u : vZ) (kc : Nat) (ks : Nat), (kc ≤ mc ∧ ks ≤ ms) → hf_L_sailors_457 mc ms rec_420 rec_434 x1 x2 x3 x4 x5 x6 x7 g8 u kc ks = some (r0, u0) → vV p l e { frames := 9, cells := mc, slots := ms, locals := 214 } s m args below meth c A D 16 kc ks Q ([(b0, .inl (cI, 3, .inl (g8)))] ++ wX q0 qs qo qt qv qr qx ql ad qh cI cF cC cS cO u) 457 [(0, .ref (q0 0)), (1, .int x1), (2, .int x2), (3, .int x3), (5, .long x4), (7, .int x5), (8, .ref b0), (9, .int x6)] [.int x7] := by
  intro b0 x1 x2 x3 x4 x5 x6 x7 g8 u kc ks hkc h
  rw [hf_L_sailors_457] at h
  refine vi_istore (lv' := [(10, .int x7), (0, .ref (q0 0)), (1, .int x1), (2, .int x2), (3, .int x3), (5, .long x4), (7, .int x5), (8, .ref b0), (9, .int x6)]) C dL_sailors_457 (by decide) rfl ?_
  refine vi_aload C 7 dL_sailors_459 rfl ?_
  refine vi_iconst (v := 0) C dL_sailors_461 (by decide) ?_
  refine vi_dup2 C dL_sailors_462 rfl rfl ?_
  obtain ⟨hz1, h⟩ := ob_if h
  refine vi_iald C 0 0 rfl rfl hz1 dL_sailors_463 ?_
  refine vi_iload C 0 dL_sailors_464 rfl ?_
  refine vi_if_eq (tgt := 473) C dL_sailors_466 (by decide) (fun hc2 => ?_) (fun hc2 => ?_)
  · have h := ob_t h hc2
    refine vi_iconst (v := 0) C dL_sailors_473 (by decide) ?_
    refine vi_sub C [1, 2, 3, 4, 5, 6, 7, 8, 0] rfl ?_
    exact hk_L_sailors_474 C RET REC_420 REC_434  _ _ _ _ _ _ _ _ _ _ _ _ _ _ _ hkc h
  · have h := ob_f h hc2
    refine vi_iconst (v := 1) C dL_sailors_469 (by decide) ?_
    refine vi_goto (tgt := 474) C dL_sailors_470 (by decide) ?_
    refine vi_sub C [1, 2, 3, 4, 5, 6, 7, 8, 0] rfl ?_
    exact hk_L_sailors_474 C RET REC_420 REC_434  _ _ _ _ _ _ _ _ _ _ _ _ _ _ _ hkc h
def hf_L_sailors_434 (mc : Nat) (ms : Nat) : Nat → (Int32 → Int32 → Int32 → Int64 → Int32 → vZ → Nat → Nat → Option (Int32 × vZ)) → Int32 → Int32 → Int32 → Int64 → Int32 → Int32 → (Nat → Int32) → vZ → Nat → Nat → Option (Int32 × vZ)
  | 0, _, _, _, _, _, _, _, _, _, _, _ => none
  | n + 1, rec_420, x1, x2, x3, x4, x5, x6, g7, u, kc, ks => (if x1 ≤ x6 then obp (fX7_watchOf x5 (1 : Int32) u) fun y3 u2 => if (0 : Int32) < 0 ∨ 3 ≤ Int32.toNatClampNeg (0 : Int32) then none else (if y3 = g7 (Int32.toNatClampNeg (0 : Int32)) then obp (fX7_watchOf x5 (2 : Int32) u2) fun y7 u6 => if (1 : Int32) < 0 ∨ 3 ≤ Int32.toNatClampNeg (1 : Int32) then none else (if y7 = g7 (Int32.toNatClampNeg (1 : Int32)) then obp (fX7_watchOf x5 (3 : Int32) u6) fun y11 u10 => if (2 : Int32) < 0 ∨ 3 ≤ Int32.toNatClampNeg (2 : Int32) then none else (if y11 = g7 (Int32.toNatClampNeg (2 : Int32)) then bd ((x5 + 1 : Int32)) fun y14 => rec_420 x1 x2 x3 x4 y14 u10 kc ks else some ((0 : Int32), u10)) else some ((0 : Int32), u6)) else some ((0 : Int32), u2)) else obp (fX7_sailorOf x6 (2 : Int32) u) fun y16 u15 => (if y16 = x5 then hf_L_sailors_457 mc ms rec_420 (fun c0 c1 c2 c3 c4 c5 c6 c7 c8 c9 => hf_L_sailors_434 mc ms n rec_420 c0 c1 c2 c3 c4 c5 c6 c7 c8 c9) x1 x2 x3 x4 x5 x6 (1 : Int32) g7 u15 kc ks else hf_L_sailors_457 mc ms rec_420 (fun c0 c1 c2 c3 c4 c5 c6 c7 c8 c9 => hf_L_sailors_434 mc ms n rec_420 c0 c1 c2 c3 c4 c5 c6 c7 c8 c9) x1 x2 x3 x4 x5 x6 (0 : Int32) g7 u15 kc ks))
set_option maxRecDepth 100000 in
set_option maxHeartbeats 4000000 in
theorem hk_L_sailors_434 {ad adK adV : Nat → Nat} {tS tF : Nat} {tX sK sV : Nat → Nat} {p : Program} {l : Launch} {e : Env} {s : State} {m : MethodId} {args : Array Value} {below : List Frame} {meth : Method} {c : Code} {A : Nat → Prop} {D : va_G} {cI cF cC cS cO cB cZ : ClassId} {Q : State → Prop} {q0 qs qo qt qv qr qx ql : Nat → Nat} {qh : Nat → Nat → Nat} {mc : Nat} {ms : Nat} (C : vC (vE ad adK adV tS tF tX sK sV) p l s m args meth c A D (vT7 cI cF cC cS cO cB cZ) cL_sailors 16 RL) {r0 : Int32} {u0 : vZ} (RET : ∀ (q : Nat → Nat) (kc ks : Nat) (pc : Nat) (lv : List (Nat × Value)), (kc ≤ mc ∧ ks ≤ ms) → decode cL_sailors pc = .ok (.ireturn, 1) → (r0 = 0 ∨ r0 = 1) → vV p l e { frames := 9, cells := mc, slots := ms, locals := 214 } s m args below meth c A D 16 kc ks Q ([] ++ wX q0 qs qo qt qv qr qx ql ad qh cI cF cC cS cO u0) pc lv [.int r0]) {rec_420 : Int32 → Int32 → Int32 → Int64 → Int32 → vZ → Nat → Nat → Option (Int32 × vZ)} (REC_420 : ∀ (x1 : Int32) (x2 : Int32) (x3 : Int32) (x4 : Int64) (x5 : Int32) (u : vZ) (kc : Nat) (ks : Nat), (kc ≤ mc ∧ ks ≤ ms) → rec_420 x1 x2 x3 x4 x5 u kc ks = some (r0, u0) → vV p l e { frames := 9, cells := mc, slots := ms, locals := 214 } s m args below meth c A D 16 kc ks Q ([] ++ wX q0 qs qo qt qv qr qx ql ad qh cI cF cC cS cO u) 420 [(0, .ref (q0 0)), (1, .int x1), (2, .int x2), (3, .int x3), (5, .long x4), (7, .int x5)] []) : ∀ (n : Nat) (b0 : Nat) (x1 : Int32) (x2 : Int32) (x3 : Int32) (x4 : Int64) (x5 : Int32) (x6 : Int32) (g7 : Nat → Int32) (u : vZ) (kc : Nat) (ks : Nat), (kc ≤ mc ∧ ks ≤ ms) → hf_L_sailors_434 mc ms n rec_420 x1 x2 x3 x4 x5 x6 g7 u kc ks = some (r0, u0) → vV p l e { frames := 9, cells := mc, slots := ms, locals := 214 } s m args below meth c A D 16 kc ks Q ([(b0, .inl (cI, 3, .inl (g7)))] ++ wX q0 qs qo qt qv qr qx ql ad qh cI cF cC cS cO u) 434 [(0, .ref (q0 0)), (1, .int x1), (2, .int x2), (3, .int x3), (5, .long x4), (7, .int x5), (8, .ref b0), (9, .int x6)] [] := by
  intro n
  induction n with
  | zero => intro b0 x1 x2 x3 x4 x5 x6 g7 u kc ks hkc h; rw [hf_L_sailors_434] at h; cases h
  | succ n ih =>
    intro b0 x1 x2 x3 x4 x5 x6 g7 u kc ks hkc h
    rw [hf_L_sailors_434] at h
    refine vi_iload C 7 dL_sailors_434 rfl ?_
    refine vi_iload_n C 1 dL_sailors_436 rfl ?_
    refine vi_icmp_ge (tgt := 528) C dL_sailors_437 (by decide) (fun hc1 => ?_) (fun hc1 => ?_)
    · have h := ob_t h hc1
      refine vi_aload_n C 0 dL_sailors_528 rfl ?_
      refine vi_iload C 5 dL_sailors_529 rfl ?_
      refine vi_iconst (v := 1) C dL_sailors_531 (by decide) ?_
      obtain ⟨y3, u2, hgu2, h⟩ := ob_p h
      refine cY_i (As := [.int x5, .int (1 : Int32)]) (rest := []) (ud := u2) C 1 (mX7_watchOf C.2.2.2.2.2.2.2.2.1 hgu2) 2 rfl tcX7_watchOf tlL_103 tiX7_watchOf tsX7_watchOf rfl tnX7 tdX7_watchOf ⟨Nat.le_of_ble_eq_true rfl, Nat.le_of_ble_eq_true rfl⟩ hkc rfl rfl (Nat.le_of_ble_eq_true rfl) dL_sailors_532 ?_
      refine vi_aload C 6 dL_sailors_535 rfl ?_
      refine vi_iconst (v := 0) C dL_sailors_537 (by decide) ?_
      obtain ⟨hz4, h⟩ := ob_if h
      refine vi_iald C 0 0 rfl rfl hz4 dL_sailors_538 ?_
      refine vi_icmp_ne (tgt := 570) C dL_sailors_539 (by decide) (fun hc5 => ?_) (fun hc5 => ?_)
      · have h := ob_f h hc5
        refine vi_iconst (v := 0) C dL_sailors_570 (by decide) ?_
        refine vi_pickX (ex2 := []) [] (by decide) rfl ?_
        cases h
        exact RET (fun j => [].getD j 0) _ _ _ _ hkc dL_sailors_571 (by decide)
      · have h := ob_t h hc5
        refine vi_aload_n C 0 dL_sailors_542 rfl ?_
        refine vi_iload C 5 dL_sailors_543 rfl ?_
        refine vi_iconst (v := 2) C dL_sailors_545 (by decide) ?_
        obtain ⟨y7, u6, hgu6, h⟩ := ob_p h
        refine cY_i (As := [.int x5, .int (2 : Int32)]) (rest := []) (ud := u6) C 1 (mX7_watchOf C.2.2.2.2.2.2.2.2.1 hgu6) 2 rfl tcX7_watchOf tlL_103 tiX7_watchOf tsX7_watchOf rfl tnX7 tdX7_watchOf ⟨Nat.le_of_ble_eq_true rfl, Nat.le_of_ble_eq_true rfl⟩ hkc rfl rfl (Nat.le_of_ble_eq_true rfl) dL_sailors_546 ?_
        refine vi_aload C 6 dL_sailors_549 rfl ?_
        refine vi_iconst (v := 1) C dL_sailors_551 (by decide) ?_
        obtain ⟨hz8, h⟩ := ob_if h
        refine vi_iald C 0 0 rfl rfl hz8 dL_sailors_552 ?_
        refine vi_icmp_ne (tgt := 570) C dL_sailors_553 (by decide) (fun hc9 => ?_) (fun hc9 => ?_)
        · have h := ob_f h hc9
          refine vi_iconst (v := 0) C dL_sailors_570 (by decide) ?_
          refine vi_pickX (ex2 := []) [] (by decide) rfl ?_
          cases h
          exact RET (fun j => [].getD j 0) _ _ _ _ hkc dL_sailors_571 (by decide)
        · have h := ob_t h hc9
          refine vi_aload_n C 0 dL_sailors_556 rfl ?_
          refine vi_iload C 5 dL_sailors_557 rfl ?_
          refine vi_iconst (v := 3) C dL_sailors_559 (by decide) ?_
          obtain ⟨y11, u10, hgu10, h⟩ := ob_p h
          refine cY_i (As := [.int x5, .int (3 : Int32)]) (rest := []) (ud := u10) C 1 (mX7_watchOf C.2.2.2.2.2.2.2.2.1 hgu10) 2 rfl tcX7_watchOf tlL_103 tiX7_watchOf tsX7_watchOf rfl tnX7 tdX7_watchOf ⟨Nat.le_of_ble_eq_true rfl, Nat.le_of_ble_eq_true rfl⟩ hkc rfl rfl (Nat.le_of_ble_eq_true rfl) dL_sailors_560 ?_
          refine vi_aload C 6 dL_sailors_563 rfl ?_
          refine vi_iconst (v := 2) C dL_sailors_565 (by decide) ?_
          obtain ⟨hz12, h⟩ := ob_if h
          refine vi_iald C 0 0 rfl rfl hz12 dL_sailors_566 ?_
          refine vi_icmp_eq (tgt := 572) C dL_sailors_567 (by decide) (fun hc13 => ?_) (fun hc13 => ?_)
          · have h := ob_t h hc13
            obtain ⟨y14, ey14, h⟩ := ob_nm h
            refine vi_iinc (v := y14) (lv' := [(7, .int y14), (0, .ref (q0 0)), (1, .int x1), (2, .int x2), (3, .int x3), (5, .long x4), (8, .ref b0), (9, .int x6)]) C 5 dL_sailors_572 rfl (by rw [ey14]; rfl) (by decide) rfl ?_
            refine vi_goto (tgt := 420) C dL_sailors_575 (by decide) ?_
            refine vi_sub C [1, 2, 3, 4, 5, 0] rfl ?_
            refine vi_pickX (ex2 := []) [] (by decide) rfl ?_
            exact REC_420 _ _ _ _ _ _ _ _ hkc h
          · have h := ob_f h hc13
            refine vi_iconst (v := 0) C dL_sailors_570 (by decide) ?_
            refine vi_pickX (ex2 := []) [] (by decide) rfl ?_
            cases h
            exact RET (fun j => [].getD j 0) _ _ _ _ hkc dL_sailors_571 (by decide)
    · have h := ob_f h hc1
      refine vi_aload_n C 0 dL_sailors_440 rfl ?_
      refine vi_iload C 7 dL_sailors_441 rfl ?_
      refine vi_iconst (v := 2) C dL_sailors_443 (by decide) ?_
      obtain ⟨y16, u15, hgu15, h⟩ := ob_p h
      refine cY_i (As := [.int x6, .int (2 : Int32)]) (rest := []) (ud := u15) C 1 (mX7_sailorOf C.2.2.2.2.2.2.2.2.1 hgu15) 2 rfl tcX7_sailorOf tlL_110 tiX7_sailorOf tsX7_sailorOf rfl tnX7 tdX7_sailorOf ⟨Nat.le_of_ble_eq_true rfl, Nat.le_of_ble_eq_true rfl⟩ hkc rfl rfl (Nat.le_of_ble_eq_true rfl) dL_sailors_444 ?_
      refine vi_iload C 5 dL_sailors_447 rfl ?_
      refine vi_icmp_ne (tgt := 456) C dL_sailors_449 (by decide) (fun hc17 => ?_) (fun hc17 => ?_)
      · have h := ob_f h hc17
        refine vi_iconst (v := 0) C dL_sailors_456 (by decide) ?_
        refine vi_sub C [0, 1, 2, 3, 4, 5, 6, 7] rfl ?_
        exact hk_L_sailors_457 C RET REC_420 ih  _ _ _ _ _ _ _ _ _ _ _ _ hkc h
      · have h := ob_t h hc17
        refine vi_iconst (v := 1) C dL_sailors_452 (by decide) ?_
        refine vi_goto (tgt := 457) C dL_sailors_453 (by decide) ?_
        refine vi_sub C [0, 1, 2, 3, 4, 5, 6, 7] rfl ?_
        exact hk_L_sailors_457 C RET REC_420 ih  _ _ _ _ _ _ _ _ _ _ _ _ hkc h
def hf_L_sailors_420 (mc : Nat) (ms : Nat) : Nat → Int32 → Int32 → Int32 → Int64 → Int32 → vZ → Nat → Nat → Option (Int32 × vZ)
  | 0, _, _, _, _, _, _, _, _ => none
  | n + 1, x1, x2, x3, x4, x5, u, kc, ks => (if (4 : Int32) ≤ x5 then (if x1 = 0 then hf_L_sailors_591 mc ms x1 x2 x4 (FP.dconst0) u kc ks else if (FP.ddiv (FP.i2d x3) (FP.i2d x1)) &&& 0x7fffffffffffffff ≤ 0x7ff0000000000000 then hf_L_sailors_591 mc ms x1 x2 x4 (FP.ddiv (FP.i2d x3) (FP.i2d x1)) u kc ks else none) else if kc + 1 ≤ mc ∧ ks + 3 ≤ ms then bd (kc + 1) fun kc6 => bd (ks + 3) fun ks7 => hf_L_sailors_434 mc ms vF (fun c0 c1 c2 c3 c4 c5 c6 c7 => hf_L_sailors_420 mc ms n  c0 c1 c2 c3 c4 c5 c6 c7) x1 x2 x3 x4 x5 (0 : Int32) (fun _ => 0) u kc6 ks7 else none)
set_option maxRecDepth 100000 in
set_option maxHeartbeats 4000000 in
theorem hk_L_sailors_420 {ad adK adV : Nat → Nat} {tS tF : Nat} {tX sK sV : Nat → Nat} {p : Program} {l : Launch} {e : Env} {s : State} {m : MethodId} {args : Array Value} {below : List Frame} {meth : Method} {c : Code} {A : Nat → Prop} {D : va_G} {cI cF cC cS cO cB cZ : ClassId} {Q : State → Prop} {q0 qs qo qt qv qr qx ql : Nat → Nat} {qh : Nat → Nat → Nat} {mc : Nat} {ms : Nat} (C : vC (vE ad adK adV tS tF tX sK sV) p l s m args meth c A D (vT7 cI cF cC cS cO cB cZ) cL_sailors 16 RL) {r0 : Int32} {u0 : vZ} (RET : ∀ (q : Nat → Nat) (kc ks : Nat) (pc : Nat) (lv : List (Nat × Value)), (kc ≤ mc ∧ ks ≤ ms) → decode cL_sailors pc = .ok (.ireturn, 1) → (r0 = 0 ∨ r0 = 1) → vV p l e { frames := 9, cells := mc, slots := ms, locals := 214 } s m args below meth c A D 16 kc ks Q ([] ++ wX q0 qs qo qt qv qr qx ql ad qh cI cF cC cS cO u0) pc lv [.int r0]) : ∀ (n : Nat) (x1 : Int32) (x2 : Int32) (x3 : Int32) (x4 : Int64) (x5 : Int32) (u : vZ) (kc : Nat) (ks : Nat), (kc ≤ mc ∧ ks ≤ ms) → hf_L_sailors_420 mc ms n x1 x2 x3 x4 x5 u kc ks = some (r0, u0) → vV p l e { frames := 9, cells := mc, slots := ms, locals := 214 } s m args below meth c A D 16 kc ks Q ([] ++ wX q0 qs qo qt qv qr qx ql ad qh cI cF cC cS cO u) 420 [(0, .ref (q0 0)), (1, .int x1), (2, .int x2), (3, .int x3), (5, .long x4), (7, .int x5)] [] := by
  intro n
  induction n with
  | zero => intro x1 x2 x3 x4 x5 u kc ks hkc h; rw [hf_L_sailors_420] at h; cases h
  | succ n ih =>
    intro x1 x2 x3 x4 x5 u kc ks hkc h
    rw [hf_L_sailors_420] at h
    refine vi_iload C 5 dL_sailors_420 rfl ?_
    refine vi_iconst (v := 4) C dL_sailors_422 (by decide) ?_
    refine vi_icmp_ge (tgt := 578) C dL_sailors_423 (by decide) (fun hc1 => ?_) (fun hc1 => ?_)
    · have h := ob_t h hc1
      refine vi_iload_n C 1 dL_sailors_578 rfl ?_
      refine vi_if_ne (tgt := 586) C dL_sailors_579 (by decide) (fun hc2 => ?_) (fun hc2 => ?_)
      · have h := ob_f h hc2
        refine vi_iload_n C 3 dL_sailors_586 rfl ?_
        refine vi_i2d C dL_sailors_587 ?_
        refine vi_iload_n C 1 dL_sailors_588 rfl ?_
        refine vi_i2d C dL_sailors_589 ?_
        obtain ⟨hz3, h⟩ := ob_ok h
        refine vi_ddiv C dL_sailors_590 hz3 ?_
        refine vi_sub C [0, 1, 2, 4] rfl ?_
        exact hk_L_sailors_591 C RET   _ _ _ _ _ _ _ hkc h
      · have h := ob_t h hc2
        refine vi_dconst0 C dL_sailors_582 ?_
        refine vi_goto (tgt := 591) C dL_sailors_583 (by decide) ?_
        refine vi_sub C [0, 1, 2, 4] rfl ?_
        exact hk_L_sailors_591 C RET   _ _ _ _ _ _ _ hkc h
    · have h := ob_f h hc1
      refine vi_iconst (v := 3) C dL_sailors_426 (by decide) ?_
      obtain ⟨hz4, h⟩ := ob_ok h
      refine vi_newa (atype := .int) (ty := .int) (cA := cI) (N := 3) (a0 := (3, .inl (fun _ => 0))) C 0 tac_int rfl rfl (fun _ => rfl) (by decide) rfl (by decide) hz4.1 hz4.2 dL_sailors_427 (fun a5 => ?_)
      refine vi_swp ?_
      refine vi_w C (w' := ([(a5, .inl (cI, 3, .inl (fun _ => 0)))] ++ wX q0 qs qo qt qv qr qx ql ad qh cI cF cC cS cO u)) rfl ?_
      obtain ⟨kc6, ekc6, h⟩ := ob_nm h
      obtain ⟨ks7, eks7, h⟩ := ob_nm h
      refine vi_kk ekc6.symm eks7.symm ?_
      rw [← ekc6, ← eks7] at hz4
      refine vi_astore (lv' := [(8, .ref a5), (0, .ref (q0 0)), (1, .int x1), (2, .int x2), (3, .int x3), (5, .long x4), (7, .int x5)]) C dL_sailors_429 (by decide) rfl ?_
      refine vi_iconst (v := 0) C dL_sailors_431 (by decide) ?_
      refine vi_istore (lv' := [(9, .int (0 : Int32)), (8, .ref a5), (0, .ref (q0 0)), (1, .int x1), (2, .int x2), (3, .int x3), (5, .long x4), (7, .int x5)]) C dL_sailors_432 (by decide) rfl ?_
      refine vi_sub C [2, 3, 4, 5, 6, 7, 1, 0] rfl ?_
      exact hk_L_sailors_434 C RET ih vF _ _ _ _ _ _ _ _ _ _ _ hz4 h
def hf_L_sailors_318 (mc : Nat) (ms : Nat) (rec_19 : Int32 → Int32 → Int32 → Int32 → Int64 → Int32 → vZ → Nat → Nat → Option (Int32 × vZ)) (x1 : Int32) (x2 : Int32) (x3 : Int32) (x4 : Int64) (x5 : Int32) (x6 : Int32) (x7 : Int32) (x8 : Int32) (x9 : UInt32) (x10 : Int32) (x11 : Int32) (n12 : Nat) (g13 : Nat → Int32) (u : vZ) (kc : Nat) (ks : Nat) : Option (Int32 × vZ) := obp (fX7_sailorOf x5 (3 : Int32) u) fun y2 u1 => (if y2 = x6 then obp (fX7_sailorOf x5 (4 : Int32) u1) fun y5 u4 => (if y5 = x7 then obp (fX7_sailorOf x5 (5 : Int32) u4) fun y8 u7 => (if y8 = x8 then obp (fX7_angle x5 u7) fun y11 u10 => if (FP.fdiv (FP.i2f x8) (1082130432 : UInt32)) &&& 0x7fffffff ≤ 0x7f800000 then (if Op.cmpValue (FP.fcmp y11 (FP.fdiv (FP.i2f x8) (1082130432 : UInt32))) CmpOp.l = 0 then obp (fX7_readBits x5 u10) fun y15 u14 => (fJxf58ca_floatToIntBits_5c35a x9).bind fun y16 => (if y15 = y16 then obp (fX7_write x5 u14) fun y19 u18 => if kc + (20) ≤ mc ∧ ks + (600) ≤ ms then (hf_L_line (20) (600) y19 u18).bind fun z21 => bd (kc + (20)) fun kc23 => bd (ks + (600)) fun ks24 => if kc23 + (2) ≤ mc ∧ ks24 + (Int32.toNatClampNeg x11 + 4) ≤ ms then (hf_J4_toString_0e30d (2) (Int32.toNatClampNeg x11 + 4) x11 n12 g13).bind fun z26 => bd (kc23 + (2)) fun kc28 => bd (ks24 + (Int32.toNatClampNeg x11 + 4)) fun ks29 => (hf_J0_equals_9ea2d (z21.1) (z21.2.1) (z26.1) (z26.2)).bind fun z30 => (if z30 = 0 then some ((0 : Int32), z21.2.2) else bd ((x5 + 1 : Int32)) fun y33 => rec_19 x1 x2 x3 x10 x4 y33 z21.2.2 kc28 ks29) else none else none else some ((0 : Int32), u14)) else some ((0 : Int32), u10)) else none else some ((0 : Int32), u7)) else some ((0 : Int32), u4)) else some ((0 : Int32), u1))
set_option maxRecDepth 100000 in
set_option maxHeartbeats 4000000 in
theorem hk_L_sailors_318 {ad adK adV : Nat → Nat} {tS tF : Nat} {tX sK sV : Nat → Nat} {p : Program} {l : Launch} {e : Env} {s : State} {m : MethodId} {args : Array Value} {below : List Frame} {meth : Method} {c : Code} {A : Nat → Prop} {D : va_G} {cI cF cC cS cO cB cZ : ClassId} {Q : State → Prop} {q0 qs qo qt qv qr qx ql : Nat → Nat} {qh : Nat → Nat → Nat} {mc : Nat} {ms : Nat} (C : vC (vE ad adK adV tS tF tX sK sV) p l s m args meth c A D (vT7 cI cF cC cS cO cB cZ) cL_sailors 16 RL) {r0 : Int32} {u0 : vZ} (RET : ∀ (q : Nat → Nat) (kc ks : Nat) (pc : Nat) (lv : List (Nat × Value)), (kc ≤ mc ∧ ks ≤ ms) → decode cL_sailors pc = .ok (.ireturn, 1) → (r0 = 0 ∨ r0 = 1) → vV p l e { frames := 9, cells := mc, slots := ms, locals := 214 } s m args below meth c A D 16 kc ks Q ([] ++ wX q0 qs qo qt qv qr qx ql ad qh cI cF cC cS cO u0) pc lv [.int r0]) {rec_19 : Int32 → Int32 → Int32 → Int32 → Int64 → Int32 → vZ → Nat → Nat → Option (Int32 × vZ)} (REC_19 : ∀ (x1 : Int32) (x2 : Int32) (x3 : Int32) (x4 : Int32) (x5 : Int64) (x6 : Int32) (u : vZ) (kc : Nat) (ks : Nat), (kc ≤ mc ∧ ks ≤ ms) → rec_19 x1 x2 x3 x4 x5 x6 u kc ks = some (r0, u0) → vV p l e { frames := 9, cells := mc, slots := ms, locals := 214 } s m args below meth c A D 16 kc ks Q ([] ++ wX q0 qs qo qt qv qr qx ql ad qh cI cF cC cS cO u) 19 [(0, .ref (q0 0)), (1, .int x1), (2, .int x2), (3, .int x3), (4, .int x4), (5, .long x5), (7, .int x6)] []) : ∀ (b0 : Nat) (b1 : Nat) (x1 : Int32) (x2 : Int32) (x3 : Int32) (x4 : Int64) (x5 : Int32) (x6 : Int32) (x7 : Int32) (x8 : Int32) (x9 : UInt32) (x10 : Int32) (x11 : Int32) (n12 : Nat) (g13 : Nat → Int32) (u : vZ) (kc : Nat) (ks : Nat), (kc ≤ mc ∧ ks ≤ ms) → hf_L_sailors_318 mc ms rec_19 x1 x2 x3 x4 x5 x6 x7 x8 x9 x10 x11 n12 g13 u kc ks = some (r0, u0) → vV p l e { frames := 9, cells := mc, slots := ms, locals := 214 } s m args below meth c A D 16 kc ks Q ([(b0, .inr (1, [.ref b1, .int (0 : Int32), .int (0 : Int32), .int x11])), (b1, .inl (cB, n12, .inl (g13)))] ++ wX q0 qs qo qt qv qr qx ql ad qh cI cF cC cS cO u) 318 [(0, .ref (q0 0)), (1, .int x1), (2, .int x2), (3, .int x3), (5, .long x4), (7, .int x5), (9, .int x6), (10, .int x7), (11, .int x8), (12, .float x9), (13, .ref b0), (14, .int x10)] [] := by
  intro b0 b1 x1 x2 x3 x4 x5 x6 x7 x8 x9 x10 x11 n12 g13 u kc ks hkc h
  rw [hf_L_sailors_318] at h
  refine vi_aload_n C 0 dL_sailors_318 rfl ?_
  refine vi_iload C 5 dL_sailors_319 rfl ?_
  refine vi_iconst (v := 3) C dL_sailors_321 (by decide) ?_
  obtain ⟨y2, u1, hgu1, h⟩ := ob_p h
  refine cY_i (As := [.int x5, .int (3 : Int32)]) (rest := []) (ud := u1) C 2 (mX7_sailorOf C.2.2.2.2.2.2.2.2.1 hgu1) 2 rfl tcX7_sailorOf tlL_110 tiX7_sailorOf tsX7_sailorOf rfl tnX7 tdX7_sailorOf ⟨Nat.le_of_ble_eq_true rfl, Nat.le_of_ble_eq_true rfl⟩ hkc rfl rfl (Nat.le_of_ble_eq_true rfl) dL_sailors_322 ?_
  refine vi_iload C 6 dL_sailors_325 rfl ?_
  refine vi_icmp_ne (tgt := 405) C dL_sailors_327 (by decide) (fun hc3 => ?_) (fun hc3 => ?_)
  · have h := ob_f h hc3
    refine vi_iconst (v := 0) C dL_sailors_405 (by decide) ?_
    refine vi_pickX (ex2 := []) [] (by decide) rfl ?_
    cases h
    exact RET (fun j => [].getD j 0) _ _ _ _ hkc dL_sailors_406 (by decide)
  · have h := ob_t h hc3
    refine vi_aload_n C 0 dL_sailors_330 rfl ?_
    refine vi_iload C 5 dL_sailors_331 rfl ?_
    refine vi_iconst (v := 4) C dL_sailors_333 (by decide) ?_
    obtain ⟨y5, u4, hgu4, h⟩ := ob_p h
    refine cY_i (As := [.int x5, .int (4 : Int32)]) (rest := []) (ud := u4) C 2 (mX7_sailorOf C.2.2.2.2.2.2.2.2.1 hgu4) 2 rfl tcX7_sailorOf tlL_110 tiX7_sailorOf tsX7_sailorOf rfl tnX7 tdX7_sailorOf ⟨Nat.le_of_ble_eq_true rfl, Nat.le_of_ble_eq_true rfl⟩ hkc rfl rfl (Nat.le_of_ble_eq_true rfl) dL_sailors_334 ?_
    refine vi_iload C 7 dL_sailors_337 rfl ?_
    refine vi_icmp_ne (tgt := 405) C dL_sailors_339 (by decide) (fun hc6 => ?_) (fun hc6 => ?_)
    · have h := ob_f h hc6
      refine vi_iconst (v := 0) C dL_sailors_405 (by decide) ?_
      refine vi_pickX (ex2 := []) [] (by decide) rfl ?_
      cases h
      exact RET (fun j => [].getD j 0) _ _ _ _ hkc dL_sailors_406 (by decide)
    · have h := ob_t h hc6
      refine vi_aload_n C 0 dL_sailors_342 rfl ?_
      refine vi_iload C 5 dL_sailors_343 rfl ?_
      refine vi_iconst (v := 5) C dL_sailors_345 (by decide) ?_
      obtain ⟨y8, u7, hgu7, h⟩ := ob_p h
      refine cY_i (As := [.int x5, .int (5 : Int32)]) (rest := []) (ud := u7) C 2 (mX7_sailorOf C.2.2.2.2.2.2.2.2.1 hgu7) 2 rfl tcX7_sailorOf tlL_110 tiX7_sailorOf tsX7_sailorOf rfl tnX7 tdX7_sailorOf ⟨Nat.le_of_ble_eq_true rfl, Nat.le_of_ble_eq_true rfl⟩ hkc rfl rfl (Nat.le_of_ble_eq_true rfl) dL_sailors_346 ?_
      refine vi_iload C 8 dL_sailors_349 rfl ?_
      refine vi_icmp_ne (tgt := 405) C dL_sailors_351 (by decide) (fun hc9 => ?_) (fun hc9 => ?_)
      · have h := ob_f h hc9
        refine vi_iconst (v := 0) C dL_sailors_405 (by decide) ?_
        refine vi_pickX (ex2 := []) [] (by decide) rfl ?_
        cases h
        exact RET (fun j => [].getD j 0) _ _ _ _ hkc dL_sailors_406 (by decide)
      · have h := ob_t h hc9
        refine vi_aload_n C 0 dL_sailors_354 rfl ?_
        refine vi_iload C 5 dL_sailors_355 rfl ?_
        obtain ⟨y11, u10, hgu10, h⟩ := ob_p h
        refine cY_f (As := [.int x5]) (rest := []) (ud := u10) C 2 (mX7_angle C.2.2.2.2.2.2.2.2.1 hgu10) 1 rfl tcX7_angle tlL_137 tiX7_angle tsX7_angle rfl tnX7 tdX7_angle ⟨Nat.le_of_ble_eq_true rfl, Nat.le_of_ble_eq_true rfl⟩ hkc rfl rfl (Nat.le_of_ble_eq_true rfl) dL_sailors_357 ?_
        refine vi_iload C 8 dL_sailors_360 rfl ?_
        refine vi_i2f C dL_sailors_362 ?_
        refine vi_ldcf (v := 1082130432) C dL_sailors_363 tkL_118 ?_
        obtain ⟨hz12, h⟩ := ob_ok h
        refine vi_fdiv C dL_sailors_365 hz12 ?_
        refine vi_fcmp C dL_sailors_366 ?_
        refine vi_if_ne (tgt := 405) C dL_sailors_367 (by decide) (fun hc13 => ?_) (fun hc13 => ?_)
        · have h := ob_f h hc13
          refine vi_iconst (v := 0) C dL_sailors_405 (by decide) ?_
          refine vi_pickX (ex2 := []) [] (by decide) rfl ?_
          cases h
          exact RET (fun j => [].getD j 0) _ _ _ _ hkc dL_sailors_406 (by decide)
        · have h := ob_t h hc13
          refine vi_aload_n C 0 dL_sailors_370 rfl ?_
          refine vi_iload C 5 dL_sailors_371 rfl ?_
          obtain ⟨y15, u14, hgu14, h⟩ := ob_p h
          refine cY_i (As := [.int x5]) (rest := []) (ud := u14) C 2 (mX7_readBits C.2.2.2.2.2.2.2.2.1 hgu14) 1 rfl tcX7_readBits tlL_141 tiX7_readBits tsX7_readBits rfl tnX7 tdX7_readBits ⟨Nat.le_of_ble_eq_true rfl, Nat.le_of_ble_eq_true rfl⟩ hkc rfl rfl (Nat.le_of_ble_eq_true rfl) dL_sailors_373 ?_
          refine vi_fload C 9 dL_sailors_376 rfl ?_
          obtain ⟨y16, hgy16, h⟩ := ob_bd h
          refine vi_callS1i (As := [.float x9]) (rest := [.int y15]) C (mJxf58ca_floatToIntBits_5c35a C.2.2.2.2.2.2.2.2.1 hgy16) 1 rfl tcJxf58ca_floatToIntBits_5c35a tlL_144 ttJxf58ca_floatToIntBits_5c35a tnJxf58ca tdJxf58ca_floatToIntBits_5c35a ⟨Nat.le_of_ble_eq_true rfl, Nat.le_of_ble_eq_true rfl⟩ hkc rfl (Nat.le_of_ble_eq_true rfl) dL_sailors_378 ?_
          refine vi_icmp_ne (tgt := 405) C dL_sailors_381 (by decide) (fun hc17 => ?_) (fun hc17 => ?_)
          · have h := ob_f h hc17
            refine vi_iconst (v := 0) C dL_sailors_405 (by decide) ?_
            refine vi_pickX (ex2 := []) [] (by decide) rfl ?_
            cases h
            exact RET (fun j => [].getD j 0) _ _ _ _ hkc dL_sailors_406 (by decide)
          · have h := ob_t h hc17
            refine vi_aload_n C 0 dL_sailors_384 rfl ?_
            refine vi_aload_n C 0 dL_sailors_385 rfl ?_
            refine vi_iload C 5 dL_sailors_386 rfl ?_
            obtain ⟨y19, u18, hgu18, h⟩ := ob_p h
            refine cY_i (As := [.int x5]) (rest := [.ref (q0 0)]) (ud := u18) C 2 (mX7_write C.2.2.2.2.2.2.2.2.1 hgu18) 1 rfl tcX7_write tlL_93 tiX7_write tsX7_write rfl tnX7 tdX7_write ⟨Nat.le_of_ble_eq_true rfl, Nat.le_of_ble_eq_true rfl⟩ hkc rfl rfl (Nat.le_of_ble_eq_true rfl) dL_sailors_388 ?_
            obtain ⟨hz20, h⟩ := ob_ok h
            obtain ⟨z21, hgz21, h⟩ := ob_bd h
            refine vi_w C (w' := [(b0, .inr (1, [.ref b1, .int (0 : Int32), .int (0 : Int32), .int x11])), (b1, .inl (cB, n12, .inl (g13)))] ++ ([] ++ wX q0 qs qo qt qv qr qx ql ad qh cI cF cC cS cO u18)) rfl ?_
            refine g_cr C (g_runS (As := [.ref (q0 0), .int y19]) (rest := []) (w1 := [(b0, .inr (1, [.ref b1, .int (0 : Int32), .int (0 : Int32), .int x11])), (b1, .inl (cB, n12, .inl (g13)))]) (wc := ([] ++ wX q0 qs qo qt qv qr qx ql ad qh cI cF cC cS cO u18)) C (hm_L_line  (mc := (20)) (ms := (600)) (x1 := y19) (r_n1 := z21.1) (r_g2 := z21.2.1) (u0 := z21.2.2) C.2.2.2.2.2.2.2.2.1 hgz21) 2 rfl tcL_line tlL_96 ttL_line tnL tdL_line ⟨Nat.le_of_ble_eq_true rfl, Nat.le_of_ble_eq_true rfl⟩ hz20 rfl (Nat.le_of_ble_eq_true rfl) dL_sailors_391 rfl) rfl (fun q22 => ?_)
            refine vi_w C (w' := ([(b0, .inr (1, [.ref b1, .int (0 : Int32), .int (0 : Int32), .int x11])), (b1, .inl (cB, n12, .inl (g13))), ((q22 0), .inr (0, [.ref (q22 1), .int (0 : Int32), .int (0 : Int32), .int (0 : Int32)])), ((q22 1), .inl (cB, z21.1, .inl (z21.2.1)))] ++ wX q0 qs qo qt qv qr qx ql ad qh cI cF cC cS cO z21.2.2)) rfl ?_
            obtain ⟨kc23, ekc23, h⟩ := ob_nm h
            obtain ⟨ks24, eks24, h⟩ := ob_nm h
            refine vi_kk ekc23.symm eks24.symm ?_
            rw [← ekc23, ← eks24] at hz20
            refine vi_aload C 10 dL_sailors_394 rfl ?_
            obtain ⟨hz25, h⟩ := ob_ok h
            obtain ⟨z26, hgz26, h⟩ := ob_bd h
            refine vi_pickX (ex2 := [((q22 0), .inr (0, [.ref (q22 1), .int (0 : Int32), .int (0 : Int32), .int (0 : Int32)])), ((q22 1), .inl (cB, z21.1, .inl (z21.2.1))), (b0, .inr (1, [.ref b1, .int (0 : Int32), .int (0 : Int32), .int x11])), (b1, .inl (cB, n12, .inl (g13)))]) [2, 3, 0, 1] (by decide) rfl ?_
            refine vi_w C (w' := ([((q22 0), .inr (0, [.ref (q22 1), .int (0 : Int32), .int (0 : Int32), .int (0 : Int32)])), ((q22 1), .inl (cB, z21.1, .inl (z21.2.1)))] ++ [(b0, .inr (1, [.ref b1, .int (0 : Int32), .int (0 : Int32), .int x11])), (b1, .inl (cB, n12, .inl (g13)))]) ++ wX q0 qs qo qt qv qr qx ql ad qh cI cF cC cS cO z21.2.2) rfl ?_
            refine vi_swp ?_
            refine g_cr C (g_runV (T := TJ4) (N := 4) (ci := 1) (fs := [.ref b1, .int (0 : Int32), .int (0 : Int32), .int x11]) (As := []) (rest := [.ref (q22 0)]) (w1 := ([((q22 0), .inr (0, [.ref (q22 1), .int (0 : Int32), .int (0 : Int32), .int (0 : Int32)])), ((q22 1), .inl (cB, z21.1, .inl (z21.2.1)))] ++ wX q0 qs qo qt qv qr qx ql ad qh cI cF cC cS cO z21.2.2)) (wc := [(b0, .inr (1, [.ref b1, .int (0 : Int32), .int (0 : Int32), .int x11])), (b1, .inl (cB, n12, .inl (g13)))]) C (hm_J4_toString_0e30d (a0 := b0) (a1 := b1) (mc := (2)) (ms := (Int32.toNatClampNeg x11 + 4)) (f0_3 := x11) (n1 := n12) (g1 := g13) (r_n1 := z26.1) (r_g2 := z26.2) C.2.2.2.2.2.2.2.2.1 hgz26) 0 rfl tcJ4_toString_0e30d tlL_86 tiJ4_toString_0e30d tsJ4_toString_0e30d tnJ4 tdJ4_toString_0e30d ⟨Nat.le_of_ble_eq_true rfl, Nat.le_of_ble_eq_true rfl⟩ hz25 (2 + 101 + 0) rfl rfl rfl (Nat.le_of_ble_eq_true rfl) dL_sailors_396 rfl) rfl (fun q27 => ?_)
            refine vi_swp ?_
            refine vi_w C (w' := ([((q22 0), .inr (0, [.ref (q22 1), .int (0 : Int32), .int (0 : Int32), .int (0 : Int32)])), ((q22 1), .inl (cB, z21.1, .inl (z21.2.1))), (b0, .inr (1, [.ref b1, .int (0 : Int32), .int (0 : Int32), .int x11])), (b1, .inl (cB, n12, .inl (g13))), ((q27 0), .inr (0, [.ref (q27 1), .int (0 : Int32), .int (0 : Int32), .int (0 : Int32)])), ((q27 1), .inl (cB, z26.1, .inl (z26.2)))] ++ wX q0 qs qo qt qv qr qx ql ad qh cI cF cC cS cO z21.2.2)) rfl ?_
            obtain ⟨kc28, ekc28, h⟩ := ob_nm h
            obtain ⟨ks29, eks29, h⟩ := ob_nm h
            refine vi_kk ekc28.symm eks29.symm ?_
            rw [← ekc28, ← eks29] at hz25
            obtain ⟨z30, hgz30, h⟩ := ob_bd h
            refine vi_pickX (ex2 := [(b0, .inr (1, [.ref b1, .int (0 : Int32), .int (0 : Int32), .int x11])), (b1, .inl (cB, n12, .inl (g13))), ((q22 0), .inr (0, [.ref (q22 1), .int (0 : Int32), .int (0 : Int32), .int (0 : Int32)])), ((q22 1), .inl (cB, z21.1, .inl (z21.2.1))), ((q27 0), .inr (0, [.ref (q27 1), .int (0 : Int32), .int (0 : Int32), .int (0 : Int32)])), ((q27 1), .inl (cB, z26.1, .inl (z26.2)))]) [2, 3, 0, 1, 4, 5] (by decide) rfl ?_
            refine vi_w C (w' := ([(b0, .inr (1, [.ref b1, .int (0 : Int32), .int (0 : Int32), .int x11])), (b1, .inl (cB, n12, .inl (g13)))] ++ [((q22 0), .inr (0, [.ref (q22 1), .int (0 : Int32), .int (0 : Int32), .int (0 : Int32)])), ((q22 1), .inl (cB, z21.1, .inl (z21.2.1))), ((q27 0), .inr (0, [.ref (q27 1), .int (0 : Int32), .int (0 : Int32), .int (0 : Int32)])), ((q27 1), .inl (cB, z26.1, .inl (z26.2)))]) ++ wX q0 qs qo qt qv qr qx ql ad qh cI cF cC cS cO z21.2.2) rfl ?_
            refine vi_swp ?_
            refine g_ci C (g_runV (T := TJ0) (N := 4) (ci := 0) (fs := [.ref (q22 1), .int (0 : Int32), .int (0 : Int32), .int (0 : Int32)]) (As := [.ref (q27 0)]) (rest := []) (w1 := ([(b0, .inr (1, [.ref b1, .int (0 : Int32), .int (0 : Int32), .int x11])), (b1, .inl (cB, n12, .inl (g13)))] ++ wX q0 qs qo qt qv qr qx ql ad qh cI cF cC cS cO z21.2.2)) (wc := [((q22 0), .inr (0, [.ref (q22 1), .int (0 : Int32), .int (0 : Int32), .int (0 : Int32)])), ((q22 1), .inl (cB, z21.1, .inl (z21.2.1))), ((q27 0), .inr (0, [.ref (q27 1), .int (0 : Int32), .int (0 : Int32), .int (0 : Int32)])), ((q27 1), .inl (cB, z26.1, .inl (z26.2)))]) C (hm_J0_equals_9ea2d (a0 := (q22 0)) (a1 := (q22 1)) (a2 := (q27 0)) (a3 := (q27 1)) (n1 := (z21.1)) (g1 := (z21.2.1)) (n3 := (z26.1)) (g3 := (z26.2)) (r0 := z30) C.2.2.2.2.2.2.2.2.1 hgz30) 1 rfl tcJ0_equals_9ea2d tlL_150 tiJ0_equals_9ea2d tsJ0_equals_9ea2d tnJ0 tdJ0_equals_9ea2d ⟨Nat.le_of_ble_eq_true rfl, Nat.le_of_ble_eq_true rfl⟩ hz25 (2 + 101 + 0) rfl rfl rfl (Nat.le_of_ble_eq_true rfl) dL_sailors_399 rfl) rfl (fun q31 => ?_)
            refine vi_swp ?_
            refine vi_w C (w' := ([(b0, .inr (1, [.ref b1, .int (0 : Int32), .int (0 : Int32), .int x11])), (b1, .inl (cB, n12, .inl (g13))), ((q22 0), .inr (0, [.ref (q22 1), .int (0 : Int32), .int (0 : Int32), .int (0 : Int32)])), ((q22 1), .inl (cB, z21.1, .inl (z21.2.1))), ((q27 0), .inr (0, [.ref (q27 1), .int (0 : Int32), .int (0 : Int32), .int (0 : Int32)])), ((q27 1), .inl (cB, z26.1, .inl (z26.2)))] ++ wX q0 qs qo qt qv qr qx ql ad qh cI cF cC cS cO z21.2.2)) rfl ?_
            refine vi_kk (kc1 := kc28) (ks1 := ks29) rfl rfl ?_
            refine vi_if_ne (tgt := 407) C dL_sailors_402 (by decide) (fun hc32 => ?_) (fun hc32 => ?_)
            · have h := ob_f h hc32
              refine vi_iload C 11 dL_sailors_407 rfl ?_
              refine vi_istore (lv' := [(4, .int x10), (0, .ref (q0 0)), (1, .int x1), (2, .int x2), (3, .int x3), (5, .long x4), (7, .int x5), (9, .int x6), (10, .int x7), (11, .int x8), (12, .float x9), (13, .ref b0), (14, .int x10)]) C dL_sailors_409 (by decide) rfl ?_
              obtain ⟨y33, ey33, h⟩ := ob_nm h
              refine vi_iinc (v := y33) (lv' := [(7, .int y33), (4, .int x10), (0, .ref (q0 0)), (1, .int x1), (2, .int x2), (3, .int x3), (5, .long x4), (9, .int x6), (10, .int x7), (11, .int x8), (12, .float x9), (13, .ref b0), (14, .int x10)]) C 6 dL_sailors_411 rfl (by rw [ey33]; rfl) (by decide) rfl ?_
              refine vi_goto (tgt := 19) C dL_sailors_414 (by decide) ?_
              refine vi_sub C [2, 3, 4, 5, 1, 6, 0] rfl ?_
              refine vi_pickX (ex2 := []) [] (by decide) rfl ?_
              exact REC_19 _ _ _ _ _ _ _ _ _ hz25 h
            · have h := ob_t h hc32
              refine vi_iconst (v := 0) C dL_sailors_405 (by decide) ?_
              refine vi_pickX (ex2 := []) [] (by decide) rfl ?_
              cases h
              exact RET (fun j => [].getD j 0) _ _ _ _ hz25 dL_sailors_406 (by decide)
def hf_L_sailors_299 (mc : Nat) (ms : Nat) (rec_19 : Int32 → Int32 → Int32 → Int32 → Int64 → Int32 → vZ → Nat → Nat → Option (Int32 × vZ)) (x1 : Int32) (x2 : Int32) (x3 : Int32) (x4 : Int32) (x5 : Int64) (x6 : Int32) (x7 : Int32) (x8 : Int32) (x9 : Int32) (x10 : UInt32) (x11 : Int32) (x12 : Int32) (x13 : Int32) (n14 : Nat) (g15 : Nat → Int32) (u : vZ) (kc : Nat) (ks : Nat) : Option (Int32 × vZ) := (if x12 < 0 then some ((0 : Int32), u) else (if x12 = 0 then (if x11 < x4 then some ((0 : Int32), u) else hf_L_sailors_318 mc ms rec_19 x1 x2 x3 x5 x6 x7 x8 x9 x10 x11 x13 n14 g15 u kc ks) else hf_L_sailors_318 mc ms rec_19 x1 x2 x3 x5 x6 x7 x8 x9 x10 x11 x13 n14 g15 u kc ks))
set_option maxRecDepth 100000 in
set_option maxHeartbeats 4000000 in
theorem hk_L_sailors_299 {ad adK adV : Nat → Nat} {tS tF : Nat} {tX sK sV : Nat → Nat} {p : Program} {l : Launch} {e : Env} {s : State} {m : MethodId} {args : Array Value} {below : List Frame} {meth : Method} {c : Code} {A : Nat → Prop} {D : va_G} {cI cF cC cS cO cB cZ : ClassId} {Q : State → Prop} {q0 qs qo qt qv qr qx ql : Nat → Nat} {qh : Nat → Nat → Nat} {mc : Nat} {ms : Nat} (C : vC (vE ad adK adV tS tF tX sK sV) p l s m args meth c A D (vT7 cI cF cC cS cO cB cZ) cL_sailors 16 RL) {r0 : Int32} {u0 : vZ} (RET : ∀ (q : Nat → Nat) (kc ks : Nat) (pc : Nat) (lv : List (Nat × Value)), (kc ≤ mc ∧ ks ≤ ms) → decode cL_sailors pc = .ok (.ireturn, 1) → (r0 = 0 ∨ r0 = 1) → vV p l e { frames := 9, cells := mc, slots := ms, locals := 214 } s m args below meth c A D 16 kc ks Q ([] ++ wX q0 qs qo qt qv qr qx ql ad qh cI cF cC cS cO u0) pc lv [.int r0]) {rec_19 : Int32 → Int32 → Int32 → Int32 → Int64 → Int32 → vZ → Nat → Nat → Option (Int32 × vZ)} (REC_19 : ∀ (x1 : Int32) (x2 : Int32) (x3 : Int32) (x4 : Int32) (x5 : Int64) (x6 : Int32) (u : vZ) (kc : Nat) (ks : Nat), (kc ≤ mc ∧ ks ≤ ms) → rec_19 x1 x2 x3 x4 x5 x6 u kc ks = some (r0, u0) → vV p l e { frames := 9, cells := mc, slots := ms, locals := 214 } s m args below meth c A D 16 kc ks Q ([] ++ wX q0 qs qo qt qv qr qx ql ad qh cI cF cC cS cO u) 19 [(0, .ref (q0 0)), (1, .int x1), (2, .int x2), (3, .int x3), (4, .int x4), (5, .long x5), (7, .int x6)] []) : ∀ (b0 : Nat) (b1 : Nat) (x1 : Int32) (x2 : Int32) (x3 : Int32) (x4 : Int32) (x5 : Int64) (x6 : Int32) (x7 : Int32) (x8 : Int32) (x9 : Int32) (x10 : UInt32) (x11 : Int32) (x12 : Int32) (x13 : Int32) (n14 : Nat) (g15 : Nat → Int32) (u : vZ) (kc : Nat) (ks : Nat), (kc ≤ mc ∧ ks ≤ ms) → hf_L_sailors_299 mc ms rec_19 x1 x2 x3 x4 x5 x6 x7 x8 x9 x10 x11 x12 x13 n14 g15 u kc ks = some (r0, u0) → vV p l e { frames := 9, cells := mc, slots := ms, locals := 214 } s m args below meth c A D 16 kc ks Q ([(b0, .inr (1, [.ref b1, .int (0 : Int32), .int (0 : Int32), .int x13])), (b1, .inl (cB, n14, .inl (g15)))] ++ wX q0 qs qo qt qv qr qx ql ad qh cI cF cC cS cO u) 299 [(0, .ref (q0 0)), (1, .int x1), (2, .int x2), (3, .int x3), (4, .int x4), (5, .long x5), (7, .int x6), (9, .int x7), (10, .int x8), (11, .int x9), (12, .float x10), (13, .ref b0), (14, .int x11)] [.int x12] := by
  intro b0 b1 x1 x2 x3 x4 x5 x6 x7 x8 x9 x10 x11 x12 x13 n14 g15 u kc ks hkc h
  rw [hf_L_sailors_299] at h
  refine vi_istore (lv' := [(15, .int x12), (0, .ref (q0 0)), (1, .int x1), (2, .int x2), (3, .int x3), (4, .int x4), (5, .long x5), (7, .int x6), (9, .int x7), (10, .int x8), (11, .int x9), (12, .float x10), (13, .ref b0), (14, .int x11)]) C dL_sailors_299 (by decide) rfl ?_
  refine vi_iload C 0 dL_sailors_301 rfl ?_
  refine vi_if_lt (tgt := 405) C dL_sailors_303 (by decide) (fun hc1 => ?_) (fun hc1 => ?_)
  · have h := ob_t h hc1
    refine vi_iconst (v := 0) C dL_sailors_405 (by decide) ?_
    refine vi_pickX (ex2 := []) [] (by decide) rfl ?_
    cases h
    exact RET (fun j => [].getD j 0) _ _ _ _ hkc dL_sailors_406 (by decide)
  · have h := ob_f h hc1
    refine vi_iload C 0 dL_sailors_306 rfl ?_
    refine vi_if_ne (tgt := 318) C dL_sailors_308 (by decide) (fun hc2 => ?_) (fun hc2 => ?_)
    · have h := ob_f h hc2
      refine vi_sub C [1, 2, 3, 4, 6, 7, 8, 9, 10, 11, 12, 13] rfl ?_
      exact hk_L_sailors_318 C RET REC_19  _ _ _ _ _ _ _ _ _ _ _ _ _ _ _ _ _ _ hkc h
    · have h := ob_t h hc2
      refine vi_iload C 13 dL_sailors_311 rfl ?_
      refine vi_iload C 5 dL_sailors_313 rfl ?_
      refine vi_icmp_lt (tgt := 405) C dL_sailors_315 (by decide) (fun hc3 => ?_) (fun hc3 => ?_)
      · have h := ob_t h hc3
        refine vi_iconst (v := 0) C dL_sailors_405 (by decide) ?_
        refine vi_pickX (ex2 := []) [] (by decide) rfl ?_
        cases h
        exact RET (fun j => [].getD j 0) _ _ _ _ hkc dL_sailors_406 (by decide)
      · have h := ob_f h hc3
        refine vi_sub C [1, 2, 3, 4, 6, 7, 8, 9, 10, 11, 12, 13] rfl ?_
        exact hk_L_sailors_318 C RET REC_19  _ _ _ _ _ _ _ _ _ _ _ _ _ _ _ _ _ _ hkc h
def hf_L_sailors_272 (mc : Nat) (ms : Nat) (rec_19 : Int32 → Int32 → Int32 → Int32 → Int64 → Int32 → vZ → Nat → Nat → Option (Int32 × vZ)) (x1 : Int32) (x2 : Int32) (x3 : Int32) (x4 : Int32) (x5 : Int64) (x6 : Int32) (x7 : Int32) (x8 : Int32) (x9 : Int32) (x10 : UInt32) (x11 : Int32) (x12 : Int32) (x13 : Int32) (n14 : Nat) (g15 : Nat → Int32) (u : vZ) (kc : Nat) (ks : Nat) : Option (Int32 × vZ) := (if x12 = 0 then obp (fX7_sailorOf x4 (3 : Int32) u) fun y3 u2 => obp (fX7_sailorOf x11 (3 : Int32) u2) fun y5 u4 => hf_L_sailors_299 mc ms rec_19 x1 x2 x3 x4 x5 x6 x7 x8 x9 x10 x11 (y3 - y5) x13 n14 g15 u4 kc ks else hf_L_sailors_299 mc ms rec_19 x1 x2 x3 x4 x5 x6 x7 x8 x9 x10 x11 x12 x13 n14 g15 u kc ks)
set_option maxRecDepth 100000 in
set_option maxHeartbeats 4000000 in
theorem hk_L_sailors_272 {ad adK adV : Nat → Nat} {tS tF : Nat} {tX sK sV : Nat → Nat} {p : Program} {l : Launch} {e : Env} {s : State} {m : MethodId} {args : Array Value} {below : List Frame} {meth : Method} {c : Code} {A : Nat → Prop} {D : va_G} {cI cF cC cS cO cB cZ : ClassId} {Q : State → Prop} {q0 qs qo qt qv qr qx ql : Nat → Nat} {qh : Nat → Nat → Nat} {mc : Nat} {ms : Nat} (C : vC (vE ad adK adV tS tF tX sK sV) p l s m args meth c A D (vT7 cI cF cC cS cO cB cZ) cL_sailors 16 RL) {r0 : Int32} {u0 : vZ} (RET : ∀ (q : Nat → Nat) (kc ks : Nat) (pc : Nat) (lv : List (Nat × Value)), (kc ≤ mc ∧ ks ≤ ms) → decode cL_sailors pc = .ok (.ireturn, 1) → (r0 = 0 ∨ r0 = 1) → vV p l e { frames := 9, cells := mc, slots := ms, locals := 214 } s m args below meth c A D 16 kc ks Q ([] ++ wX q0 qs qo qt qv qr qx ql ad qh cI cF cC cS cO u0) pc lv [.int r0]) {rec_19 : Int32 → Int32 → Int32 → Int32 → Int64 → Int32 → vZ → Nat → Nat → Option (Int32 × vZ)} (REC_19 : ∀ (x1 : Int32) (x2 : Int32) (x3 : Int32) (x4 : Int32) (x5 : Int64) (x6 : Int32) (u : vZ) (kc : Nat) (ks : Nat), (kc ≤ mc ∧ ks ≤ ms) → rec_19 x1 x2 x3 x4 x5 x6 u kc ks = some (r0, u0) → vV p l e { frames := 9, cells := mc, slots := ms, locals := 214 } s m args below meth c A D 16 kc ks Q ([] ++ wX q0 qs qo qt qv qr qx ql ad qh cI cF cC cS cO u) 19 [(0, .ref (q0 0)), (1, .int x1), (2, .int x2), (3, .int x3), (4, .int x4), (5, .long x5), (7, .int x6)] []) : ∀ (b0 : Nat) (b1 : Nat) (x1 : Int32) (x2 : Int32) (x3 : Int32) (x4 : Int32) (x5 : Int64) (x6 : Int32) (x7 : Int32) (x8 : Int32) (x9 : Int32) (x10 : UInt32) (x11 : Int32) (x12 : Int32) (x13 : Int32) (n14 : Nat) (g15 : Nat → Int32) (u : vZ) (kc : Nat) (ks : Nat), (kc ≤ mc ∧ ks ≤ ms) → hf_L_sailors_272 mc ms rec_19 x1 x2 x3 x4 x5 x6 x7 x8 x9 x10 x11 x12 x13 n14 g15 u kc ks = some (r0, u0) → vV p l e { frames := 9, cells := mc, slots := ms, locals := 214 } s m args below meth c A D 16 kc ks Q ([(b0, .inr (1, [.ref b1, .int (0 : Int32), .int (0 : Int32), .int x13])), (b1, .inl (cB, n14, .inl (g15)))] ++ wX q0 qs qo qt qv qr qx ql ad qh cI cF cC cS cO u) 272 [(0, .ref (q0 0)), (1, .int x1), (2, .int x2), (3, .int x3), (4, .int x4), (5, .long x5), (7, .int x6), (9, .int x7), (10, .int x8), (11, .int x9), (12, .float x10), (13, .ref b0), (14, .int x11)] [.int x12] := by
  intro b0 b1 x1 x2 x3 x4 x5 x6 x7 x8 x9 x10 x11 x12 x13 n14 g15 u kc ks hkc h
  rw [hf_L_sailors_272] at h
  refine vi_istore (lv' := [(15, .int x12), (0, .ref (q0 0)), (1, .int x1), (2, .int x2), (3, .int x3), (4, .int x4), (5, .long x5), (7, .int x6), (9, .int x7), (10, .int x8), (11, .int x9), (12, .float x10), (13, .ref b0), (14, .int x11)]) C dL_sailors_272 (by decide) rfl ?_
  refine vi_iload C 0 dL_sailors_274 rfl ?_
  refine vi_if_eq (tgt := 284) C dL_sailors_276 (by decide) (fun hc1 => ?_) (fun hc1 => ?_)
  · have h := ob_t h hc1
    refine vi_aload_n C 1 dL_sailors_284 rfl ?_
    refine vi_iload C 5 dL_sailors_285 rfl ?_
    refine vi_iconst (v := 3) C dL_sailors_287 (by decide) ?_
    obtain ⟨y3, u2, hgu2, h⟩ := ob_p h
    refine cY_i (As := [.int x4, .int (3 : Int32)]) (rest := []) (ud := u2) C 2 (mX7_sailorOf C.2.2.2.2.2.2.2.2.1 hgu2) 2 rfl tcX7_sailorOf tlL_110 tiX7_sailorOf tsX7_sailorOf rfl tnX7 tdX7_sailorOf ⟨Nat.le_of_ble_eq_true rfl, Nat.le_of_ble_eq_true rfl⟩ hkc rfl rfl (Nat.le_of_ble_eq_true rfl) dL_sailors_288 ?_
    refine vi_aload_n C 1 dL_sailors_291 rfl ?_
    refine vi_iload C 13 dL_sailors_292 rfl ?_
    refine vi_iconst (v := 3) C dL_sailors_294 (by decide) ?_
    obtain ⟨y5, u4, hgu4, h⟩ := ob_p h
    refine cY_i (As := [.int x11, .int (3 : Int32)]) (rest := [.int y3]) (ud := u4) C 2 (mX7_sailorOf C.2.2.2.2.2.2.2.2.1 hgu4) 2 rfl tcX7_sailorOf tlL_110 tiX7_sailorOf tsX7_sailorOf rfl tnX7 tdX7_sailorOf ⟨Nat.le_of_ble_eq_true rfl, Nat.le_of_ble_eq_true rfl⟩ hkc rfl rfl (Nat.le_of_ble_eq_true rfl) dL_sailors_295 ?_
    refine vi_isub C dL_sailors_298 ?_
    refine vi_sub C [1, 2, 3, 4, 5, 6, 7, 8, 9, 10, 11, 12, 13] rfl ?_
    exact hk_L_sailors_299 C RET REC_19  _ _ _ _ _ _ _ _ _ _ _ _ _ _ _ _ _ _ _ _ hkc h
  · have h := ob_f h hc1
    refine vi_iload C 0 dL_sailors_279 rfl ?_
    refine vi_goto (tgt := 299) C dL_sailors_281 (by decide) ?_
    refine vi_sub C [1, 2, 3, 4, 5, 6, 7, 8, 9, 10, 11, 12, 13] rfl ?_
    exact hk_L_sailors_299 C RET REC_19  _ _ _ _ _ _ _ _ _ _ _ _ _ _ _ _ _ _ _ _ hkc h
def hf_L_sailors_237 (mc : Nat) (ms : Nat) (rec_19 : Int32 → Int32 → Int32 → Int32 → Int64 → Int32 → vZ → Nat → Nat → Option (Int32 × vZ)) (x1 : Int32) (x2 : Int32) (x3 : Int32) (x4 : Int32) (x5 : Int32) (x6 : Int32) (x7 : Int32) (x8 : Int32) (x9 : UInt32) (x10 : Int64) (x11 : Int64) (x12 : Int32) (n13 : Nat) (g14 : Nat → Int32) (u : vZ) (kc : Nat) (ks : Nat) : Option (Int32 × vZ) := bd ((x11 ||| x10 : Int64)) fun y1 => obp (fX7_highest x5 u) fun y3 u2 => (if 0 ≤ x4 then obp (fX7_sailorOf x4 (5 : Int32) u2) fun y6 u5 => obp (fX7_sailorOf y3 (5 : Int32) u5) fun y8 u7 => hf_L_sailors_272 mc ms rec_19 x1 x2 x3 x4 y1 x5 x6 x7 x8 x9 y3 (y6 - y8) x12 n13 g14 u7 kc ks else hf_L_sailors_272 mc ms rec_19 x1 x2 x3 x4 y1 x5 x6 x7 x8 x9 y3 (1 : Int32) x12 n13 g14 u2 kc ks)
set_option maxRecDepth 100000 in
set_option maxHeartbeats 4000000 in
theorem hk_L_sailors_237 {ad adK adV : Nat → Nat} {tS tF : Nat} {tX sK sV : Nat → Nat} {p : Program} {l : Launch} {e : Env} {s : State} {m : MethodId} {args : Array Value} {below : List Frame} {meth : Method} {c : Code} {A : Nat → Prop} {D : va_G} {cI cF cC cS cO cB cZ : ClassId} {Q : State → Prop} {q0 qs qo qt qv qr qx ql : Nat → Nat} {qh : Nat → Nat → Nat} {mc : Nat} {ms : Nat} (C : vC (vE ad adK adV tS tF tX sK sV) p l s m args meth c A D (vT7 cI cF cC cS cO cB cZ) cL_sailors 16 RL) {r0 : Int32} {u0 : vZ} (RET : ∀ (q : Nat → Nat) (kc ks : Nat) (pc : Nat) (lv : List (Nat × Value)), (kc ≤ mc ∧ ks ≤ ms) → decode cL_sailors pc = .ok (.ireturn, 1) → (r0 = 0 ∨ r0 = 1) → vV p l e { frames := 9, cells := mc, slots := ms, locals := 214 } s m args below meth c A D 16 kc ks Q ([] ++ wX q0 qs qo qt qv qr qx ql ad qh cI cF cC cS cO u0) pc lv [.int r0]) {rec_19 : Int32 → Int32 → Int32 → Int32 → Int64 → Int32 → vZ → Nat → Nat → Option (Int32 × vZ)} (REC_19 : ∀ (x1 : Int32) (x2 : Int32) (x3 : Int32) (x4 : Int32) (x5 : Int64) (x6 : Int32) (u : vZ) (kc : Nat) (ks : Nat), (kc ≤ mc ∧ ks ≤ ms) → rec_19 x1 x2 x3 x4 x5 x6 u kc ks = some (r0, u0) → vV p l e { frames := 9, cells := mc, slots := ms, locals := 214 } s m args below meth c A D 16 kc ks Q ([] ++ wX q0 qs qo qt qv qr qx ql ad qh cI cF cC cS cO u) 19 [(0, .ref (q0 0)), (1, .int x1), (2, .int x2), (3, .int x3), (4, .int x4), (5, .long x5), (7, .int x6)] []) : ∀ (b0 : Nat) (b1 : Nat) (x1 : Int32) (x2 : Int32) (x3 : Int32) (x4 : Int32) (x5 : Int32) (x6 : Int32) (x7 : Int32) (x8 : Int32) (x9 : UInt32) (x10 : Int64) (x11 : Int64) (x12 : Int32) (n13 : Nat) (g14 : Nat → Int32) (u : vZ) (kc : Nat) (ks : Nat), (kc ≤ mc ∧ ks ≤ ms) → hf_L_sailors_237 mc ms rec_19 x1 x2 x3 x4 x5 x6 x7 x8 x9 x10 x11 x12 n13 g14 u kc ks = some (r0, u0) → vV p l e { frames := 9, cells := mc, slots := ms, locals := 214 } s m args below meth c A D 16 kc ks Q ([(b0, .inr (1, [.ref b1, .int (0 : Int32), .int (0 : Int32), .int x12])), (b1, .inl (cB, n13, .inl (g14)))] ++ wX q0 qs qo qt qv qr qx ql ad qh cI cF cC cS cO u) 237 [(0, .ref (q0 0)), (1, .int x1), (2, .int x2), (3, .int x3), (4, .int x4), (7, .int x5), (9, .int x6), (10, .int x7), (11, .int x8), (12, .float x9), (13, .ref b0)] [.long x10, .long x11] := by
  intro b0 b1 x1 x2 x3 x4 x5 x6 x7 x8 x9 x10 x11 x12 n13 g14 u kc ks hkc h
  rw [hf_L_sailors_237] at h
  refine vi_lor C dL_sailors_237 ?_
  obtain ⟨y1, ey1, h⟩ := ob_nm h
  refine vi_nml ey1 ?_
  refine vi_lstore (lv' := [(5, .long y1), (0, .ref (q0 0)), (1, .int x1), (2, .int x2), (3, .int x3), (4, .int x4), (7, .int x5), (9, .int x6), (10, .int x7), (11, .int x8), (12, .float x9), (13, .ref b0)]) C dL_sailors_238 (by decide) rfl ?_
  refine vi_aload_n C 1 dL_sailors_240 rfl ?_
  refine vi_iload C 6 dL_sailors_241 rfl ?_
  obtain ⟨y3, u2, hgu2, h⟩ := ob_p h
  refine cY_i (As := [.int x5]) (rest := []) (ud := u2) C 2 (mX7_highest C.2.2.2.2.2.2.2.2.1 hgu2) 1 rfl tcX7_highest tlL_134 tiX7_highest tsX7_highest rfl tnX7 tdX7_highest ⟨Nat.le_of_ble_eq_true rfl, Nat.le_of_ble_eq_true rfl⟩ hkc rfl rfl (Nat.le_of_ble_eq_true rfl) dL_sailors_243 ?_
  refine vi_istore (lv' := [(14, .int y3), (5, .long y1), (0, .ref (q0 0)), (1, .int x1), (2, .int x2), (3, .int x3), (4, .int x4), (7, .int x5), (9, .int x6), (10, .int x7), (11, .int x8), (12, .float x9), (13, .ref b0)]) C dL_sailors_246 (by decide) rfl ?_
  refine vi_iload C 6 dL_sailors_248 rfl ?_
  refine vi_if_ge (tgt := 257) C dL_sailors_250 (by decide) (fun hc4 => ?_) (fun hc4 => ?_)
  · have h := ob_t h hc4
    refine vi_aload_n C 2 dL_sailors_257 rfl ?_
    refine vi_iload C 6 dL_sailors_258 rfl ?_
    refine vi_iconst (v := 5) C dL_sailors_260 (by decide) ?_
    obtain ⟨y6, u5, hgu5, h⟩ := ob_p h
    refine cY_i (As := [.int x4, .int (5 : Int32)]) (rest := []) (ud := u5) C 2 (mX7_sailorOf C.2.2.2.2.2.2.2.2.1 hgu5) 2 rfl tcX7_sailorOf tlL_110 tiX7_sailorOf tsX7_sailorOf rfl tnX7 tdX7_sailorOf ⟨Nat.le_of_ble_eq_true rfl, Nat.le_of_ble_eq_true rfl⟩ hkc rfl rfl (Nat.le_of_ble_eq_true rfl) dL_sailors_261 ?_
    refine vi_aload_n C 2 dL_sailors_264 rfl ?_
    refine vi_iload C 0 dL_sailors_265 rfl ?_
    refine vi_iconst (v := 5) C dL_sailors_267 (by decide) ?_
    obtain ⟨y8, u7, hgu7, h⟩ := ob_p h
    refine cY_i (As := [.int y3, .int (5 : Int32)]) (rest := [.int y6]) (ud := u7) C 2 (mX7_sailorOf C.2.2.2.2.2.2.2.2.1 hgu7) 2 rfl tcX7_sailorOf tlL_110 tiX7_sailorOf tsX7_sailorOf rfl tnX7 tdX7_sailorOf ⟨Nat.le_of_ble_eq_true rfl, Nat.le_of_ble_eq_true rfl⟩ hkc rfl rfl (Nat.le_of_ble_eq_true rfl) dL_sailors_268 ?_
    refine vi_isub C dL_sailors_271 ?_
    refine vi_sub C [2, 3, 4, 5, 6, 1, 7, 8, 9, 10, 11, 12, 0] rfl ?_
    exact hk_L_sailors_272 C RET REC_19  _ _ _ _ _ _ _ _ _ _ _ _ _ _ _ _ _ _ _ _ hkc h
  · have h := ob_f h hc4
    refine vi_iconst (v := 1) C dL_sailors_253 (by decide) ?_
    refine vi_goto (tgt := 272) C dL_sailors_254 (by decide) ?_
    refine vi_sub C [2, 3, 4, 5, 6, 1, 7, 8, 9, 10, 11, 12, 0] rfl ?_
    exact hk_L_sailors_272 C RET REC_19  _ _ _ _ _ _ _ _ _ _ _ _ _ _ _ _ _ _ _ _ hkc h
def hf_L_sailors_19 (mc : Nat) (ms : Nat) : Nat → Int32 → Int32 → Int32 → Int32 → Int64 → Int32 → vZ → Nat → Nat → Option (Int32 × vZ)
  | 0, _, _, _, _, _, _, _, _, _ => none
  | n + 1, x1, x2, x3, x4, x5, x6, u, kc, ks => (if x1 ≤ x6 then hf_L_sailors_420 mc ms vF x1 x2 x3 x5 (0 : Int32) u kc ks else obp (fX7_sailorOf x6 (0 : Int32) u) fun y3 u2 => (fJ6_bitCount_0f7a4 (y3 &&& (255 : Int32))).bind fun y4 => (fJ6_bitCount_0f7a4 (y3 >>> ((8 : Int32) &&& 31))).bind fun y5 => obp (fX7_sailorOf x6 (1 : Int32) u2) fun y7 u6 => obp (fX7_sailorOf x6 (2 : Int32) u6) fun y9 u8 => obp (fX7_watchOf y9 (0 : Int32) u8) fun y11 u10 => bd ((((y4 + y7) - y5) - y11 : Int32)) fun y12 => obp (fX7_account (2 : Int32) u10) fun y14 u13 => if (FP.fdiv (FP.i2f (y12 + y14)) (1082130432 : UInt32)) &&& 0x7fffffff ≤ 0x7f800000 then obp (fX7_sailorOf x6 (1 : Int32) u13) fun y17 u16 => if (FP.fdiv (FP.i2f y17) (1090519040 : UInt32)) &&& 0x7fffffff ≤ 0x7f800000 then if (FP.fsub (FP.fdiv (FP.i2f (y12 + y14)) (1082130432 : UInt32)) (FP.fdiv (FP.i2f y17) (1090519040 : UInt32))) &&& 0x7fffffff ≤ 0x7f800000 then bd ((FP.fsub (FP.fdiv (FP.i2f (y12 + y14)) (1082130432 : UInt32)) (FP.fdiv (FP.i2f y17) (1090519040 : UInt32)) : UInt32)) fun y20 => if kc + 1 ≤ mc ∧ ks + 4 ≤ ms then bd (kc + 1) fun kc23 => bd (ks + 4) fun ks24 => if kc23 + (2) ≤ mc ∧ ks24 + (12) ≤ ms then (hf_J6_toHexString_b52d3 (2) (12) ((65536 : Int32) + y3)).bind fun z26 => bd (kc23 + (2)) fun kc28 => bd (ks24 + (12)) fun ks29 => if kc28 + (2) ≤ mc ∧ ks29 + ((z26.1) + 4) ≤ ms then (hf_J0_substring_b52d3 (2) ((z26.1) + 4) (z26.1) (z26.2) (1 : Int32)).bind fun z31 => bd (kc28 + (2)) fun kc33 => bd (ks29 + ((z26.1) + 4)) fun ks34 => if kc33 + (1) ≤ mc ∧ ks34 + ((z31.1) + 16) ≤ ms then (hf_J4_init_a7421 (1) ((z31.1) + 16) (z31.1) (z31.2)).bind fun z36 => bd (kc33 + (1)) fun kc38 => bd (ks34 + ((z31.1) + 16)) fun ks39 => obp (fX7_sailorOf x6 (1 : Int32) u16) fun y41 u40 => (if y41 ≤ 0 then if kc38 + (gc1 (z36.1 + Int32.ofNat (vLlen.getD (1) 0)) (z36.2.1)) ≤ mc ∧ ks39 + (gc2 (z36.1 + Int32.ofNat (vLlen.getD (1) 0)) (z36.2.1)) ≤ ms then (hf_J4_append_15ec4_K (gc1 (z36.1 + Int32.ofNat (vLlen.getD (1) 0)) (z36.2.1)) (gc2 (z36.1 + Int32.ofNat (vLlen.getD (1) 0)) (z36.2.1)) (1) (z36.1) (z36.2.1) (z36.2.2)).bind fun z44 => bd (kc38 + (gc1 (z36.1 + Int32.ofNat (vLlen.getD (1) 0)) (z36.2.1))) fun kc46 => bd (ks39 + (gc2 (z36.1 + Int32.ofNat (vLlen.getD (1) 0)) (z36.2.1))) fun ks47 => if kc46 + (gc1 (z44.1 + 1) (z44.2.1)) ≤ mc ∧ ks47 + (gc2 (z44.1 + 1) (z44.2.1)) ≤ ms then (hf_J4_append_cf468 (gc1 (z44.1 + 1) (z44.2.1)) (gc2 (z44.1 + 1) (z44.2.1)) (64 : Int32) (z44.1) (z44.2.1) (z44.2.2)).bind fun z49 => bd (kc46 + (gc1 (z44.1 + 1) (z44.2.1))) fun kc51 => bd (ks47 + (gc2 (z44.1 + 1) (z44.2.1))) fun ks52 => obp (fX7_sailorOf x6 (2 : Int32) u40) fun y54 u53 => if kc51 + (gc1 (z49.1 + (fJ6_stringSize_0f7a4 y54).getD 0) (z49.2.1)) ≤ mc ∧ ks52 + (gc2 (z49.1 + (fJ6_stringSize_0f7a4 y54).getD 0) (z49.2.1)) ≤ ms then (hf_J4_append_bf812 (gc1 (z49.1 + (fJ6_stringSize_0f7a4 y54).getD 0) (z49.2.1)) (gc2 (z49.1 + (fJ6_stringSize_0f7a4 y54).getD 0) (z49.2.1)) y54 (z49.1) (z49.2.1) (z49.2.2)).bind fun z56 => bd (kc51 + (gc1 (z49.1 + (fJ6_stringSize_0f7a4 y54).getD 0) (z49.2.1))) fun kc58 => bd (ks52 + (gc2 (z49.1 + (fJ6_stringSize_0f7a4 y54).getD 0) (z49.2.1))) fun ks59 => if kc58 + (gc1 (z56.1 + 1) (z56.2.1)) ≤ mc ∧ ks59 + (gc2 (z56.1 + 1) (z56.2.1)) ≤ ms then (hf_J4_append_cf468 (gc1 (z56.1 + 1) (z56.2.1)) (gc2 (z56.1 + 1) (z56.2.1)) (62 : Int32) (z56.1) (z56.2.1) (z56.2.2)).bind fun z61 => bd (kc58 + (gc1 (z56.1 + 1) (z56.2.1))) fun kc63 => bd (ks59 + (gc2 (z56.1 + 1) (z56.2.1))) fun ks64 => if kc63 + (gc1 (z61.1 + (fJ6_stringSize_0f7a4 y12).getD 0) (z61.2.1)) ≤ mc ∧ ks64 + (gc2 (z61.1 + (fJ6_stringSize_0f7a4 y12).getD 0) (z61.2.1)) ≤ ms then (hf_J4_append_bf812 (gc1 (z61.1 + (fJ6_stringSize_0f7a4 y12).getD 0) (z61.2.1)) (gc2 (z61.1 + (fJ6_stringSize_0f7a4 y12).getD 0) (z61.2.1)) y12 (z61.1) (z61.2.1) (z61.2.2)).bind fun z66 => bd (kc63 + (gc1 (z61.1 + (fJ6_stringSize_0f7a4 y12).getD 0) (z61.2.1))) fun kc68 => bd (ks64 + (gc2 (z61.1 + (fJ6_stringSize_0f7a4 y12).getD 0) (z61.2.1))) fun ks69 => obp (fX7_sailorOf x6 (1 : Int32) u53) fun y71 u70 => bd ((x2 + y71 : Int32)) fun y72 => bd ((x3 + y12 : Int32)) fun y73 => (if (4 : Int32) ≤ x6 then hf_L_sailors_237 mc ms (fun c0 c1 c2 c3 c4 c5 c6 c7 c8 => hf_L_sailors_19 mc ms n  c0 c1 c2 c3 c4 c5 c6 c7 c8) x1 y72 y73 x4 x6 y4 y5 y12 y20 (0 : Int64) x5 (z66.1) (z66.2.1) (z66.2.2) u70 kc68 ks69 else hf_L_sailors_237 mc ms (fun c0 c1 c2 c3 c4 c5 c6 c7 c8 => hf_L_sailors_19 mc ms n  c0 c1 c2 c3 c4 c5 c6 c7 c8) x1 y72 y73 x4 x6 y4 y5 y12 y20 ((Int32.toInt64 y3) <<< (Int32.toInt64 ((16 : Int32) * x6) &&& 63)) x5 (z66.1) (z66.2.1) (z66.2.2) u70 kc68 ks69) else none else none else none else none else none else if kc38 + 1 ≤ mc ∧ ks39 + 4 ≤ ms then bd (kc38 + 1) fun kc77 => bd (ks39 + 4) fun ks78 => if kc77 + (1) ≤ mc ∧ ks78 + (16) ≤ ms then (hf_J4_init_da8c8 (1) (16)).bind fun z80 => bd (kc77 + (1)) fun kc82 => bd (ks78 + (16)) fun ks83 => if kc82 + (gc1 ((0 : Int32) + Int32.ofNat (vLlen.getD (0) 0)) (z80.1)) ≤ mc ∧ ks83 + (gc2 ((0 : Int32) + Int32.ofNat (vLlen.getD (0) 0)) (z80.1)) ≤ ms then (hf_J4_append_15ec4_K (gc1 ((0 : Int32) + Int32.ofNat (vLlen.getD (0) 0)) (z80.1)) (gc2 ((0 : Int32) + Int32.ofNat (vLlen.getD (0) 0)) (z80.1)) (0) (0 : Int32) (z80.1) (z80.2)).bind fun z85 => bd (kc82 + (gc1 ((0 : Int32) + Int32.ofNat (vLlen.getD (0) 0)) (z80.1))) fun kc87 => bd (ks83 + (gc2 ((0 : Int32) + Int32.ofNat (vLlen.getD (0) 0)) (z80.1))) fun ks88 => obp (fX7_sailorOf x6 (1 : Int32) u40) fun y90 u89 => if kc87 + (gc1 (z85.1 + (fJ6_stringSize_0f7a4 y90).getD 0) (z85.2.1)) ≤ mc ∧ ks88 + (gc2 (z85.1 + (fJ6_stringSize_0f7a4 y90).getD 0) (z85.2.1)) ≤ ms then (hf_J4_append_bf812 (gc1 (z85.1 + (fJ6_stringSize_0f7a4 y90).getD 0) (z85.2.1)) (gc2 (z85.1 + (fJ6_stringSize_0f7a4 y90).getD 0) (z85.2.1)) y90 (z85.1) (z85.2.1) (z85.2.2)).bind fun z92 => bd (kc87 + (gc1 (z85.1 + (fJ6_stringSize_0f7a4 y90).getD 0) (z85.2.1))) fun kc94 => bd (ks88 + (gc2 (z85.1 + (fJ6_stringSize_0f7a4 y90).getD 0) (z85.2.1))) fun ks95 => if kc94 + (2) ≤ mc ∧ ks95 + (Int32.toNatClampNeg (z92.1) + 4) ≤ ms then (hf_J4_toString_0e30d (2) (Int32.toNatClampNeg (z92.1) + 4) (z92.1) (z92.2.1) (z92.2.2)).bind fun z97 => bd (kc94 + (2)) fun kc99 => bd (ks95 + (Int32.toNatClampNeg (z92.1) + 4)) fun ks100 => if kc99 + (gc1 (z36.1 + Int32.ofNat (z97.1)) (z36.2.1)) ≤ mc ∧ ks100 + (gc2 (z36.1 + Int32.ofNat (z97.1)) (z36.2.1)) ≤ ms then (hf_J4_append_15ec4 (gc1 (z36.1 + Int32.ofNat (z97.1)) (z36.2.1)) (gc2 (z36.1 + Int32.ofNat (z97.1)) (z36.2.1)) (z97.1) (z97.2) (z36.1) (z36.2.1) (z36.2.2)).bind fun z102 => bd (kc99 + (gc1 (z36.1 + Int32.ofNat (z97.1)) (z36.2.1))) fun kc104 => bd (ks100 + (gc2 (z36.1 + Int32.ofNat (z97.1)) (z36.2.1))) fun ks105 => if kc104 + (gc1 (z102.1 + 1) (z102.2.1)) ≤ mc ∧ ks105 + (gc2 (z102.1 + 1) (z102.2.1)) ≤ ms then (hf_J4_append_cf468 (gc1 (z102.1 + 1) (z102.2.1)) (gc2 (z102.1 + 1) (z102.2.1)) (64 : Int32) (z102.1) (z102.2.1) (z102.2.2)).bind fun z107 => bd (kc104 + (gc1 (z102.1 + 1) (z102.2.1))) fun kc109 => bd (ks105 + (gc2 (z102.1 + 1) (z102.2.1))) fun ks110 => obp (fX7_sailorOf x6 (2 : Int32) u89) fun y112 u111 => if kc109 + (gc1 (z107.1 + (fJ6_stringSize_0f7a4 y112).getD 0) (z107.2.1)) ≤ mc ∧ ks110 + (gc2 (z107.1 + (fJ6_stringSize_0f7a4 y112).getD 0) (z107.2.1)) ≤ ms then (hf_J4_append_bf812 (gc1 (z107.1 + (fJ6_stringSize_0f7a4 y112).getD 0) (z107.2.1)) (gc2 (z107.1 + (fJ6_stringSize_0f7a4 y112).getD 0) (z107.2.1)) y112 (z107.1) (z107.2.1) (z107.2.2)).bind fun z114 => bd (kc109 + (gc1 (z107.1 + (fJ6_stringSize_0f7a4 y112).getD 0) (z107.2.1))) fun kc116 => bd (ks110 + (gc2 (z107.1 + (fJ6_stringSize_0f7a4 y112).getD 0) (z107.2.1))) fun ks117 => if kc116 + (gc1 (z114.1 + 1) (z114.2.1)) ≤ mc ∧ ks117 + (gc2 (z114.1 + 1) (z114.2.1)) ≤ ms then (hf_J4_append_cf468 (gc1 (z114.1 + 1) (z114.2.1)) (gc2 (z114.1 + 1) (z114.2.1)) (62 : Int32) (z114.1) (z114.2.1) (z114.2.2)).bind fun z119 => bd (kc116 + (gc1 (z114.1 + 1) (z114.2.1))) fun kc121 => bd (ks117 + (gc2 (z114.1 + 1) (z114.2.1))) fun ks122 => if kc121 + (gc1 (z119.1 + (fJ6_stringSize_0f7a4 y12).getD 0) (z119.2.1)) ≤ mc ∧ ks122 + (gc2 (z119.1 + (fJ6_stringSize_0f7a4 y12).getD 0) (z119.2.1)) ≤ ms then (hf_J4_append_bf812 (gc1 (z119.1 + (fJ6_stringSize_0f7a4 y12).getD 0) (z119.2.1)) (gc2 (z119.1 + (fJ6_stringSize_0f7a4 y12).getD 0) (z119.2.1)) y12 (z119.1) (z119.2.1) (z119.2.2)).bind fun z124 => bd (kc121 + (gc1 (z119.1 + (fJ6_stringSize_0f7a4 y12).getD 0) (z119.2.1))) fun kc126 => bd (ks122 + (gc2 (z119.1 + (fJ6_stringSize_0f7a4 y12).getD 0) (z119.2.1))) fun ks127 => obp (fX7_sailorOf x6 (1 : Int32) u111) fun y129 u128 => bd ((x2 + y129 : Int32)) fun y130 => bd ((x3 + y12 : Int32)) fun y131 => (if (4 : Int32) ≤ x6 then hf_L_sailors_237 mc ms (fun c0 c1 c2 c3 c4 c5 c6 c7 c8 => hf_L_sailors_19 mc ms n  c0 c1 c2 c3 c4 c5 c6 c7 c8) x1 y130 y131 x4 x6 y4 y5 y12 y20 (0 : Int64) x5 (z124.1) (z124.2.1) (z124.2.2) u128 kc126 ks127 else hf_L_sailors_237 mc ms (fun c0 c1 c2 c3 c4 c5 c6 c7 c8 => hf_L_sailors_19 mc ms n  c0 c1 c2 c3 c4 c5 c6 c7 c8) x1 y130 y131 x4 x6 y4 y5 y12 y20 ((Int32.toInt64 y3) <<< (Int32.toInt64 ((16 : Int32) * x6) &&& 63)) x5 (z124.1) (z124.2.1) (z124.2.2) u128 kc126 ks127) else none else none else none else none else none else none else none else none else none else none) else none else none else none else none else none else none else none)
set_option maxRecDepth 100000 in
set_option maxHeartbeats 4000000 in
theorem hk_L_sailors_19 {ad adK adV : Nat → Nat} {tS tF : Nat} {tX sK sV : Nat → Nat} {p : Program} {l : Launch} {e : Env} {s : State} {m : MethodId} {args : Array Value} {below : List Frame} {meth : Method} {c : Code} {A : Nat → Prop} {D : va_G} {cI cF cC cS cO cB cZ : ClassId} {Q : State → Prop} {q0 qs qo qt qv qr qx ql : Nat → Nat} {qh : Nat → Nat → Nat} {mc : Nat} {ms : Nat} (C : vC (vE ad adK adV tS tF tX sK sV) p l s m args meth c A D (vT7 cI cF cC cS cO cB cZ) cL_sailors 16 RL) {r0 : Int32} {u0 : vZ} (RET : ∀ (q : Nat → Nat) (kc ks : Nat) (pc : Nat) (lv : List (Nat × Value)), (kc ≤ mc ∧ ks ≤ ms) → decode cL_sailors pc = .ok (.ireturn, 1) → (r0 = 0 ∨ r0 = 1) → vV p l e { frames := 9, cells := mc, slots := ms, locals := 214 } s m args below meth c A D 16 kc ks Q ([] ++ wX q0 qs qo qt qv qr qx ql ad qh cI cF cC cS cO u0) pc lv [.int r0]) : ∀ (n : Nat) (x1 : Int32) (x2 : Int32) (x3 : Int32) (x4 : Int32) (x5 : Int64) (x6 : Int32) (u : vZ) (kc : Nat) (ks : Nat), (kc ≤ mc ∧ ks ≤ ms) → hf_L_sailors_19 mc ms n x1 x2 x3 x4 x5 x6 u kc ks = some (r0, u0) → vV p l e { frames := 9, cells := mc, slots := ms, locals := 214 } s m args below meth c A D 16 kc ks Q ([] ++ wX q0 qs qo qt qv qr qx ql ad qh cI cF cC cS cO u) 19 [(0, .ref (q0 0)), (1, .int x1), (2, .int x2), (3, .int x3), (4, .int x4), (5, .long x5), (7, .int x6)] [] := by
  intro n
  induction n with
  | zero => intro x1 x2 x3 x4 x5 x6 u kc ks hkc h; rw [hf_L_sailors_19] at h; cases h
  | succ n ih =>
    intro x1 x2 x3 x4 x5 x6 u kc ks hkc h
    rw [hf_L_sailors_19] at h
    refine vi_iload C 6 dL_sailors_19 rfl ?_
    refine vi_iload_n C 1 dL_sailors_21 rfl ?_
    refine vi_icmp_ge (tgt := 417) C dL_sailors_22 (by decide) (fun hc1 => ?_) (fun hc1 => ?_)
    · have h := ob_t h hc1
      refine vi_iconst (v := 0) C dL_sailors_417 (by decide) ?_
      refine vi_istore (lv' := [(7, .int (0 : Int32)), (0, .ref (q0 0)), (1, .int x1), (2, .int x2), (3, .int x3), (4, .int x4), (5, .long x5)]) C dL_sailors_418 (by decide) rfl ?_
      refine vi_sub C [1, 2, 3, 4, 6, 0] rfl ?_
      exact hk_L_sailors_420 C RET  vF _ _ _ _ _ _ _ _ hkc h
    · have h := ob_f h hc1
      refine vi_aload_n C 0 dL_sailors_25 rfl ?_
      refine vi_iload C 6 dL_sailors_26 rfl ?_
      refine vi_iconst (v := 0) C dL_sailors_28 (by decide) ?_
      obtain ⟨y3, u2, hgu2, h⟩ := ob_p h
      refine cY_i (As := [.int x6, .int (0 : Int32)]) (rest := []) (ud := u2) C 0 (mX7_sailorOf C.2.2.2.2.2.2.2.2.1 hgu2) 2 rfl tcX7_sailorOf tlL_110 tiX7_sailorOf tsX7_sailorOf rfl tnX7 tdX7_sailorOf ⟨Nat.le_of_ble_eq_true rfl, Nat.le_of_ble_eq_true rfl⟩ hkc rfl rfl (Nat.le_of_ble_eq_true rfl) dL_sailors_29 ?_
      refine vi_istore (lv' := [(8, .int y3), (0, .ref (q0 0)), (1, .int x1), (2, .int x2), (3, .int x3), (4, .int x4), (5, .long x5), (7, .int x6)]) C dL_sailors_32 (by decide) rfl ?_
      refine vi_iload C 0 dL_sailors_34 rfl ?_
      refine vi_sipush (v := 255) C dL_sailors_36 (by decide) ?_
      refine vi_iand C dL_sailors_39 ?_
      obtain ⟨y4, hgy4, h⟩ := ob_bd h
      refine vi_callS1i (As := [.int (y3 &&& (255 : Int32))]) (rest := []) C (mJ6_bitCount_0f7a4 C.2.2.2.2.2.2.2.2.1 hgy4) 1 rfl tcJ6_bitCount_0f7a4 tlL_113 ttJ6_bitCount_0f7a4 tnJ6 tdJ6_bitCount_0f7a4 ⟨Nat.le_of_ble_eq_true rfl, Nat.le_of_ble_eq_true rfl⟩ hkc rfl (Nat.le_of_ble_eq_true rfl) dL_sailors_40 ?_
      refine vi_istore (lv' := [(9, .int y4), (8, .int y3), (0, .ref (q0 0)), (1, .int x1), (2, .int x2), (3, .int x3), (4, .int x4), (5, .long x5), (7, .int x6)]) C dL_sailors_43 (by decide) rfl ?_
      refine vi_iload C 1 dL_sailors_45 rfl ?_
      refine vi_bipush (v := 8) C dL_sailors_47 (by decide) ?_
      refine vi_ishr C dL_sailors_49 ?_
      obtain ⟨y5, hgy5, h⟩ := ob_bd h
      refine vi_callS1i (As := [.int (y3 >>> ((8 : Int32) &&& 31))]) (rest := []) C (mJ6_bitCount_0f7a4 C.2.2.2.2.2.2.2.2.1 hgy5) 1 rfl tcJ6_bitCount_0f7a4 tlL_113 ttJ6_bitCount_0f7a4 tnJ6 tdJ6_bitCount_0f7a4 ⟨Nat.le_of_ble_eq_true rfl, Nat.le_of_ble_eq_true rfl⟩ hkc rfl (Nat.le_of_ble_eq_true rfl) dL_sailors_50 ?_
      refine vi_istore (lv' := [(10, .int y5), (9, .int y4), (8, .int y3), (0, .ref (q0 0)), (1, .int x1), (2, .int x2), (3, .int x3), (4, .int x4), (5, .long x5), (7, .int x6)]) C dL_sailors_53 (by decide) rfl ?_
      refine vi_iload C 1 dL_sailors_55 rfl ?_
      refine vi_aload_n C 3 dL_sailors_57 rfl ?_
      refine vi_iload C 9 dL_sailors_58 rfl ?_
      refine vi_iconst (v := 1) C dL_sailors_60 (by decide) ?_
      obtain ⟨y7, u6, hgu6, h⟩ := ob_p h
      refine cY_i (As := [.int x6, .int (1 : Int32)]) (rest := [.int y4]) (ud := u6) C 0 (mX7_sailorOf C.2.2.2.2.2.2.2.2.1 hgu6) 2 rfl tcX7_sailorOf tlL_110 tiX7_sailorOf tsX7_sailorOf rfl tnX7 tdX7_sailorOf ⟨Nat.le_of_ble_eq_true rfl, Nat.le_of_ble_eq_true rfl⟩ hkc rfl rfl (Nat.le_of_ble_eq_true rfl) dL_sailors_61 ?_
      refine vi_iadd C dL_sailors_64 ?_
      refine vi_iload C 0 dL_sailors_65 rfl ?_
      refine vi_isub C dL_sailors_67 ?_
      refine vi_aload_n C 3 dL_sailors_68 rfl ?_
      refine vi_aload_n C 3 dL_sailors_69 rfl ?_
      refine vi_iload C 9 dL_sailors_70 rfl ?_
      refine vi_iconst (v := 2) C dL_sailors_72 (by decide) ?_
      obtain ⟨y9, u8, hgu8, h⟩ := ob_p h
      refine cY_i (As := [.int x6, .int (2 : Int32)]) (rest := [.ref (q0 0), .int ((y4 + y7) - y5)]) (ud := u8) C 0 (mX7_sailorOf C.2.2.2.2.2.2.2.2.1 hgu8) 2 rfl tcX7_sailorOf tlL_110 tiX7_sailorOf tsX7_sailorOf rfl tnX7 tdX7_sailorOf ⟨Nat.le_of_ble_eq_true rfl, Nat.le_of_ble_eq_true rfl⟩ hkc rfl rfl (Nat.le_of_ble_eq_true rfl) dL_sailors_73 ?_
      refine vi_iconst (v := 0) C dL_sailors_76 (by decide) ?_
      obtain ⟨y11, u10, hgu10, h⟩ := ob_p h
      refine cY_i (As := [.int y9, .int (0 : Int32)]) (rest := [.int ((y4 + y7) - y5)]) (ud := u10) C 0 (mX7_watchOf C.2.2.2.2.2.2.2.2.1 hgu10) 2 rfl tcX7_watchOf tlL_103 tiX7_watchOf tsX7_watchOf rfl tnX7 tdX7_watchOf ⟨Nat.le_of_ble_eq_true rfl, Nat.le_of_ble_eq_true rfl⟩ hkc rfl rfl (Nat.le_of_ble_eq_true rfl) dL_sailors_77 ?_
      refine vi_isub C dL_sailors_80 ?_
      obtain ⟨y12, ey12, h⟩ := ob_nm h
      refine vi_nmi ey12 ?_
      refine vi_istore (lv' := [(11, .int y12), (10, .int y5), (9, .int y4), (8, .int y3), (0, .ref (q0 0)), (1, .int x1), (2, .int x2), (3, .int x3), (4, .int x4), (5, .long x5), (7, .int x6)]) C dL_sailors_81 (by decide) rfl ?_
      refine vi_iload C 0 dL_sailors_83 rfl ?_
      refine vi_aload_n C 4 dL_sailors_85 rfl ?_
      refine vi_iconst (v := 2) C dL_sailors_86 (by decide) ?_
      obtain ⟨y14, u13, hgu13, h⟩ := ob_p h
      refine cY_i (As := [.int (2 : Int32)]) (rest := [.int y12]) (ud := u13) C 0 (mX7_account C.2.2.2.2.2.2.2.2.1 hgu13) 1 rfl tcX7_account tlL_37 tiX7_account tsX7_account rfl tnX7 tdX7_account ⟨Nat.le_of_ble_eq_true rfl, Nat.le_of_ble_eq_true rfl⟩ hkc rfl rfl (Nat.le_of_ble_eq_true rfl) dL_sailors_87 ?_
      refine vi_iadd C dL_sailors_90 ?_
      refine vi_i2f C dL_sailors_91 ?_
      refine vi_ldcf (v := 1082130432) C dL_sailors_92 tkL_118 ?_
      obtain ⟨hz15, h⟩ := ob_ok h
      refine vi_fdiv C dL_sailors_94 hz15 ?_
      refine vi_aload_n C 4 dL_sailors_95 rfl ?_
      refine vi_iload C 10 dL_sailors_96 rfl ?_
      refine vi_iconst (v := 1) C dL_sailors_98 (by decide) ?_
      obtain ⟨y17, u16, hgu16, h⟩ := ob_p h
      refine cY_i (As := [.int x6, .int (1 : Int32)]) (rest := [.float (FP.fdiv (FP.i2f (y12 + y14)) (1082130432 : UInt32))]) (ud := u16) C 0 (mX7_sailorOf C.2.2.2.2.2.2.2.2.1 hgu16) 2 rfl tcX7_sailorOf tlL_110 tiX7_sailorOf tsX7_sailorOf rfl tnX7 tdX7_sailorOf ⟨Nat.le_of_ble_eq_true rfl, Nat.le_of_ble_eq_true rfl⟩ hkc rfl rfl (Nat.le_of_ble_eq_true rfl) dL_sailors_99 ?_
      refine vi_i2f C dL_sailors_102 ?_
      refine vi_ldcf (v := 1090519040) C dL_sailors_103 tkL_119 ?_
      obtain ⟨hz18, h⟩ := ob_ok h
      refine vi_fdiv C dL_sailors_105 hz18 ?_
      obtain ⟨hz19, h⟩ := ob_ok h
      refine vi_fsub C dL_sailors_106 hz19 ?_
      obtain ⟨y20, ey20, h⟩ := ob_nm h
      refine vi_nmf ey20 ?_
      refine vi_fstore (lv' := [(12, .float y20), (11, .int y12), (10, .int y5), (9, .int y4), (8, .int y3), (0, .ref (q0 0)), (1, .int x1), (2, .int x2), (3, .int x3), (4, .int x4), (5, .long x5), (7, .int x6)]) C dL_sailors_107 (by decide) rfl ?_
      obtain ⟨hz21, h⟩ := ob_ok h
      refine vi_new (ci := 1) (fs := [.null, .int (0 : Int32), .int (0 : Int32), .int (0 : Int32)]) C inJ4w tyJ4 tyJ4_ok tlcL_77 tinst_J4 tnJ4 rfl (by decide +kernel) hz21.1 hz21.2 dL_sailors_109 (fun a22 => ?_)
      refine vi_swp ?_
      refine vi_w C (w' := ([(a22, .inr (1, [.null, .int (0 : Int32), .int (0 : Int32), .int (0 : Int32)]))] ++ wX q0 qs qo qt qv qr qx ql ad qh cI cF cC cS cO u16)) rfl ?_
      obtain ⟨kc23, ekc23, h⟩ := ob_nm h
      obtain ⟨ks24, eks24, h⟩ := ob_nm h
      refine vi_kk ekc23.symm eks24.symm ?_
      rw [← ekc23, ← eks24] at hz21
      refine vi_dup C dL_sailors_112 rfl ?_
      refine vi_ldc (v := 65536) C dL_sailors_113 tkL_35 ?_
      refine vi_iload C 4 dL_sailors_115 rfl ?_
      refine vi_iadd C dL_sailors_117 ?_
      obtain ⟨hz25, h⟩ := ob_ok h
      obtain ⟨z26, hgz26, h⟩ := ob_bd h
      refine vi_w C (w' := ([(a22, .inr (1, [.null, .int (0 : Int32), .int (0 : Int32), .int (0 : Int32)]))] ++ []) ++ wX q0 qs qo qt qv qr qx ql ad qh cI cF cC cS cO u16) rfl ?_
      refine vi_swp ?_
      refine g_cr C (g_runS (As := [.int ((65536 : Int32) + y3)]) (rest := [.ref a22, .ref a22]) (w1 := ([(a22, .inr (1, [.null, .int (0 : Int32), .int (0 : Int32), .int (0 : Int32)]))] ++ wX q0 qs qo qt qv qr qx ql ad qh cI cF cC cS cO u16)) (wc := []) C (hm_J6_toHexString_b52d3  (mc := (2)) (ms := (12)) (x0 := ((65536 : Int32) + y3)) (r_n1 := z26.1) (r_g2 := z26.2) C.2.2.2.2.2.2.2.2.1 hgz26) 1 rfl tcJ6_toHexString_b52d3 tlL_120 ttJ6_toHexString_b52d3 tnJ6 tdJ6_toHexString_b52d3 ⟨Nat.le_of_ble_eq_true rfl, Nat.le_of_ble_eq_true rfl⟩ hz25 rfl (Nat.le_of_ble_eq_true rfl) dL_sailors_118 rfl) rfl (fun q27 => ?_)
      refine vi_swp ?_
      refine vi_w C (w' := ([(a22, .inr (1, [.null, .int (0 : Int32), .int (0 : Int32), .int (0 : Int32)])), ((q27 0), .inr (0, [.ref (q27 1), .int (0 : Int32), .int (0 : Int32), .int (0 : Int32)])), ((q27 1), .inl (cB, z26.1, .inl (z26.2)))] ++ wX q0 qs qo qt qv qr qx ql ad qh cI cF cC cS cO u16)) rfl ?_
      obtain ⟨kc28, ekc28, h⟩ := ob_nm h
      obtain ⟨ks29, eks29, h⟩ := ob_nm h
      refine vi_kk ekc28.symm eks29.symm ?_
      rw [← ekc28, ← eks29] at hz25
      refine vi_iconst (v := 1) C dL_sailors_121 (by decide) ?_
      obtain ⟨hz30, h⟩ := ob_ok h
      obtain ⟨z31, hgz31, h⟩ := ob_bd h
      refine vi_w C (w' := ([(a22, .inr (1, [.null, .int (0 : Int32), .int (0 : Int32), .int (0 : Int32)]))] ++ [((q27 0), .inr (0, [.ref (q27 1), .int (0 : Int32), .int (0 : Int32), .int (0 : Int32)])), ((q27 1), .inl (cB, z26.1, .inl (z26.2)))]) ++ wX q0 qs qo qt qv qr qx ql ad qh cI cF cC cS cO u16) rfl ?_
      refine vi_swp ?_
      refine g_cr C (g_runV (T := TJ0) (N := 4) (ci := 0) (fs := [.ref (q27 1), .int (0 : Int32), .int (0 : Int32), .int (0 : Int32)]) (As := [.int (1 : Int32)]) (rest := [.ref a22, .ref a22]) (w1 := ([(a22, .inr (1, [.null, .int (0 : Int32), .int (0 : Int32), .int (0 : Int32)]))] ++ wX q0 qs qo qt qv qr qx ql ad qh cI cF cC cS cO u16)) (wc := [((q27 0), .inr (0, [.ref (q27 1), .int (0 : Int32), .int (0 : Int32), .int (0 : Int32)])), ((q27 1), .inl (cB, z26.1, .inl (z26.2)))]) C (hm_J0_substring_b52d3 (a0 := (q27 0)) (a1 := (q27 1)) (mc := (2)) (ms := ((z26.1) + 4)) (n1 := (z26.1)) (g1 := (z26.2)) (x1 := (1 : Int32)) (r_n1 := z31.1) (r_g2 := z31.2) C.2.2.2.2.2.2.2.2.1 hgz31) 1 rfl tcJ0_substring_b52d3 tlL_124 tiJ0_substring_b52d3 tsJ0_substring_b52d3 tnJ0 tdJ0_substring_b52d3 ⟨Nat.le_of_ble_eq_true rfl, Nat.le_of_ble_eq_true rfl⟩ hz30 (1 + 101 + 0) rfl rfl rfl (Nat.le_of_ble_eq_true rfl) dL_sailors_122 rfl) rfl (fun q32 => ?_)
      refine vi_swp ?_
      refine vi_w C (w' := ([(a22, .inr (1, [.null, .int (0 : Int32), .int (0 : Int32), .int (0 : Int32)])), ((q27 0), .inr (0, [.ref (q27 1), .int (0 : Int32), .int (0 : Int32), .int (0 : Int32)])), ((q27 1), .inl (cB, z26.1, .inl (z26.2))), ((q32 0), .inr (0, [.ref (q32 1), .int (0 : Int32), .int (0 : Int32), .int (0 : Int32)])), ((q32 1), .inl (cB, z31.1, .inl (z31.2)))] ++ wX q0 qs qo qt qv qr qx ql ad qh cI cF cC cS cO u16)) rfl ?_
      obtain ⟨kc33, ekc33, h⟩ := ob_nm h
      obtain ⟨ks34, eks34, h⟩ := ob_nm h
      refine vi_kk ekc33.symm eks34.symm ?_
      rw [← ekc33, ← eks34] at hz30
      obtain ⟨hz35, h⟩ := ob_ok h
      obtain ⟨z36, hgz36, h⟩ := ob_bd h
      refine vi_pickX (ex2 := [((q27 0), .inr (0, [.ref (q27 1), .int (0 : Int32), .int (0 : Int32), .int (0 : Int32)])), ((q27 1), .inl (cB, z26.1, .inl (z26.2))), (a22, .inr (1, [.null, .int (0 : Int32), .int (0 : Int32), .int (0 : Int32)])), ((q32 0), .inr (0, [.ref (q32 1), .int (0 : Int32), .int (0 : Int32), .int (0 : Int32)])), ((q32 1), .inl (cB, z31.1, .inl (z31.2)))]) [1, 2, 0, 3, 4] (by decide) rfl ?_
      refine vi_w C (w' := ([((q27 0), .inr (0, [.ref (q27 1), .int (0 : Int32), .int (0 : Int32), .int (0 : Int32)])), ((q27 1), .inl (cB, z26.1, .inl (z26.2)))] ++ [(a22, .inr (1, [.null, .int (0 : Int32), .int (0 : Int32), .int (0 : Int32)])), ((q32 0), .inr (0, [.ref (q32 1), .int (0 : Int32), .int (0 : Int32), .int (0 : Int32)])), ((q32 1), .inl (cB, z31.1, .inl (z31.2)))]) ++ wX q0 qs qo qt qv qr qx ql ad qh cI cF cC cS cO u16) rfl ?_
      refine vi_swp ?_
      refine g_cv C (g_runI (As := [.ref (q32 0)]) (rest := [.ref a22]) (w1 := ([((q27 0), .inr (0, [.ref (q27 1), .int (0 : Int32), .int (0 : Int32), .int (0 : Int32)])), ((q27 1), .inl (cB, z26.1, .inl (z26.2)))] ++ wX q0 qs qo qt qv qr qx ql ad qh cI cF cC cS cO u16)) (wc := [(a22, .inr (1, [.null, .int (0 : Int32), .int (0 : Int32), .int (0 : Int32)])), ((q32 0), .inr (0, [.ref (q32 1), .int (0 : Int32), .int (0 : Int32), .int (0 : Int32)])), ((q32 1), .inl (cB, z31.1, .inl (z31.2)))]) C (hm_J4_init_a7421 (a0 := a22) (a1 := (q32 0)) (a2 := (q32 1)) (mc := (1)) (ms := ((z31.1) + 16)) (n2 := (z31.1)) (g2 := (z31.2)) (r_o1 := z36.1) (r_n2 := z36.2.1) (r_g3 := z36.2.2) C.2.2.2.2.2.2.2.2.1 hgz36) 1 rfl tcJ4_init_a7421 tlL_127 tiJ4_init_a7421 rfl tnJ4 tdJ4_init_a7421 ⟨Nat.le_of_ble_eq_true rfl, Nat.le_of_ble_eq_true rfl⟩ hz35 rfl (Nat.le_of_ble_eq_true rfl) dL_sailors_125 rfl) rfl (fun q37 => ?_)
      refine vi_swp ?_
      refine vi_w C (w' := ([((q27 0), .inr (0, [.ref (q27 1), .int (0 : Int32), .int (0 : Int32), .int (0 : Int32)])), ((q27 1), .inl (cB, z26.1, .inl (z26.2))), (a22, .inr (1, [.ref (q37 0), .int (0 : Int32), .int (0 : Int32), .int (z36.1)])), ((q37 0), .inl (cB, z36.2.1, .inl (z36.2.2))), ((q32 0), .inr (0, [.ref (q32 1), .int (0 : Int32), .int (0 : Int32), .int (0 : Int32)])), ((q32 1), .inl (cB, z31.1, .inl (z31.2)))] ++ wX q0 qs qo qt qv qr qx ql ad qh cI cF cC cS cO u16)) rfl ?_
      obtain ⟨kc38, ekc38, h⟩ := ob_nm h
      obtain ⟨ks39, eks39, h⟩ := ob_nm h
      refine vi_kk ekc38.symm eks39.symm ?_
      rw [← ekc38, ← eks39] at hz35
      refine vi_aload_n C 5 dL_sailors_128 rfl ?_
      refine vi_iload C 11 dL_sailors_129 rfl ?_
      refine vi_iconst (v := 1) C dL_sailors_131 (by decide) ?_
      obtain ⟨y41, u40, hgu40, h⟩ := ob_p h
      refine cY_i (As := [.int x6, .int (1 : Int32)]) (rest := [.ref a22]) (ud := u40) C 6 (mX7_sailorOf C.2.2.2.2.2.2.2.2.1 hgu40) 2 rfl tcX7_sailorOf tlL_110 tiX7_sailorOf tsX7_sailorOf rfl tnX7 tdX7_sailorOf ⟨Nat.le_of_ble_eq_true rfl, Nat.le_of_ble_eq_true rfl⟩ hz35 rfl rfl (Nat.le_of_ble_eq_true rfl) dL_sailors_132 ?_
      refine vi_if_le (tgt := 166) C dL_sailors_135 (by decide) (fun hc42 => ?_) (fun hc42 => ?_)
      · have h := ob_t h hc42
        refine vi_ldcs C (vE_x C).2.2.1 dL_sailors_166 ?_
        obtain ⟨hz43, h⟩ := ob_ok h
        obtain ⟨z44, hgz44, h⟩ := ob_bd h
        refine vi_pickX (ex2 := [((q27 0), .inr (0, [.ref (q27 1), .int (0 : Int32), .int (0 : Int32), .int (0 : Int32)])), ((q27 1), .inl (cB, z26.1, .inl (z26.2))), ((q32 0), .inr (0, [.ref (q32 1), .int (0 : Int32), .int (0 : Int32), .int (0 : Int32)])), ((q32 1), .inl (cB, z31.1, .inl (z31.2))), (a22, .inr (1, [.ref (q37 0), .int (0 : Int32), .int (0 : Int32), .int (z36.1)])), ((q37 0), .inl (cB, z36.2.1, .inl (z36.2.2)))]) [0, 1, 4, 5, 2, 3] (by decide) rfl ?_
        refine vi_w C (w' := ([((q27 0), .inr (0, [.ref (q27 1), .int (0 : Int32), .int (0 : Int32), .int (0 : Int32)])), ((q27 1), .inl (cB, z26.1, .inl (z26.2))), ((q32 0), .inr (0, [.ref (q32 1), .int (0 : Int32), .int (0 : Int32), .int (0 : Int32)])), ((q32 1), .inl (cB, z31.1, .inl (z31.2)))] ++ [(a22, .inr (1, [.ref (q37 0), .int (0 : Int32), .int (0 : Int32), .int (z36.1)])), ((q37 0), .inl (cB, z36.2.1, .inl (z36.2.2)))]) ++ wX q0 qs qo qt qv qr qx ql ad qh cI cF cC cS cO u40) rfl ?_
        refine vi_swp ?_
        refine g_cr C (g_runV (T := TJ4) (N := 4) (ci := 1) (fs := [.ref (q37 0), .int (0 : Int32), .int (0 : Int32), .int (z36.1)]) (As := [.ref (sK 1)]) (rest := []) (w1 := ([((q27 0), .inr (0, [.ref (q27 1), .int (0 : Int32), .int (0 : Int32), .int (0 : Int32)])), ((q27 1), .inl (cB, z26.1, .inl (z26.2))), ((q32 0), .inr (0, [.ref (q32 1), .int (0 : Int32), .int (0 : Int32), .int (0 : Int32)])), ((q32 1), .inl (cB, z31.1, .inl (z31.2)))] ++ wX q0 qs qo qt qv qr qx ql ad qh cI cF cC cS cO u40)) (wc := [(a22, .inr (1, [.ref (q37 0), .int (0 : Int32), .int (0 : Int32), .int (z36.1)])), ((q37 0), .inl (cB, z36.2.1, .inl (z36.2.2)))]) C (hm_J4_append_15ec4_K (a0 := a22) (a1 := (q37 0)) (mc := (gc1 (z36.1 + Int32.ofNat (vLlen.getD (1) 0)) (z36.2.1))) (ms := (gc2 (z36.1 + Int32.ofNat (vLlen.getD (1) 0)) (z36.2.1))) (ki := (1)) (f0_3 := (z36.1)) (n1 := (z36.2.1)) (g1 := (z36.2.2)) (r_o1 := z44.1) (r_n2 := z44.2.1) (r_g3 := z44.2.2) C.2.2.2.2.2.2.2.2.1 hgz44) 1 rfl tcJ4_append_15ec4 tlL_100 tiJ4_append_15ec4 tsJ4_append_15ec4 tnJ4 tdJ4_append_15ec4 ⟨Nat.le_of_ble_eq_true rfl, Nat.le_of_ble_eq_true rfl⟩ hz43 (4 + 101 + 0) rfl rfl rfl (Nat.le_of_ble_eq_true rfl) dL_sailors_168 rfl) rfl (fun q45 => ?_)
        refine vi_swp ?_
        refine vi_w C (w' := ([((q27 0), .inr (0, [.ref (q27 1), .int (0 : Int32), .int (0 : Int32), .int (0 : Int32)])), ((q27 1), .inl (cB, z26.1, .inl (z26.2))), ((q32 0), .inr (0, [.ref (q32 1), .int (0 : Int32), .int (0 : Int32), .int (0 : Int32)])), ((q32 1), .inl (cB, z31.1, .inl (z31.2))), (a22, .inr (1, [.ref (q45 0), .int (0 : Int32), .int (0 : Int32), .int (z44.1)])), ((q45 0), .inl (cB, z44.2.1, .inl (z44.2.2)))] ++ wX q0 qs qo qt qv qr qx ql ad qh cI cF cC cS cO u40)) rfl ?_
        obtain ⟨kc46, ekc46, h⟩ := ob_nm h
        obtain ⟨ks47, eks47, h⟩ := ob_nm h
        refine vi_kk ekc46.symm eks47.symm ?_
        rw [← ekc46, ← eks47] at hz43
        refine vi_astore (lv' := [(13, .ref a22), (12, .float y20), (11, .int y12), (10, .int y5), (9, .int y4), (8, .int y3), (0, .ref (q0 0)), (1, .int x1), (2, .int x2), (3, .int x3), (4, .int x4), (5, .long x5), (7, .int x6)]) C dL_sailors_171 (by decide) rfl ?_
        refine vi_aload C 0 dL_sailors_173 rfl ?_
        refine vi_bipush (v := 64) C dL_sailors_175 (by decide) ?_
        obtain ⟨hz48, h⟩ := ob_ok h
        obtain ⟨z49, hgz49, h⟩ := ob_bd h
        refine vi_w C (w' := ([((q27 0), .inr (0, [.ref (q27 1), .int (0 : Int32), .int (0 : Int32), .int (0 : Int32)])), ((q27 1), .inl (cB, z26.1, .inl (z26.2))), ((q32 0), .inr (0, [.ref (q32 1), .int (0 : Int32), .int (0 : Int32), .int (0 : Int32)])), ((q32 1), .inl (cB, z31.1, .inl (z31.2)))] ++ [(a22, .inr (1, [.ref (q45 0), .int (0 : Int32), .int (0 : Int32), .int (z44.1)])), ((q45 0), .inl (cB, z44.2.1, .inl (z44.2.2)))]) ++ wX q0 qs qo qt qv qr qx ql ad qh cI cF cC cS cO u40) rfl ?_
        refine vi_swp ?_
        refine g_cr C (g_runV (T := TJ4) (N := 4) (ci := 1) (fs := [.ref (q45 0), .int (0 : Int32), .int (0 : Int32), .int (z44.1)]) (As := [.int (64 : Int32)]) (rest := []) (w1 := ([((q27 0), .inr (0, [.ref (q27 1), .int (0 : Int32), .int (0 : Int32), .int (0 : Int32)])), ((q27 1), .inl (cB, z26.1, .inl (z26.2))), ((q32 0), .inr (0, [.ref (q32 1), .int (0 : Int32), .int (0 : Int32), .int (0 : Int32)])), ((q32 1), .inl (cB, z31.1, .inl (z31.2)))] ++ wX q0 qs qo qt qv qr qx ql ad qh cI cF cC cS cO u40)) (wc := [(a22, .inr (1, [.ref (q45 0), .int (0 : Int32), .int (0 : Int32), .int (z44.1)])), ((q45 0), .inl (cB, z44.2.1, .inl (z44.2.2)))]) C (hm_J4_append_cf468 (a0 := a22) (a1 := (q45 0)) (mc := (gc1 (z44.1 + 1) (z44.2.1))) (ms := (gc2 (z44.1 + 1) (z44.2.1))) (x1 := (64 : Int32)) (f0_3 := (z44.1)) (n1 := (z44.2.1)) (g1 := (z44.2.2)) (r_o1 := z49.1) (r_n2 := z49.2.1) (r_g3 := z49.2.2) C.2.2.2.2.2.2.2.2.1 hgz49) 1 rfl tcJ4_append_cf468 tlL_83 tiJ4_append_cf468 tsJ4_append_cf468 tnJ4 tdJ4_append_cf468 ⟨Nat.le_of_ble_eq_true rfl, Nat.le_of_ble_eq_true rfl⟩ hz48 (4 + 101 + 0) rfl rfl rfl (Nat.le_of_ble_eq_true rfl) dL_sailors_177 rfl) rfl (fun q50 => ?_)
        refine vi_swp ?_
        refine vi_w C (w' := ([((q27 0), .inr (0, [.ref (q27 1), .int (0 : Int32), .int (0 : Int32), .int (0 : Int32)])), ((q27 1), .inl (cB, z26.1, .inl (z26.2))), ((q32 0), .inr (0, [.ref (q32 1), .int (0 : Int32), .int (0 : Int32), .int (0 : Int32)])), ((q32 1), .inl (cB, z31.1, .inl (z31.2))), (a22, .inr (1, [.ref (q50 0), .int (0 : Int32), .int (0 : Int32), .int (z49.1)])), ((q50 0), .inl (cB, z49.2.1, .inl (z49.2.2)))] ++ wX q0 qs qo qt qv qr qx ql ad qh cI cF cC cS cO u40)) rfl ?_
        obtain ⟨kc51, ekc51, h⟩ := ob_nm h
        obtain ⟨ks52, eks52, h⟩ := ob_nm h
        refine vi_kk ekc51.symm eks52.symm ?_
        rw [← ekc51, ← eks52] at hz48
        refine vi_aload_n C 6 dL_sailors_180 rfl ?_
        refine vi_iload C 12 dL_sailors_181 rfl ?_
        refine vi_iconst (v := 2) C dL_sailors_183 (by decide) ?_
        obtain ⟨y54, u53, hgu53, h⟩ := ob_p h
        refine cY_i (As := [.int x6, .int (2 : Int32)]) (rest := [.ref a22]) (ud := u53) C 6 (mX7_sailorOf C.2.2.2.2.2.2.2.2.1 hgu53) 2 rfl tcX7_sailorOf tlL_110 tiX7_sailorOf tsX7_sailorOf rfl tnX7 tdX7_sailorOf ⟨Nat.le_of_ble_eq_true rfl, Nat.le_of_ble_eq_true rfl⟩ hz48 rfl rfl (Nat.le_of_ble_eq_true rfl) dL_sailors_184 ?_
        obtain ⟨hz55, h⟩ := ob_ok h
        obtain ⟨z56, hgz56, h⟩ := ob_bd h
        refine vi_w C (w' := ([((q27 0), .inr (0, [.ref (q27 1), .int (0 : Int32), .int (0 : Int32), .int (0 : Int32)])), ((q27 1), .inl (cB, z26.1, .inl (z26.2))), ((q32 0), .inr (0, [.ref (q32 1), .int (0 : Int32), .int (0 : Int32), .int (0 : Int32)])), ((q32 1), .inl (cB, z31.1, .inl (z31.2)))] ++ [(a22, .inr (1, [.ref (q50 0), .int (0 : Int32), .int (0 : Int32), .int (z49.1)])), ((q50 0), .inl (cB, z49.2.1, .inl (z49.2.2)))]) ++ wX q0 qs qo qt qv qr qx ql ad qh cI cF cC cS cO u53) rfl ?_
        refine vi_swp ?_
        refine g_cr C (g_runV (T := TJ4) (N := 4) (ci := 1) (fs := [.ref (q50 0), .int (0 : Int32), .int (0 : Int32), .int (z49.1)]) (As := [.int y54]) (rest := []) (w1 := ([((q27 0), .inr (0, [.ref (q27 1), .int (0 : Int32), .int (0 : Int32), .int (0 : Int32)])), ((q27 1), .inl (cB, z26.1, .inl (z26.2))), ((q32 0), .inr (0, [.ref (q32 1), .int (0 : Int32), .int (0 : Int32), .int (0 : Int32)])), ((q32 1), .inl (cB, z31.1, .inl (z31.2)))] ++ wX q0 qs qo qt qv qr qx ql ad qh cI cF cC cS cO u53)) (wc := [(a22, .inr (1, [.ref (q50 0), .int (0 : Int32), .int (0 : Int32), .int (z49.1)])), ((q50 0), .inl (cB, z49.2.1, .inl (z49.2.2)))]) C (hm_J4_append_bf812 (a0 := a22) (a1 := (q50 0)) (mc := (gc1 (z49.1 + (fJ6_stringSize_0f7a4 y54).getD 0) (z49.2.1))) (ms := (gc2 (z49.1 + (fJ6_stringSize_0f7a4 y54).getD 0) (z49.2.1))) (x1 := y54) (f0_3 := (z49.1)) (n1 := (z49.2.1)) (g1 := (z49.2.2)) (r_o1 := z56.1) (r_n2 := z56.2.1) (r_g3 := z56.2.2) C.2.2.2.2.2.2.2.2.1 hgz56) 1 rfl tcJ4_append_bf812 tlL_90 tiJ4_append_bf812 tsJ4_append_bf812 tnJ4 tdJ4_append_bf812 ⟨Nat.le_of_ble_eq_true rfl, Nat.le_of_ble_eq_true rfl⟩ hz55 (4 + 101 + 0) rfl rfl rfl (Nat.le_of_ble_eq_true rfl) dL_sailors_187 rfl) rfl (fun q57 => ?_)
        refine vi_swp ?_
        refine vi_w C (w' := ([((q27 0), .inr (0, [.ref (q27 1), .int (0 : Int32), .int (0 : Int32), .int (0 : Int32)])), ((q27 1), .inl (cB, z26.1, .inl (z26.2))), ((q32 0), .inr (0, [.ref (q32 1), .int (0 : Int32), .int (0 : Int32), .int (0 : Int32)])), ((q32 1), .inl (cB, z31.1, .inl (z31.2))), (a22, .inr (1, [.ref (q57 0), .int (0 : Int32), .int (0 : Int32), .int (z56.1)])), ((q57 0), .inl (cB, z56.2.1, .inl (z56.2.2)))] ++ wX q0 qs qo qt qv qr qx ql ad qh cI cF cC cS cO u53)) rfl ?_
        obtain ⟨kc58, ekc58, h⟩ := ob_nm h
        obtain ⟨ks59, eks59, h⟩ := ob_nm h
        refine vi_kk ekc58.symm eks59.symm ?_
        rw [← ekc58, ← eks59] at hz55
        refine vi_bipush (v := 62) C dL_sailors_190 (by decide) ?_
        obtain ⟨hz60, h⟩ := ob_ok h
        obtain ⟨z61, hgz61, h⟩ := ob_bd h
        refine vi_w C (w' := ([((q27 0), .inr (0, [.ref (q27 1), .int (0 : Int32), .int (0 : Int32), .int (0 : Int32)])), ((q27 1), .inl (cB, z26.1, .inl (z26.2))), ((q32 0), .inr (0, [.ref (q32 1), .int (0 : Int32), .int (0 : Int32), .int (0 : Int32)])), ((q32 1), .inl (cB, z31.1, .inl (z31.2)))] ++ [(a22, .inr (1, [.ref (q57 0), .int (0 : Int32), .int (0 : Int32), .int (z56.1)])), ((q57 0), .inl (cB, z56.2.1, .inl (z56.2.2)))]) ++ wX q0 qs qo qt qv qr qx ql ad qh cI cF cC cS cO u53) rfl ?_
        refine vi_swp ?_
        refine g_cr C (g_runV (T := TJ4) (N := 4) (ci := 1) (fs := [.ref (q57 0), .int (0 : Int32), .int (0 : Int32), .int (z56.1)]) (As := [.int (62 : Int32)]) (rest := []) (w1 := ([((q27 0), .inr (0, [.ref (q27 1), .int (0 : Int32), .int (0 : Int32), .int (0 : Int32)])), ((q27 1), .inl (cB, z26.1, .inl (z26.2))), ((q32 0), .inr (0, [.ref (q32 1), .int (0 : Int32), .int (0 : Int32), .int (0 : Int32)])), ((q32 1), .inl (cB, z31.1, .inl (z31.2)))] ++ wX q0 qs qo qt qv qr qx ql ad qh cI cF cC cS cO u53)) (wc := [(a22, .inr (1, [.ref (q57 0), .int (0 : Int32), .int (0 : Int32), .int (z56.1)])), ((q57 0), .inl (cB, z56.2.1, .inl (z56.2.2)))]) C (hm_J4_append_cf468 (a0 := a22) (a1 := (q57 0)) (mc := (gc1 (z56.1 + 1) (z56.2.1))) (ms := (gc2 (z56.1 + 1) (z56.2.1))) (x1 := (62 : Int32)) (f0_3 := (z56.1)) (n1 := (z56.2.1)) (g1 := (z56.2.2)) (r_o1 := z61.1) (r_n2 := z61.2.1) (r_g3 := z61.2.2) C.2.2.2.2.2.2.2.2.1 hgz61) 1 rfl tcJ4_append_cf468 tlL_83 tiJ4_append_cf468 tsJ4_append_cf468 tnJ4 tdJ4_append_cf468 ⟨Nat.le_of_ble_eq_true rfl, Nat.le_of_ble_eq_true rfl⟩ hz60 (4 + 101 + 0) rfl rfl rfl (Nat.le_of_ble_eq_true rfl) dL_sailors_192 rfl) rfl (fun q62 => ?_)
        refine vi_swp ?_
        refine vi_w C (w' := ([((q27 0), .inr (0, [.ref (q27 1), .int (0 : Int32), .int (0 : Int32), .int (0 : Int32)])), ((q27 1), .inl (cB, z26.1, .inl (z26.2))), ((q32 0), .inr (0, [.ref (q32 1), .int (0 : Int32), .int (0 : Int32), .int (0 : Int32)])), ((q32 1), .inl (cB, z31.1, .inl (z31.2))), (a22, .inr (1, [.ref (q62 0), .int (0 : Int32), .int (0 : Int32), .int (z61.1)])), ((q62 0), .inl (cB, z61.2.1, .inl (z61.2.2)))] ++ wX q0 qs qo qt qv qr qx ql ad qh cI cF cC cS cO u53)) rfl ?_
        obtain ⟨kc63, ekc63, h⟩ := ob_nm h
        obtain ⟨ks64, eks64, h⟩ := ob_nm h
        refine vi_kk ekc63.symm eks64.symm ?_
        rw [← ekc63, ← eks64] at hz60
        refine vi_iload C 2 dL_sailors_195 rfl ?_
        obtain ⟨hz65, h⟩ := ob_ok h
        obtain ⟨z66, hgz66, h⟩ := ob_bd h
        refine vi_w C (w' := ([((q27 0), .inr (0, [.ref (q27 1), .int (0 : Int32), .int (0 : Int32), .int (0 : Int32)])), ((q27 1), .inl (cB, z26.1, .inl (z26.2))), ((q32 0), .inr (0, [.ref (q32 1), .int (0 : Int32), .int (0 : Int32), .int (0 : Int32)])), ((q32 1), .inl (cB, z31.1, .inl (z31.2)))] ++ [(a22, .inr (1, [.ref (q62 0), .int (0 : Int32), .int (0 : Int32), .int (z61.1)])), ((q62 0), .inl (cB, z61.2.1, .inl (z61.2.2)))]) ++ wX q0 qs qo qt qv qr qx ql ad qh cI cF cC cS cO u53) rfl ?_
        refine vi_swp ?_
        refine g_cr C (g_runV (T := TJ4) (N := 4) (ci := 1) (fs := [.ref (q62 0), .int (0 : Int32), .int (0 : Int32), .int (z61.1)]) (As := [.int y12]) (rest := []) (w1 := ([((q27 0), .inr (0, [.ref (q27 1), .int (0 : Int32), .int (0 : Int32), .int (0 : Int32)])), ((q27 1), .inl (cB, z26.1, .inl (z26.2))), ((q32 0), .inr (0, [.ref (q32 1), .int (0 : Int32), .int (0 : Int32), .int (0 : Int32)])), ((q32 1), .inl (cB, z31.1, .inl (z31.2)))] ++ wX q0 qs qo qt qv qr qx ql ad qh cI cF cC cS cO u53)) (wc := [(a22, .inr (1, [.ref (q62 0), .int (0 : Int32), .int (0 : Int32), .int (z61.1)])), ((q62 0), .inl (cB, z61.2.1, .inl (z61.2.2)))]) C (hm_J4_append_bf812 (a0 := a22) (a1 := (q62 0)) (mc := (gc1 (z61.1 + (fJ6_stringSize_0f7a4 y12).getD 0) (z61.2.1))) (ms := (gc2 (z61.1 + (fJ6_stringSize_0f7a4 y12).getD 0) (z61.2.1))) (x1 := y12) (f0_3 := (z61.1)) (n1 := (z61.2.1)) (g1 := (z61.2.2)) (r_o1 := z66.1) (r_n2 := z66.2.1) (r_g3 := z66.2.2) C.2.2.2.2.2.2.2.2.1 hgz66) 1 rfl tcJ4_append_bf812 tlL_90 tiJ4_append_bf812 tsJ4_append_bf812 tnJ4 tdJ4_append_bf812 ⟨Nat.le_of_ble_eq_true rfl, Nat.le_of_ble_eq_true rfl⟩ hz65 (4 + 101 + 0) rfl rfl rfl (Nat.le_of_ble_eq_true rfl) dL_sailors_197 rfl) rfl (fun q67 => ?_)
        refine vi_swp ?_
        refine vi_w C (w' := ([((q27 0), .inr (0, [.ref (q27 1), .int (0 : Int32), .int (0 : Int32), .int (0 : Int32)])), ((q27 1), .inl (cB, z26.1, .inl (z26.2))), ((q32 0), .inr (0, [.ref (q32 1), .int (0 : Int32), .int (0 : Int32), .int (0 : Int32)])), ((q32 1), .inl (cB, z31.1, .inl (z31.2))), (a22, .inr (1, [.ref (q67 0), .int (0 : Int32), .int (0 : Int32), .int (z66.1)])), ((q67 0), .inl (cB, z66.2.1, .inl (z66.2.2)))] ++ wX q0 qs qo qt qv qr qx ql ad qh cI cF cC cS cO u53)) rfl ?_
        obtain ⟨kc68, ekc68, h⟩ := ob_nm h
        obtain ⟨ks69, eks69, h⟩ := ob_nm h
        refine vi_kk ekc68.symm eks69.symm ?_
        rw [← ekc68, ← eks69] at hz65
        refine vi_pop C dL_sailors_200 rfl ?_
        refine vi_iload_n C 8 dL_sailors_201 rfl ?_
        refine vi_aload_n C 6 dL_sailors_202 rfl ?_
        refine vi_iload C 12 dL_sailors_203 rfl ?_
        refine vi_iconst (v := 1) C dL_sailors_205 (by decide) ?_
        obtain ⟨y71, u70, hgu70, h⟩ := ob_p h
        refine cY_i (As := [.int x6, .int (1 : Int32)]) (rest := [.int x2]) (ud := u70) C 6 (mX7_sailorOf C.2.2.2.2.2.2.2.2.1 hgu70) 2 rfl tcX7_sailorOf tlL_110 tiX7_sailorOf tsX7_sailorOf rfl tnX7 tdX7_sailorOf ⟨Nat.le_of_ble_eq_true rfl, Nat.le_of_ble_eq_true rfl⟩ hz65 rfl rfl (Nat.le_of_ble_eq_true rfl) dL_sailors_206 ?_
        refine vi_iadd C dL_sailors_209 ?_
        obtain ⟨y72, ey72, h⟩ := ob_nm h
        refine vi_nmi ey72 ?_
        refine vi_istore_n (lv' := [(2, .int y72), (13, .ref a22), (12, .float y20), (11, .int y12), (10, .int y5), (9, .int y4), (8, .int y3), (0, .ref (q0 0)), (1, .int x1), (3, .int x3), (4, .int x4), (5, .long x5), (7, .int x6)]) C dL_sailors_210 rfl (by decide) rfl ?_
        refine vi_iload_n C 9 dL_sailors_211 rfl ?_
        refine vi_iload C 3 dL_sailors_212 rfl ?_
        refine vi_iadd C dL_sailors_214 ?_
        obtain ⟨y73, ey73, h⟩ := ob_nm h
        refine vi_nmi ey73 ?_
        refine vi_istore_n (lv' := [(3, .int y73), (2, .int y72), (13, .ref a22), (12, .float y20), (11, .int y12), (10, .int y5), (9, .int y4), (8, .int y3), (0, .ref (q0 0)), (1, .int x1), (4, .int x4), (5, .long x5), (7, .int x6)]) C dL_sailors_215 rfl (by decide) rfl ?_
        refine vi_lload C 11 dL_sailors_216 rfl ?_
        refine vi_iload C 12 dL_sailors_218 rfl ?_
        refine vi_iconst (v := 4) C dL_sailors_220 (by decide) ?_
        refine vi_icmp_ge (tgt := 236) C dL_sailors_221 (by decide) (fun hc74 => ?_) (fun hc74 => ?_)
        · have h := ob_t h hc74
          refine vi_lconst (v := 0) C dL_sailors_236 (by decide) ?_
          refine vi_sub C [8, 9, 1, 0, 10, 12, 6, 5, 4, 3, 2] rfl ?_
          refine vi_pickX (ex2 := [(a22, .inr (1, [.ref (q67 0), .int (0 : Int32), .int (0 : Int32), .int (z66.1)])), ((q67 0), .inl (cB, z66.2.1, .inl (z66.2.2)))]) [4, 5] (by decide) rfl ?_
          exact hk_L_sailors_237 C RET ih  _ _ _ _ _ _ _ _ _ _ _ _ _ _ _ _ _ _ _ hz65 h
        · have h := ob_f h hc74
          refine vi_iload C 7 dL_sailors_224 rfl ?_
          refine vi_i2l C dL_sailors_226 ?_
          refine vi_bipush (v := 16) C dL_sailors_227 (by decide) ?_
          refine vi_iload C 12 dL_sailors_229 rfl ?_
          refine vi_imul C dL_sailors_231 ?_
          refine vi_lshl C dL_sailors_232 ?_
          refine vi_goto (tgt := 237) C dL_sailors_233 (by decide) ?_
          refine vi_sub C [8, 9, 1, 0, 10, 12, 6, 5, 4, 3, 2] rfl ?_
          refine vi_pickX (ex2 := [(a22, .inr (1, [.ref (q67 0), .int (0 : Int32), .int (0 : Int32), .int (z66.1)])), ((q67 0), .inl (cB, z66.2.1, .inl (z66.2.2)))]) [4, 5] (by decide) rfl ?_
          exact hk_L_sailors_237 C RET ih  _ _ _ _ _ _ _ _ _ _ _ _ _ _ _ _ _ _ _ hz65 h
      · have h := ob_f h hc42
        obtain ⟨hz75, h⟩ := ob_ok h
        refine vi_new (ci := 1) (fs := [.null, .int (0 : Int32), .int (0 : Int32), .int (0 : Int32)]) C inJ4w tyJ4 tyJ4_ok tlcL_77 tinst_J4 tnJ4 rfl (by decide +kernel) hz75.1 hz75.2 dL_sailors_138 (fun a76 => ?_)
        refine vi_swp ?_
        refine vi_w C (w' := ([((q27 0), .inr (0, [.ref (q27 1), .int (0 : Int32), .int (0 : Int32), .int (0 : Int32)])), ((q27 1), .inl (cB, z26.1, .inl (z26.2))), (a22, .inr (1, [.ref (q37 0), .int (0 : Int32), .int (0 : Int32), .int (z36.1)])), ((q37 0), .inl (cB, z36.2.1, .inl (z36.2.2))), ((q32 0), .inr (0, [.ref (q32 1), .int (0 : Int32), .int (0 : Int32), .int (0 : Int32)])), ((q32 1), .inl (cB, z31.1, .inl (z31.2))), (a76, .inr (1, [.null, .int (0 : Int32), .int (0 : Int32), .int (0 : Int32)]))] ++ wX q0 qs qo qt qv qr qx ql ad qh cI cF cC cS cO u40)) rfl ?_
        obtain ⟨kc77, ekc77, h⟩ := ob_nm h
        obtain ⟨ks78, eks78, h⟩ := ob_nm h
        refine vi_kk ekc77.symm eks78.symm ?_
        rw [← ekc77, ← eks78] at hz75
        refine vi_dup C dL_sailors_141 rfl ?_
        obtain ⟨hz79, h⟩ := ob_ok h
        obtain ⟨z80, hgz80, h⟩ := ob_bd h
        refine vi_w C (w' := ([((q27 0), .inr (0, [.ref (q27 1), .int (0 : Int32), .int (0 : Int32), .int (0 : Int32)])), ((q27 1), .inl (cB, z26.1, .inl (z26.2))), (a22, .inr (1, [.ref (q37 0), .int (0 : Int32), .int (0 : Int32), .int (z36.1)])), ((q37 0), .inl (cB, z36.2.1, .inl (z36.2.2))), ((q32 0), .inr (0, [.ref (q32 1), .int (0 : Int32), .int (0 : Int32), .int (0 : Int32)])), ((q32 1), .inl (cB, z31.1, .inl (z31.2)))] ++ [(a76, .inr (1, [.null, .int (0 : Int32), .int (0 : Int32), .int (0 : Int32)]))]) ++ wX q0 qs qo qt qv qr qx ql ad qh cI cF cC cS cO u40) rfl ?_
        refine vi_swp ?_
        refine g_cv C (g_runI (As := []) (rest := [.ref a76, .ref a22]) (w1 := ([((q27 0), .inr (0, [.ref (q27 1), .int (0 : Int32), .int (0 : Int32), .int (0 : Int32)])), ((q27 1), .inl (cB, z26.1, .inl (z26.2))), (a22, .inr (1, [.ref (q37 0), .int (0 : Int32), .int (0 : Int32), .int (z36.1)])), ((q37 0), .inl (cB, z36.2.1, .inl (z36.2.2))), ((q32 0), .inr (0, [.ref (q32 1), .int (0 : Int32), .int (0 : Int32), .int (0 : Int32)])), ((q32 1), .inl (cB, z31.1, .inl (z31.2)))] ++ wX q0 qs qo qt qv qr qx ql ad qh cI cF cC cS cO u40)) (wc := [(a76, .inr (1, [.null, .int (0 : Int32), .int (0 : Int32), .int (0 : Int32)]))]) C (hm_J4_init_da8c8 (a0 := a76) (mc := (1)) (ms := (16)) (r_n1 := z80.1) (r_g2 := z80.2) C.2.2.2.2.2.2.2.2.1 hgz80) 0 rfl tcJ4_init_da8c8 tlL_79 tiJ4_init_da8c8 rfl tnJ4 tdJ4_init_da8c8 ⟨Nat.le_of_ble_eq_true rfl, Nat.le_of_ble_eq_true rfl⟩ hz79 rfl (Nat.le_of_ble_eq_true rfl) dL_sailors_142 rfl) rfl (fun q81 => ?_)
        refine vi_swp ?_
        refine vi_w C (w' := ([((q27 0), .inr (0, [.ref (q27 1), .int (0 : Int32), .int (0 : Int32), .int (0 : Int32)])), ((q27 1), .inl (cB, z26.1, .inl (z26.2))), (a22, .inr (1, [.ref (q37 0), .int (0 : Int32), .int (0 : Int32), .int (z36.1)])), ((q37 0), .inl (cB, z36.2.1, .inl (z36.2.2))), ((q32 0), .inr (0, [.ref (q32 1), .int (0 : Int32), .int (0 : Int32), .int (0 : Int32)])), ((q32 1), .inl (cB, z31.1, .inl (z31.2))), (a76, .inr (1, [.ref (q81 0), .int (0 : Int32), .int (0 : Int32), .int (0 : Int32)])), ((q81 0), .inl (cB, z80.1, .inl (z80.2)))] ++ wX q0 qs qo qt qv qr qx ql ad qh cI cF cC cS cO u40)) rfl ?_
        obtain ⟨kc82, ekc82, h⟩ := ob_nm h
        obtain ⟨ks83, eks83, h⟩ := ob_nm h
        refine vi_kk ekc82.symm eks83.symm ?_
        rw [← ekc82, ← eks83] at hz79
        refine vi_ldcs C (vE_x C).2.1 dL_sailors_145 ?_
        obtain ⟨hz84, h⟩ := ob_ok h
        obtain ⟨z85, hgz85, h⟩ := ob_bd h
        refine vi_w C (w' := ([((q27 0), .inr (0, [.ref (q27 1), .int (0 : Int32), .int (0 : Int32), .int (0 : Int32)])), ((q27 1), .inl (cB, z26.1, .inl (z26.2))), (a22, .inr (1, [.ref (q37 0), .int (0 : Int32), .int (0 : Int32), .int (z36.1)])), ((q37 0), .inl (cB, z36.2.1, .inl (z36.2.2))), ((q32 0), .inr (0, [.ref (q32 1), .int (0 : Int32), .int (0 : Int32), .int (0 : Int32)])), ((q32 1), .inl (cB, z31.1, .inl (z31.2)))] ++ [(a76, .inr (1, [.ref (q81 0), .int (0 : Int32), .int (0 : Int32), .int (0 : Int32)])), ((q81 0), .inl (cB, z80.1, .inl (z80.2)))]) ++ wX q0 qs qo qt qv qr qx ql ad qh cI cF cC cS cO u40) rfl ?_
        refine vi_swp ?_
        refine g_cr C (g_runV (T := TJ4) (N := 4) (ci := 1) (fs := [.ref (q81 0), .int (0 : Int32), .int (0 : Int32), .int (0 : Int32)]) (As := [.ref (sK 0)]) (rest := [.ref a22]) (w1 := ([((q27 0), .inr (0, [.ref (q27 1), .int (0 : Int32), .int (0 : Int32), .int (0 : Int32)])), ((q27 1), .inl (cB, z26.1, .inl (z26.2))), (a22, .inr (1, [.ref (q37 0), .int (0 : Int32), .int (0 : Int32), .int (z36.1)])), ((q37 0), .inl (cB, z36.2.1, .inl (z36.2.2))), ((q32 0), .inr (0, [.ref (q32 1), .int (0 : Int32), .int (0 : Int32), .int (0 : Int32)])), ((q32 1), .inl (cB, z31.1, .inl (z31.2)))] ++ wX q0 qs qo qt qv qr qx ql ad qh cI cF cC cS cO u40)) (wc := [(a76, .inr (1, [.ref (q81 0), .int (0 : Int32), .int (0 : Int32), .int (0 : Int32)])), ((q81 0), .inl (cB, z80.1, .inl (z80.2)))]) C (hm_J4_append_15ec4_K (a0 := a76) (a1 := (q81 0)) (mc := (gc1 ((0 : Int32) + Int32.ofNat (vLlen.getD (0) 0)) (z80.1))) (ms := (gc2 ((0 : Int32) + Int32.ofNat (vLlen.getD (0) 0)) (z80.1))) (ki := (0)) (f0_3 := (0 : Int32)) (n1 := (z80.1)) (g1 := (z80.2)) (r_o1 := z85.1) (r_n2 := z85.2.1) (r_g3 := z85.2.2) C.2.2.2.2.2.2.2.2.1 hgz85) 1 rfl tcJ4_append_15ec4 tlL_100 tiJ4_append_15ec4 tsJ4_append_15ec4 tnJ4 tdJ4_append_15ec4 ⟨Nat.le_of_ble_eq_true rfl, Nat.le_of_ble_eq_true rfl⟩ hz84 (6 + 101 + 0) rfl rfl rfl (Nat.le_of_ble_eq_true rfl) dL_sailors_147 rfl) rfl (fun q86 => ?_)
        refine vi_swp ?_
        refine vi_w C (w' := ([((q27 0), .inr (0, [.ref (q27 1), .int (0 : Int32), .int (0 : Int32), .int (0 : Int32)])), ((q27 1), .inl (cB, z26.1, .inl (z26.2))), (a22, .inr (1, [.ref (q37 0), .int (0 : Int32), .int (0 : Int32), .int (z36.1)])), ((q37 0), .inl (cB, z36.2.1, .inl (z36.2.2))), ((q32 0), .inr (0, [.ref (q32 1), .int (0 : Int32), .int (0 : Int32), .int (0 : Int32)])), ((q32 1), .inl (cB, z31.1, .inl (z31.2))), (a76, .inr (1, [.ref (q86 0), .int (0 : Int32), .int (0 : Int32), .int (z85.1)])), ((q86 0), .inl (cB, z85.2.1, .inl (z85.2.2)))] ++ wX q0 qs qo qt qv qr qx ql ad qh cI cF cC cS cO u40)) rfl ?_
        obtain ⟨kc87, ekc87, h⟩ := ob_nm h
        obtain ⟨ks88, eks88, h⟩ := ob_nm h
        refine vi_kk ekc87.symm eks88.symm ?_
        rw [← ekc87, ← eks88] at hz84
        refine vi_aload_n C 5 dL_sailors_150 rfl ?_
        refine vi_iload C 11 dL_sailors_151 rfl ?_
        refine vi_iconst (v := 1) C dL_sailors_153 (by decide) ?_
        obtain ⟨y90, u89, hgu89, h⟩ := ob_p h
        refine cY_i (As := [.int x6, .int (1 : Int32)]) (rest := [.ref a76, .ref a22]) (ud := u89) C 8 (mX7_sailorOf C.2.2.2.2.2.2.2.2.1 hgu89) 2 rfl tcX7_sailorOf tlL_110 tiX7_sailorOf tsX7_sailorOf rfl tnX7 tdX7_sailorOf ⟨Nat.le_of_ble_eq_true rfl, Nat.le_of_ble_eq_true rfl⟩ hz84 rfl rfl (Nat.le_of_ble_eq_true rfl) dL_sailors_154 ?_
        obtain ⟨hz91, h⟩ := ob_ok h
        obtain ⟨z92, hgz92, h⟩ := ob_bd h
        refine vi_w C (w' := ([((q27 0), .inr (0, [.ref (q27 1), .int (0 : Int32), .int (0 : Int32), .int (0 : Int32)])), ((q27 1), .inl (cB, z26.1, .inl (z26.2))), (a22, .inr (1, [.ref (q37 0), .int (0 : Int32), .int (0 : Int32), .int (z36.1)])), ((q37 0), .inl (cB, z36.2.1, .inl (z36.2.2))), ((q32 0), .inr (0, [.ref (q32 1), .int (0 : Int32), .int (0 : Int32), .int (0 : Int32)])), ((q32 1), .inl (cB, z31.1, .inl (z31.2)))] ++ [(a76, .inr (1, [.ref (q86 0), .int (0 : Int32), .int (0 : Int32), .int (z85.1)])), ((q86 0), .inl (cB, z85.2.1, .inl (z85.2.2)))]) ++ wX q0 qs qo qt qv qr qx ql ad qh cI cF cC cS cO u89) rfl ?_
        refine vi_swp ?_
        refine g_cr C (g_runV (T := TJ4) (N := 4) (ci := 1) (fs := [.ref (q86 0), .int (0 : Int32), .int (0 : Int32), .int (z85.1)]) (As := [.int y90]) (rest := [.ref a22]) (w1 := ([((q27 0), .inr (0, [.ref (q27 1), .int (0 : Int32), .int (0 : Int32), .int (0 : Int32)])), ((q27 1), .inl (cB, z26.1, .inl (z26.2))), (a22, .inr (1, [.ref (q37 0), .int (0 : Int32), .int (0 : Int32), .int (z36.1)])), ((q37 0), .inl (cB, z36.2.1, .inl (z36.2.2))), ((q32 0), .inr (0, [.ref (q32 1), .int (0 : Int32), .int (0 : Int32), .int (0 : Int32)])), ((q32 1), .inl (cB, z31.1, .inl (z31.2)))] ++ wX q0 qs qo qt qv qr qx ql ad qh cI cF cC cS cO u89)) (wc := [(a76, .inr (1, [.ref (q86 0), .int (0 : Int32), .int (0 : Int32), .int (z85.1)])), ((q86 0), .inl (cB, z85.2.1, .inl (z85.2.2)))]) C (hm_J4_append_bf812 (a0 := a76) (a1 := (q86 0)) (mc := (gc1 (z85.1 + (fJ6_stringSize_0f7a4 y90).getD 0) (z85.2.1))) (ms := (gc2 (z85.1 + (fJ6_stringSize_0f7a4 y90).getD 0) (z85.2.1))) (x1 := y90) (f0_3 := (z85.1)) (n1 := (z85.2.1)) (g1 := (z85.2.2)) (r_o1 := z92.1) (r_n2 := z92.2.1) (r_g3 := z92.2.2) C.2.2.2.2.2.2.2.2.1 hgz92) 1 rfl tcJ4_append_bf812 tlL_90 tiJ4_append_bf812 tsJ4_append_bf812 tnJ4 tdJ4_append_bf812 ⟨Nat.le_of_ble_eq_true rfl, Nat.le_of_ble_eq_true rfl⟩ hz91 (6 + 101 + 0) rfl rfl rfl (Nat.le_of_ble_eq_true rfl) dL_sailors_157 rfl) rfl (fun q93 => ?_)
        refine vi_swp ?_
        refine vi_w C (w' := ([((q27 0), .inr (0, [.ref (q27 1), .int (0 : Int32), .int (0 : Int32), .int (0 : Int32)])), ((q27 1), .inl (cB, z26.1, .inl (z26.2))), (a22, .inr (1, [.ref (q37 0), .int (0 : Int32), .int (0 : Int32), .int (z36.1)])), ((q37 0), .inl (cB, z36.2.1, .inl (z36.2.2))), ((q32 0), .inr (0, [.ref (q32 1), .int (0 : Int32), .int (0 : Int32), .int (0 : Int32)])), ((q32 1), .inl (cB, z31.1, .inl (z31.2))), (a76, .inr (1, [.ref (q93 0), .int (0 : Int32), .int (0 : Int32), .int (z92.1)])), ((q93 0), .inl (cB, z92.2.1, .inl (z92.2.2)))] ++ wX q0 qs qo qt qv qr qx ql ad qh cI cF cC cS cO u89)) rfl ?_
        obtain ⟨kc94, ekc94, h⟩ := ob_nm h
        obtain ⟨ks95, eks95, h⟩ := ob_nm h
        refine vi_kk ekc94.symm eks95.symm ?_
        rw [← ekc94, ← eks95] at hz91
        obtain ⟨hz96, h⟩ := ob_ok h
        obtain ⟨z97, hgz97, h⟩ := ob_bd h
        refine vi_w C (w' := ([((q27 0), .inr (0, [.ref (q27 1), .int (0 : Int32), .int (0 : Int32), .int (0 : Int32)])), ((q27 1), .inl (cB, z26.1, .inl (z26.2))), (a22, .inr (1, [.ref (q37 0), .int (0 : Int32), .int (0 : Int32), .int (z36.1)])), ((q37 0), .inl (cB, z36.2.1, .inl (z36.2.2))), ((q32 0), .inr (0, [.ref (q32 1), .int (0 : Int32), .int (0 : Int32), .int (0 : Int32)])), ((q32 1), .inl (cB, z31.1, .inl (z31.2)))] ++ [(a76, .inr (1, [.ref (q93 0), .int (0 : Int32), .int (0 : Int32), .int (z92.1)])), ((q93 0), .inl (cB, z92.2.1, .inl (z92.2.2)))]) ++ wX q0 qs qo qt qv qr qx ql ad qh cI cF cC cS cO u89) rfl ?_
        refine vi_swp ?_
        refine g_cr C (g_runV (T := TJ4) (N := 4) (ci := 1) (fs := [.ref (q93 0), .int (0 : Int32), .int (0 : Int32), .int (z92.1)]) (As := []) (rest := [.ref a22]) (w1 := ([((q27 0), .inr (0, [.ref (q27 1), .int (0 : Int32), .int (0 : Int32), .int (0 : Int32)])), ((q27 1), .inl (cB, z26.1, .inl (z26.2))), (a22, .inr (1, [.ref (q37 0), .int (0 : Int32), .int (0 : Int32), .int (z36.1)])), ((q37 0), .inl (cB, z36.2.1, .inl (z36.2.2))), ((q32 0), .inr (0, [.ref (q32 1), .int (0 : Int32), .int (0 : Int32), .int (0 : Int32)])), ((q32 1), .inl (cB, z31.1, .inl (z31.2)))] ++ wX q0 qs qo qt qv qr qx ql ad qh cI cF cC cS cO u89)) (wc := [(a76, .inr (1, [.ref (q93 0), .int (0 : Int32), .int (0 : Int32), .int (z92.1)])), ((q93 0), .inl (cB, z92.2.1, .inl (z92.2.2)))]) C (hm_J4_toString_0e30d (a0 := a76) (a1 := (q93 0)) (mc := (2)) (ms := (Int32.toNatClampNeg (z92.1) + 4)) (f0_3 := (z92.1)) (n1 := (z92.2.1)) (g1 := (z92.2.2)) (r_n1 := z97.1) (r_g2 := z97.2) C.2.2.2.2.2.2.2.2.1 hgz97) 0 rfl tcJ4_toString_0e30d tlL_86 tiJ4_toString_0e30d tsJ4_toString_0e30d tnJ4 tdJ4_toString_0e30d ⟨Nat.le_of_ble_eq_true rfl, Nat.le_of_ble_eq_true rfl⟩ hz96 (6 + 101 + 0) rfl rfl rfl (Nat.le_of_ble_eq_true rfl) dL_sailors_160 rfl) rfl (fun q98 => ?_)
        refine vi_swp ?_
        refine vi_w C (w' := ([((q27 0), .inr (0, [.ref (q27 1), .int (0 : Int32), .int (0 : Int32), .int (0 : Int32)])), ((q27 1), .inl (cB, z26.1, .inl (z26.2))), (a22, .inr (1, [.ref (q37 0), .int (0 : Int32), .int (0 : Int32), .int (z36.1)])), ((q37 0), .inl (cB, z36.2.1, .inl (z36.2.2))), ((q32 0), .inr (0, [.ref (q32 1), .int (0 : Int32), .int (0 : Int32), .int (0 : Int32)])), ((q32 1), .inl (cB, z31.1, .inl (z31.2))), (a76, .inr (1, [.ref (q93 0), .int (0 : Int32), .int (0 : Int32), .int (z92.1)])), ((q93 0), .inl (cB, z92.2.1, .inl (z92.2.2))), ((q98 0), .inr (0, [.ref (q98 1), .int (0 : Int32), .int (0 : Int32), .int (0 : Int32)])), ((q98 1), .inl (cB, z97.1, .inl (z97.2)))] ++ wX q0 qs qo qt qv qr qx ql ad qh cI cF cC cS cO u89)) rfl ?_
        obtain ⟨kc99, ekc99, h⟩ := ob_nm h
        obtain ⟨ks100, eks100, h⟩ := ob_nm h
        refine vi_kk ekc99.symm eks100.symm ?_
        rw [← ekc99, ← eks100] at hz96
        refine vi_goto (tgt := 168) C dL_sailors_163 (by decide) ?_
        obtain ⟨hz101, h⟩ := ob_ok h
        obtain ⟨z102, hgz102, h⟩ := ob_bd h
        refine vi_pickX (ex2 := [((q27 0), .inr (0, [.ref (q27 1), .int (0 : Int32), .int (0 : Int32), .int (0 : Int32)])), ((q27 1), .inl (cB, z26.1, .inl (z26.2))), ((q32 0), .inr (0, [.ref (q32 1), .int (0 : Int32), .int (0 : Int32), .int (0 : Int32)])), ((q32 1), .inl (cB, z31.1, .inl (z31.2))), (a76, .inr (1, [.ref (q93 0), .int (0 : Int32), .int (0 : Int32), .int (z92.1)])), ((q93 0), .inl (cB, z92.2.1, .inl (z92.2.2))), (a22, .inr (1, [.ref (q37 0), .int (0 : Int32), .int (0 : Int32), .int (z36.1)])), ((q37 0), .inl (cB, z36.2.1, .inl (z36.2.2))), ((q98 0), .inr (0, [.ref (q98 1), .int (0 : Int32), .int (0 : Int32), .int (0 : Int32)])), ((q98 1), .inl (cB, z97.1, .inl (z97.2)))]) [0, 1, 4, 5, 6, 7, 2, 3, 8, 9] (by decide) rfl ?_
        refine vi_w C (w' := ([((q27 0), .inr (0, [.ref (q27 1), .int (0 : Int32), .int (0 : Int32), .int (0 : Int32)])), ((q27 1), .inl (cB, z26.1, .inl (z26.2))), ((q32 0), .inr (0, [.ref (q32 1), .int (0 : Int32), .int (0 : Int32), .int (0 : Int32)])), ((q32 1), .inl (cB, z31.1, .inl (z31.2))), (a76, .inr (1, [.ref (q93 0), .int (0 : Int32), .int (0 : Int32), .int (z92.1)])), ((q93 0), .inl (cB, z92.2.1, .inl (z92.2.2)))] ++ [(a22, .inr (1, [.ref (q37 0), .int (0 : Int32), .int (0 : Int32), .int (z36.1)])), ((q37 0), .inl (cB, z36.2.1, .inl (z36.2.2))), ((q98 0), .inr (0, [.ref (q98 1), .int (0 : Int32), .int (0 : Int32), .int (0 : Int32)])), ((q98 1), .inl (cB, z97.1, .inl (z97.2)))]) ++ wX q0 qs qo qt qv qr qx ql ad qh cI cF cC cS cO u89) rfl ?_
        refine vi_swp ?_
        refine g_cr C (g_runV (T := TJ4) (N := 4) (ci := 1) (fs := [.ref (q37 0), .int (0 : Int32), .int (0 : Int32), .int (z36.1)]) (As := [.ref (q98 0)]) (rest := []) (w1 := ([((q27 0), .inr (0, [.ref (q27 1), .int (0 : Int32), .int (0 : Int32), .int (0 : Int32)])), ((q27 1), .inl (cB, z26.1, .inl (z26.2))), ((q32 0), .inr (0, [.ref (q32 1), .int (0 : Int32), .int (0 : Int32), .int (0 : Int32)])), ((q32 1), .inl (cB, z31.1, .inl (z31.2))), (a76, .inr (1, [.ref (q93 0), .int (0 : Int32), .int (0 : Int32), .int (z92.1)])), ((q93 0), .inl (cB, z92.2.1, .inl (z92.2.2)))] ++ wX q0 qs qo qt qv qr qx ql ad qh cI cF cC cS cO u89)) (wc := [(a22, .inr (1, [.ref (q37 0), .int (0 : Int32), .int (0 : Int32), .int (z36.1)])), ((q37 0), .inl (cB, z36.2.1, .inl (z36.2.2))), ((q98 0), .inr (0, [.ref (q98 1), .int (0 : Int32), .int (0 : Int32), .int (0 : Int32)])), ((q98 1), .inl (cB, z97.1, .inl (z97.2)))]) C (hm_J4_append_15ec4 (a0 := a22) (a1 := (q37 0)) (a2 := (q98 0)) (a3 := (q98 1)) (mc := (gc1 (z36.1 + Int32.ofNat (z97.1)) (z36.2.1))) (ms := (gc2 (z36.1 + Int32.ofNat (z97.1)) (z36.2.1))) (n3 := (z97.1)) (g3 := (z97.2)) (f0_3 := (z36.1)) (n1 := (z36.2.1)) (g1 := (z36.2.2)) (r_o1 := z102.1) (r_n2 := z102.2.1) (r_g3 := z102.2.2) C.2.2.2.2.2.2.2.2.1 hgz102) 1 rfl tcJ4_append_15ec4 tlL_100 tiJ4_append_15ec4 tsJ4_append_15ec4 tnJ4 tdJ4_append_15ec4 ⟨Nat.le_of_ble_eq_true rfl, Nat.le_of_ble_eq_true rfl⟩ hz101 (6 + 101 + 0) rfl rfl rfl (Nat.le_of_ble_eq_true rfl) dL_sailors_168 rfl) rfl (fun q103 => ?_)
        refine vi_swp ?_
        refine vi_w C (w' := ([((q27 0), .inr (0, [.ref (q27 1), .int (0 : Int32), .int (0 : Int32), .int (0 : Int32)])), ((q27 1), .inl (cB, z26.1, .inl (z26.2))), ((q32 0), .inr (0, [.ref (q32 1), .int (0 : Int32), .int (0 : Int32), .int (0 : Int32)])), ((q32 1), .inl (cB, z31.1, .inl (z31.2))), (a76, .inr (1, [.ref (q93 0), .int (0 : Int32), .int (0 : Int32), .int (z92.1)])), ((q93 0), .inl (cB, z92.2.1, .inl (z92.2.2))), (a22, .inr (1, [.ref (q103 0), .int (0 : Int32), .int (0 : Int32), .int (z102.1)])), ((q103 0), .inl (cB, z102.2.1, .inl (z102.2.2))), ((q98 0), .inr (0, [.ref (q98 1), .int (0 : Int32), .int (0 : Int32), .int (0 : Int32)])), ((q98 1), .inl (cB, z97.1, .inl (z97.2)))] ++ wX q0 qs qo qt qv qr qx ql ad qh cI cF cC cS cO u89)) rfl ?_
        obtain ⟨kc104, ekc104, h⟩ := ob_nm h
        obtain ⟨ks105, eks105, h⟩ := ob_nm h
        refine vi_kk ekc104.symm eks105.symm ?_
        rw [← ekc104, ← eks105] at hz101
        refine vi_astore (lv' := [(13, .ref a22), (12, .float y20), (11, .int y12), (10, .int y5), (9, .int y4), (8, .int y3), (0, .ref (q0 0)), (1, .int x1), (2, .int x2), (3, .int x3), (4, .int x4), (5, .long x5), (7, .int x6)]) C dL_sailors_171 (by decide) rfl ?_
        refine vi_aload C 0 dL_sailors_173 rfl ?_
        refine vi_bipush (v := 64) C dL_sailors_175 (by decide) ?_
        obtain ⟨hz106, h⟩ := ob_ok h
        obtain ⟨z107, hgz107, h⟩ := ob_bd h
        refine vi_pickX (ex2 := [((q27 0), .inr (0, [.ref (q27 1), .int (0 : Int32), .int (0 : Int32), .int (0 : Int32)])), ((q27 1), .inl (cB, z26.1, .inl (z26.2))), ((q32 0), .inr (0, [.ref (q32 1), .int (0 : Int32), .int (0 : Int32), .int (0 : Int32)])), ((q32 1), .inl (cB, z31.1, .inl (z31.2))), (a76, .inr (1, [.ref (q93 0), .int (0 : Int32), .int (0 : Int32), .int (z92.1)])), ((q93 0), .inl (cB, z92.2.1, .inl (z92.2.2))), ((q98 0), .inr (0, [.ref (q98 1), .int (0 : Int32), .int (0 : Int32), .int (0 : Int32)])), ((q98 1), .inl (cB, z97.1, .inl (z97.2))), (a22, .inr (1, [.ref (q103 0), .int (0 : Int32), .int (0 : Int32), .int (z102.1)])), ((q103 0), .inl (cB, z102.2.1, .inl (z102.2.2)))]) [0, 1, 2, 3, 4, 5, 8, 9, 6, 7] (by decide) rfl ?_
        refine vi_w C (w' := ([((q27 0), .inr (0, [.ref (q27 1), .int (0 : Int32), .int (0 : Int32), .int (0 : Int32)])), ((q27 1), .inl (cB, z26.1, .inl (z26.2))), ((q32 0), .inr (0, [.ref (q32 1), .int (0 : Int32), .int (0 : Int32), .int (0 : Int32)])), ((q32 1), .inl (cB, z31.1, .inl (z31.2))), (a76, .inr (1, [.ref (q93 0), .int (0 : Int32), .int (0 : Int32), .int (z92.1)])), ((q93 0), .inl (cB, z92.2.1, .inl (z92.2.2))), ((q98 0), .inr (0, [.ref (q98 1), .int (0 : Int32), .int (0 : Int32), .int (0 : Int32)])), ((q98 1), .inl (cB, z97.1, .inl (z97.2)))] ++ [(a22, .inr (1, [.ref (q103 0), .int (0 : Int32), .int (0 : Int32), .int (z102.1)])), ((q103 0), .inl (cB, z102.2.1, .inl (z102.2.2)))]) ++ wX q0 qs qo qt qv qr qx ql ad qh cI cF cC cS cO u89) rfl ?_
        refine vi_swp ?_
        refine g_cr C (g_runV (T := TJ4) (N := 4) (ci := 1) (fs := [.ref (q103 0), .int (0 : Int32), .int (0 : Int32), .int (z102.1)]) (As := [.int (64 : Int32)]) (rest := []) (w1 := ([((q27 0), .inr (0, [.ref (q27 1), .int (0 : Int32), .int (0 : Int32), .int (0 : Int32)])), ((q27 1), .inl (cB, z26.1, .inl (z26.2))), ((q32 0), .inr (0, [.ref (q32 1), .int (0 : Int32), .int (0 : Int32), .int (0 : Int32)])), ((q32 1), .inl (cB, z31.1, .inl (z31.2))), (a76, .inr (1, [.ref (q93 0), .int (0 : Int32), .int (0 : Int32), .int (z92.1)])), ((q93 0), .inl (cB, z92.2.1, .inl (z92.2.2))), ((q98 0), .inr (0, [.ref (q98 1), .int (0 : Int32), .int (0 : Int32), .int (0 : Int32)])), ((q98 1), .inl (cB, z97.1, .inl (z97.2)))] ++ wX q0 qs qo qt qv qr qx ql ad qh cI cF cC cS cO u89)) (wc := [(a22, .inr (1, [.ref (q103 0), .int (0 : Int32), .int (0 : Int32), .int (z102.1)])), ((q103 0), .inl (cB, z102.2.1, .inl (z102.2.2)))]) C (hm_J4_append_cf468 (a0 := a22) (a1 := (q103 0)) (mc := (gc1 (z102.1 + 1) (z102.2.1))) (ms := (gc2 (z102.1 + 1) (z102.2.1))) (x1 := (64 : Int32)) (f0_3 := (z102.1)) (n1 := (z102.2.1)) (g1 := (z102.2.2)) (r_o1 := z107.1) (r_n2 := z107.2.1) (r_g3 := z107.2.2) C.2.2.2.2.2.2.2.2.1 hgz107) 1 rfl tcJ4_append_cf468 tlL_83 tiJ4_append_cf468 tsJ4_append_cf468 tnJ4 tdJ4_append_cf468 ⟨Nat.le_of_ble_eq_true rfl, Nat.le_of_ble_eq_true rfl⟩ hz106 (8 + 101 + 0) rfl rfl rfl (Nat.le_of_ble_eq_true rfl) dL_sailors_177 rfl) rfl (fun q108 => ?_)
        refine vi_swp ?_
        refine vi_w C (w' := ([((q27 0), .inr (0, [.ref (q27 1), .int (0 : Int32), .int (0 : Int32), .int (0 : Int32)])), ((q27 1), .inl (cB, z26.1, .inl (z26.2))), ((q32 0), .inr (0, [.ref (q32 1), .int (0 : Int32), .int (0 : Int32), .int (0 : Int32)])), ((q32 1), .inl (cB, z31.1, .inl (z31.2))), (a76, .inr (1, [.ref (q93 0), .int (0 : Int32), .int (0 : Int32), .int (z92.1)])), ((q93 0), .inl (cB, z92.2.1, .inl (z92.2.2))), ((q98 0), .inr (0, [.ref (q98 1), .int (0 : Int32), .int (0 : Int32), .int (0 : Int32)])), ((q98 1), .inl (cB, z97.1, .inl (z97.2))), (a22, .inr (1, [.ref (q108 0), .int (0 : Int32), .int (0 : Int32), .int (z107.1)])), ((q108 0), .inl (cB, z107.2.1, .inl (z107.2.2)))] ++ wX q0 qs qo qt qv qr qx ql ad qh cI cF cC cS cO u89)) rfl ?_
        obtain ⟨kc109, ekc109, h⟩ := ob_nm h
        obtain ⟨ks110, eks110, h⟩ := ob_nm h
        refine vi_kk ekc109.symm eks110.symm ?_
        rw [← ekc109, ← eks110] at hz106
        refine vi_aload_n C 6 dL_sailors_180 rfl ?_
        refine vi_iload C 12 dL_sailors_181 rfl ?_
        refine vi_iconst (v := 2) C dL_sailors_183 (by decide) ?_
        obtain ⟨y112, u111, hgu111, h⟩ := ob_p h
        refine cY_i (As := [.int x6, .int (2 : Int32)]) (rest := [.ref a22]) (ud := u111) C 10 (mX7_sailorOf C.2.2.2.2.2.2.2.2.1 hgu111) 2 rfl tcX7_sailorOf tlL_110 tiX7_sailorOf tsX7_sailorOf rfl tnX7 tdX7_sailorOf ⟨Nat.le_of_ble_eq_true rfl, Nat.le_of_ble_eq_true rfl⟩ hz106 rfl rfl (Nat.le_of_ble_eq_true rfl) dL_sailors_184 ?_
        obtain ⟨hz113, h⟩ := ob_ok h
        obtain ⟨z114, hgz114, h⟩ := ob_bd h
        refine vi_w C (w' := ([((q27 0), .inr (0, [.ref (q27 1), .int (0 : Int32), .int (0 : Int32), .int (0 : Int32)])), ((q27 1), .inl (cB, z26.1, .inl (z26.2))), ((q32 0), .inr (0, [.ref (q32 1), .int (0 : Int32), .int (0 : Int32), .int (0 : Int32)])), ((q32 1), .inl (cB, z31.1, .inl (z31.2))), (a76, .inr (1, [.ref (q93 0), .int (0 : Int32), .int (0 : Int32), .int (z92.1)])), ((q93 0), .inl (cB, z92.2.1, .inl (z92.2.2))), ((q98 0), .inr (0, [.ref (q98 1), .int (0 : Int32), .int (0 : Int32), .int (0 : Int32)])), ((q98 1), .inl (cB, z97.1, .inl (z97.2)))] ++ [(a22, .inr (1, [.ref (q108 0), .int (0 : Int32), .int (0 : Int32), .int (z107.1)])), ((q108 0), .inl (cB, z107.2.1, .inl (z107.2.2)))]) ++ wX q0 qs qo qt qv qr qx ql ad qh cI cF cC cS cO u111) rfl ?_
        refine vi_swp ?_
        refine g_cr C (g_runV (T := TJ4) (N := 4) (ci := 1) (fs := [.ref (q108 0), .int (0 : Int32), .int (0 : Int32), .int (z107.1)]) (As := [.int y112]) (rest := []) (w1 := ([((q27 0), .inr (0, [.ref (q27 1), .int (0 : Int32), .int (0 : Int32), .int (0 : Int32)])), ((q27 1), .inl (cB, z26.1, .inl (z26.2))), ((q32 0), .inr (0, [.ref (q32 1), .int (0 : Int32), .int (0 : Int32), .int (0 : Int32)])), ((q32 1), .inl (cB, z31.1, .inl (z31.2))), (a76, .inr (1, [.ref (q93 0), .int (0 : Int32), .int (0 : Int32), .int (z92.1)])), ((q93 0), .inl (cB, z92.2.1, .inl (z92.2.2))), ((q98 0), .inr (0, [.ref (q98 1), .int (0 : Int32), .int (0 : Int32), .int (0 : Int32)])), ((q98 1), .inl (cB, z97.1, .inl (z97.2)))] ++ wX q0 qs qo qt qv qr qx ql ad qh cI cF cC cS cO u111)) (wc := [(a22, .inr (1, [.ref (q108 0), .int (0 : Int32), .int (0 : Int32), .int (z107.1)])), ((q108 0), .inl (cB, z107.2.1, .inl (z107.2.2)))]) C (hm_J4_append_bf812 (a0 := a22) (a1 := (q108 0)) (mc := (gc1 (z107.1 + (fJ6_stringSize_0f7a4 y112).getD 0) (z107.2.1))) (ms := (gc2 (z107.1 + (fJ6_stringSize_0f7a4 y112).getD 0) (z107.2.1))) (x1 := y112) (f0_3 := (z107.1)) (n1 := (z107.2.1)) (g1 := (z107.2.2)) (r_o1 := z114.1) (r_n2 := z114.2.1) (r_g3 := z114.2.2) C.2.2.2.2.2.2.2.2.1 hgz114) 1 rfl tcJ4_append_bf812 tlL_90 tiJ4_append_bf812 tsJ4_append_bf812 tnJ4 tdJ4_append_bf812 ⟨Nat.le_of_ble_eq_true rfl, Nat.le_of_ble_eq_true rfl⟩ hz113 (8 + 101 + 0) rfl rfl rfl (Nat.le_of_ble_eq_true rfl) dL_sailors_187 rfl) rfl (fun q115 => ?_)
        refine vi_swp ?_
        refine vi_w C (w' := ([((q27 0), .inr (0, [.ref (q27 1), .int (0 : Int32), .int (0 : Int32), .int (0 : Int32)])), ((q27 1), .inl (cB, z26.1, .inl (z26.2))), ((q32 0), .inr (0, [.ref (q32 1), .int (0 : Int32), .int (0 : Int32), .int (0 : Int32)])), ((q32 1), .inl (cB, z31.1, .inl (z31.2))), (a76, .inr (1, [.ref (q93 0), .int (0 : Int32), .int (0 : Int32), .int (z92.1)])), ((q93 0), .inl (cB, z92.2.1, .inl (z92.2.2))), ((q98 0), .inr (0, [.ref (q98 1), .int (0 : Int32), .int (0 : Int32), .int (0 : Int32)])), ((q98 1), .inl (cB, z97.1, .inl (z97.2))), (a22, .inr (1, [.ref (q115 0), .int (0 : Int32), .int (0 : Int32), .int (z114.1)])), ((q115 0), .inl (cB, z114.2.1, .inl (z114.2.2)))] ++ wX q0 qs qo qt qv qr qx ql ad qh cI cF cC cS cO u111)) rfl ?_
        obtain ⟨kc116, ekc116, h⟩ := ob_nm h
        obtain ⟨ks117, eks117, h⟩ := ob_nm h
        refine vi_kk ekc116.symm eks117.symm ?_
        rw [← ekc116, ← eks117] at hz113
        refine vi_bipush (v := 62) C dL_sailors_190 (by decide) ?_
        obtain ⟨hz118, h⟩ := ob_ok h
        obtain ⟨z119, hgz119, h⟩ := ob_bd h
        refine vi_w C (w' := ([((q27 0), .inr (0, [.ref (q27 1), .int (0 : Int32), .int (0 : Int32), .int (0 : Int32)])), ((q27 1), .inl (cB, z26.1, .inl (z26.2))), ((q32 0), .inr (0, [.ref (q32 1), .int (0 : Int32), .int (0 : Int32), .int (0 : Int32)])), ((q32 1), .inl (cB, z31.1, .inl (z31.2))), (a76, .inr (1, [.ref (q93 0), .int (0 : Int32), .int (0 : Int32), .int (z92.1)])), ((q93 0), .inl (cB, z92.2.1, .inl (z92.2.2))), ((q98 0), .inr (0, [.ref (q98 1), .int (0 : Int32), .int (0 : Int32), .int (0 : Int32)])), ((q98 1), .inl (cB, z97.1, .inl (z97.2)))] ++ [(a22, .inr (1, [.ref (q115 0), .int (0 : Int32), .int (0 : Int32), .int (z114.1)])), ((q115 0), .inl (cB, z114.2.1, .inl (z114.2.2)))]) ++ wX q0 qs qo qt qv qr qx ql ad qh cI cF cC cS cO u111) rfl ?_
        refine vi_swp ?_
        refine g_cr C (g_runV (T := TJ4) (N := 4) (ci := 1) (fs := [.ref (q115 0), .int (0 : Int32), .int (0 : Int32), .int (z114.1)]) (As := [.int (62 : Int32)]) (rest := []) (w1 := ([((q27 0), .inr (0, [.ref (q27 1), .int (0 : Int32), .int (0 : Int32), .int (0 : Int32)])), ((q27 1), .inl (cB, z26.1, .inl (z26.2))), ((q32 0), .inr (0, [.ref (q32 1), .int (0 : Int32), .int (0 : Int32), .int (0 : Int32)])), ((q32 1), .inl (cB, z31.1, .inl (z31.2))), (a76, .inr (1, [.ref (q93 0), .int (0 : Int32), .int (0 : Int32), .int (z92.1)])), ((q93 0), .inl (cB, z92.2.1, .inl (z92.2.2))), ((q98 0), .inr (0, [.ref (q98 1), .int (0 : Int32), .int (0 : Int32), .int (0 : Int32)])), ((q98 1), .inl (cB, z97.1, .inl (z97.2)))] ++ wX q0 qs qo qt qv qr qx ql ad qh cI cF cC cS cO u111)) (wc := [(a22, .inr (1, [.ref (q115 0), .int (0 : Int32), .int (0 : Int32), .int (z114.1)])), ((q115 0), .inl (cB, z114.2.1, .inl (z114.2.2)))]) C (hm_J4_append_cf468 (a0 := a22) (a1 := (q115 0)) (mc := (gc1 (z114.1 + 1) (z114.2.1))) (ms := (gc2 (z114.1 + 1) (z114.2.1))) (x1 := (62 : Int32)) (f0_3 := (z114.1)) (n1 := (z114.2.1)) (g1 := (z114.2.2)) (r_o1 := z119.1) (r_n2 := z119.2.1) (r_g3 := z119.2.2) C.2.2.2.2.2.2.2.2.1 hgz119) 1 rfl tcJ4_append_cf468 tlL_83 tiJ4_append_cf468 tsJ4_append_cf468 tnJ4 tdJ4_append_cf468 ⟨Nat.le_of_ble_eq_true rfl, Nat.le_of_ble_eq_true rfl⟩ hz118 (8 + 101 + 0) rfl rfl rfl (Nat.le_of_ble_eq_true rfl) dL_sailors_192 rfl) rfl (fun q120 => ?_)
        refine vi_swp ?_
        refine vi_w C (w' := ([((q27 0), .inr (0, [.ref (q27 1), .int (0 : Int32), .int (0 : Int32), .int (0 : Int32)])), ((q27 1), .inl (cB, z26.1, .inl (z26.2))), ((q32 0), .inr (0, [.ref (q32 1), .int (0 : Int32), .int (0 : Int32), .int (0 : Int32)])), ((q32 1), .inl (cB, z31.1, .inl (z31.2))), (a76, .inr (1, [.ref (q93 0), .int (0 : Int32), .int (0 : Int32), .int (z92.1)])), ((q93 0), .inl (cB, z92.2.1, .inl (z92.2.2))), ((q98 0), .inr (0, [.ref (q98 1), .int (0 : Int32), .int (0 : Int32), .int (0 : Int32)])), ((q98 1), .inl (cB, z97.1, .inl (z97.2))), (a22, .inr (1, [.ref (q120 0), .int (0 : Int32), .int (0 : Int32), .int (z119.1)])), ((q120 0), .inl (cB, z119.2.1, .inl (z119.2.2)))] ++ wX q0 qs qo qt qv qr qx ql ad qh cI cF cC cS cO u111)) rfl ?_
        obtain ⟨kc121, ekc121, h⟩ := ob_nm h
        obtain ⟨ks122, eks122, h⟩ := ob_nm h
        refine vi_kk ekc121.symm eks122.symm ?_
        rw [← ekc121, ← eks122] at hz118
        refine vi_iload C 2 dL_sailors_195 rfl ?_
        obtain ⟨hz123, h⟩ := ob_ok h
        obtain ⟨z124, hgz124, h⟩ := ob_bd h
        refine vi_w C (w' := ([((q27 0), .inr (0, [.ref (q27 1), .int (0 : Int32), .int (0 : Int32), .int (0 : Int32)])), ((q27 1), .inl (cB, z26.1, .inl (z26.2))), ((q32 0), .inr (0, [.ref (q32 1), .int (0 : Int32), .int (0 : Int32), .int (0 : Int32)])), ((q32 1), .inl (cB, z31.1, .inl (z31.2))), (a76, .inr (1, [.ref (q93 0), .int (0 : Int32), .int (0 : Int32), .int (z92.1)])), ((q93 0), .inl (cB, z92.2.1, .inl (z92.2.2))), ((q98 0), .inr (0, [.ref (q98 1), .int (0 : Int32), .int (0 : Int32), .int (0 : Int32)])), ((q98 1), .inl (cB, z97.1, .inl (z97.2)))] ++ [(a22, .inr (1, [.ref (q120 0), .int (0 : Int32), .int (0 : Int32), .int (z119.1)])), ((q120 0), .inl (cB, z119.2.1, .inl (z119.2.2)))]) ++ wX q0 qs qo qt qv qr qx ql ad qh cI cF cC cS cO u111) rfl ?_
        refine vi_swp ?_
        refine g_cr C (g_runV (T := TJ4) (N := 4) (ci := 1) (fs := [.ref (q120 0), .int (0 : Int32), .int (0 : Int32), .int (z119.1)]) (As := [.int y12]) (rest := []) (w1 := ([((q27 0), .inr (0, [.ref (q27 1), .int (0 : Int32), .int (0 : Int32), .int (0 : Int32)])), ((q27 1), .inl (cB, z26.1, .inl (z26.2))), ((q32 0), .inr (0, [.ref (q32 1), .int (0 : Int32), .int (0 : Int32), .int (0 : Int32)])), ((q32 1), .inl (cB, z31.1, .inl (z31.2))), (a76, .inr (1, [.ref (q93 0), .int (0 : Int32), .int (0 : Int32), .int (z92.1)])), ((q93 0), .inl (cB, z92.2.1, .inl (z92.2.2))), ((q98 0), .inr (0, [.ref (q98 1), .int (0 : Int32), .int (0 : Int32), .int (0 : Int32)])), ((q98 1), .inl (cB, z97.1, .inl (z97.2)))] ++ wX q0 qs qo qt qv qr qx ql ad qh cI cF cC cS cO u111)) (wc := [(a22, .inr (1, [.ref (q120 0), .int (0 : Int32), .int (0 : Int32), .int (z119.1)])), ((q120 0), .inl (cB, z119.2.1, .inl (z119.2.2)))]) C (hm_J4_append_bf812 (a0 := a22) (a1 := (q120 0)) (mc := (gc1 (z119.1 + (fJ6_stringSize_0f7a4 y12).getD 0) (z119.2.1))) (ms := (gc2 (z119.1 + (fJ6_stringSize_0f7a4 y12).getD 0) (z119.2.1))) (x1 := y12) (f0_3 := (z119.1)) (n1 := (z119.2.1)) (g1 := (z119.2.2)) (r_o1 := z124.1) (r_n2 := z124.2.1) (r_g3 := z124.2.2) C.2.2.2.2.2.2.2.2.1 hgz124) 1 rfl tcJ4_append_bf812 tlL_90 tiJ4_append_bf812 tsJ4_append_bf812 tnJ4 tdJ4_append_bf812 ⟨Nat.le_of_ble_eq_true rfl, Nat.le_of_ble_eq_true rfl⟩ hz123 (8 + 101 + 0) rfl rfl rfl (Nat.le_of_ble_eq_true rfl) dL_sailors_197 rfl) rfl (fun q125 => ?_)
        refine vi_swp ?_
        refine vi_w C (w' := ([((q27 0), .inr (0, [.ref (q27 1), .int (0 : Int32), .int (0 : Int32), .int (0 : Int32)])), ((q27 1), .inl (cB, z26.1, .inl (z26.2))), ((q32 0), .inr (0, [.ref (q32 1), .int (0 : Int32), .int (0 : Int32), .int (0 : Int32)])), ((q32 1), .inl (cB, z31.1, .inl (z31.2))), (a76, .inr (1, [.ref (q93 0), .int (0 : Int32), .int (0 : Int32), .int (z92.1)])), ((q93 0), .inl (cB, z92.2.1, .inl (z92.2.2))), ((q98 0), .inr (0, [.ref (q98 1), .int (0 : Int32), .int (0 : Int32), .int (0 : Int32)])), ((q98 1), .inl (cB, z97.1, .inl (z97.2))), (a22, .inr (1, [.ref (q125 0), .int (0 : Int32), .int (0 : Int32), .int (z124.1)])), ((q125 0), .inl (cB, z124.2.1, .inl (z124.2.2)))] ++ wX q0 qs qo qt qv qr qx ql ad qh cI cF cC cS cO u111)) rfl ?_
        obtain ⟨kc126, ekc126, h⟩ := ob_nm h
        obtain ⟨ks127, eks127, h⟩ := ob_nm h
        refine vi_kk ekc126.symm eks127.symm ?_
        rw [← ekc126, ← eks127] at hz123
        refine vi_pop C dL_sailors_200 rfl ?_
        refine vi_iload_n C 8 dL_sailors_201 rfl ?_
        refine vi_aload_n C 6 dL_sailors_202 rfl ?_
        refine vi_iload C 12 dL_sailors_203 rfl ?_
        refine vi_iconst (v := 1) C dL_sailors_205 (by decide) ?_
        obtain ⟨y129, u128, hgu128, h⟩ := ob_p h
        refine cY_i (As := [.int x6, .int (1 : Int32)]) (rest := [.int x2]) (ud := u128) C 10 (mX7_sailorOf C.2.2.2.2.2.2.2.2.1 hgu128) 2 rfl tcX7_sailorOf tlL_110 tiX7_sailorOf tsX7_sailorOf rfl tnX7 tdX7_sailorOf ⟨Nat.le_of_ble_eq_true rfl, Nat.le_of_ble_eq_true rfl⟩ hz123 rfl rfl (Nat.le_of_ble_eq_true rfl) dL_sailors_206 ?_
        refine vi_iadd C dL_sailors_209 ?_
        obtain ⟨y130, ey130, h⟩ := ob_nm h
        refine vi_nmi ey130 ?_
        refine vi_istore_n (lv' := [(2, .int y130), (13, .ref a22), (12, .float y20), (11, .int y12), (10, .int y5), (9, .int y4), (8, .int y3), (0, .ref (q0 0)), (1, .int x1), (3, .int x3), (4, .int x4), (5, .long x5), (7, .int x6)]) C dL_sailors_210 rfl (by decide) rfl ?_
        refine vi_iload_n C 9 dL_sailors_211 rfl ?_
        refine vi_iload C 3 dL_sailors_212 rfl ?_
        refine vi_iadd C dL_sailors_214 ?_
        obtain ⟨y131, ey131, h⟩ := ob_nm h
        refine vi_nmi ey131 ?_
        refine vi_istore_n (lv' := [(3, .int y131), (2, .int y130), (13, .ref a22), (12, .float y20), (11, .int y12), (10, .int y5), (9, .int y4), (8, .int y3), (0, .ref (q0 0)), (1, .int x1), (4, .int x4), (5, .long x5), (7, .int x6)]) C dL_sailors_215 rfl (by decide) rfl ?_
        refine vi_lload C 11 dL_sailors_216 rfl ?_
        refine vi_iload C 12 dL_sailors_218 rfl ?_
        refine vi_iconst (v := 4) C dL_sailors_220 (by decide) ?_
        refine vi_icmp_ge (tgt := 236) C dL_sailors_221 (by decide) (fun hc132 => ?_) (fun hc132 => ?_)
        · have h := ob_t h hc132
          refine vi_lconst (v := 0) C dL_sailors_236 (by decide) ?_
          refine vi_sub C [8, 9, 1, 0, 10, 12, 6, 5, 4, 3, 2] rfl ?_
          refine vi_pickX (ex2 := [(a22, .inr (1, [.ref (q125 0), .int (0 : Int32), .int (0 : Int32), .int (z124.1)])), ((q125 0), .inl (cB, z124.2.1, .inl (z124.2.2)))]) [8, 9] (by decide) rfl ?_
          exact hk_L_sailors_237 C RET ih  _ _ _ _ _ _ _ _ _ _ _ _ _ _ _ _ _ _ _ hz123 h
        · have h := ob_f h hc132
          refine vi_iload C 7 dL_sailors_224 rfl ?_
          refine vi_i2l C dL_sailors_226 ?_
          refine vi_bipush (v := 16) C dL_sailors_227 (by decide) ?_
          refine vi_iload C 12 dL_sailors_229 rfl ?_
          refine vi_imul C dL_sailors_231 ?_
          refine vi_lshl C dL_sailors_232 ?_
          refine vi_goto (tgt := 237) C dL_sailors_233 (by decide) ?_
          refine vi_sub C [8, 9, 1, 0, 10, 12, 6, 5, 4, 3, 2] rfl ?_
          refine vi_pickX (ex2 := [(a22, .inr (1, [.ref (q125 0), .int (0 : Int32), .int (0 : Int32), .int (z124.1)])), ((q125 0), .inl (cB, z124.2.1, .inl (z124.2.2)))]) [8, 9] (by decide) rfl ?_
          exact hk_L_sailors_237 C RET ih  _ _ _ _ _ _ _ _ _ _ _ _ _ _ _ _ _ _ _ hz123 h
def hf_L_sailors (mc : Nat) (ms : Nat) (u : vZ) : Option (Int32 × vZ) := obp (fX7_account (0 : Int32) u) fun y2 u1 => hf_L_sailors_19 mc ms vF y2 (0 : Int32) (0 : Int32) (-1 : Int32) (0 : Int64) (0 : Int32) u1 (0) (0)
set_option maxRecDepth 100000 in
set_option maxHeartbeats 4000000 in
theorem hk_L_sailors_e {ad adK adV : Nat → Nat} {tS tF : Nat} {tX sK sV : Nat → Nat} {p : Program} {l : Launch} {e : Env} {s : State} {m : MethodId} {args : Array Value} {below : List Frame} {meth : Method} {c : Code} {A : Nat → Prop} {D : va_G} {cI cF cC cS cO cB cZ : ClassId} {Q : State → Prop} {q0 qs qo qt qv qr qx ql : Nat → Nat} {qh : Nat → Nat → Nat} {mc : Nat} {ms : Nat} (C : vC (vE ad adK adV tS tF tX sK sV) p l s m args meth c A D (vT7 cI cF cC cS cO cB cZ) cL_sailors 16 RL) {r0 : Int32} {u0 : vZ} (RET : ∀ (q : Nat → Nat) (kc ks : Nat) (pc : Nat) (lv : List (Nat × Value)), (kc ≤ mc ∧ ks ≤ ms) → decode cL_sailors pc = .ok (.ireturn, 1) → (r0 = 0 ∨ r0 = 1) → vV p l e { frames := 9, cells := mc, slots := ms, locals := 214 } s m args below meth c A D 16 kc ks Q ([] ++ wX q0 qs qo qt qv qr qx ql ad qh cI cF cC cS cO u0) pc lv [.int r0]) {u : vZ} (h : hf_L_sailors mc ms u = some (r0, u0)) : vV p l e { frames := 9, cells := mc, slots := ms, locals := 214 } s m args below meth c A D 16 (0) (0) Q ([] ++ wX q0 qs qo qt qv qr qx ql ad qh cI cF cC cS cO u) 0 [(0, .ref (q0 0))] [] := by
  rw [hf_L_sailors] at h
  refine vi_aload_n C 0 dL_sailors_0 rfl ?_
  refine vi_iconst (v := 0) C dL_sailors_1 (by decide) ?_
  obtain ⟨y2, u1, hgu1, h⟩ := ob_p h
  refine cY_i (As := [.int (0 : Int32)]) (rest := []) (ud := u1) C 0 (mX7_account C.2.2.2.2.2.2.2.2.1 hgu1) 1 rfl tcX7_account tlL_37 tiX7_account tsX7_account rfl tnX7 tdX7_account ⟨Nat.le_of_ble_eq_true rfl, Nat.le_of_ble_eq_true rfl⟩ ⟨Nat.zero_le _, Nat.zero_le _⟩ rfl rfl (Nat.le_of_ble_eq_true rfl) dL_sailors_2 ?_
  refine vi_istore_n (lv' := [(1, .int y2), (0, .ref (q0 0))]) C dL_sailors_5 rfl (by decide) rfl ?_
  refine vi_iconst (v := 0) C dL_sailors_6 (by decide) ?_
  refine vi_istore_n (lv' := [(2, .int (0 : Int32)), (1, .int y2), (0, .ref (q0 0))]) C dL_sailors_7 rfl (by decide) rfl ?_
  refine vi_iconst (v := 0) C dL_sailors_8 (by decide) ?_
  refine vi_istore_n (lv' := [(3, .int (0 : Int32)), (2, .int (0 : Int32)), (1, .int y2), (0, .ref (q0 0))]) C dL_sailors_9 rfl (by decide) rfl ?_
  refine vi_iconst (v := (-1)) C dL_sailors_10 (by decide) ?_
  refine vi_istore (lv' := [(4, .int (-1 : Int32)), (3, .int (0 : Int32)), (2, .int (0 : Int32)), (1, .int y2), (0, .ref (q0 0))]) C dL_sailors_11 (by decide) rfl ?_
  refine vi_lconst (v := 0) C dL_sailors_13 (by decide) ?_
  refine vi_lstore (lv' := [(5, .long (0 : Int64)), (4, .int (-1 : Int32)), (3, .int (0 : Int32)), (2, .int (0 : Int32)), (1, .int y2), (0, .ref (q0 0))]) C dL_sailors_14 (by decide) rfl ?_
  refine vi_iconst (v := 0) C dL_sailors_16 (by decide) ?_
  refine vi_istore (lv' := [(7, .int (0 : Int32)), (5, .long (0 : Int64)), (4, .int (-1 : Int32)), (3, .int (0 : Int32)), (2, .int (0 : Int32)), (1, .int y2), (0, .ref (q0 0))]) C dL_sailors_17 (by decide) rfl ?_
  refine vi_sub C [6, 5, 4, 3, 2, 1, 0] rfl ?_
  exact hk_L_sailors_19 C RET  vF _ _ _ _ _ _ _ _ _ ⟨Nat.zero_le _, Nat.zero_le _⟩ h
theorem hm_L_sailors {ad adK adV : Nat → Nat} {tS tF : Nat} {tX sK sV : Nat → Nat} (hE : vEok (vE ad adK adV tS tF tX sK sV)) {l : Launch} {D : va_G} {cI cF cC cS cO cB cZ : ClassId} {q0 qs qo qt qv qr qx ql : Nat → Nat} {qh : Nat → Nat → Nat} {mc : Nat} {ms : Nat} {r0 : Int32} {u0 : vZ} {u : vZ} (h : hf_L_sailors mc ms u = some (r0, u0)) : vG (vE ad adK adV tS tF tX sK sV) l yL_sailors cL_sailors 16 (some .boolean) 9 214 mc ms D (vT7 cI cF cC cS cO cB cZ) [.ref (q0 0)] ([] ++ wX q0 qs qo qt qv qr qx ql ad qh cI cF cC cS cO u) (gQi D (fun q => ([] ++ wX q0 qs qo qt qv qr qx ql ad qh cI cF cC cS cO u0)) r0) :=
  vG_of hE (by decide +kernel) (Nat.le_of_ble_eq_true rfl) (fun p e s m args below meth c A C hr hin => hk_L_sailors_e C (fun q kc ks pc lv hk hd hz => g_reti (WQ := (fun q => ([] ++ wX q0 qs qo qt qv qr qx ql ad qh cI cF cC cS cO u0))) C hr (by rcases hz with rfl | rfl <;> rfl) q rfl hk hd) h)
