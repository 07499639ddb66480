-- ---- X8_angle
def fX8_angle (x1 : Int32) (u : vS) : Option (UInt32 × vS) := obp (fX8_isSailor x1 u) fun y2 u1 => (if y2 = 0 then some (FP.fconst0, u1) else obp (fX8_angled x1 u1) fun y5 u4 => if (FP.fdiv (FP.i2f y5) (1082130432 : UInt32)) &&& 0x7fffffff ≤ 0x7f800000 then some (FP.fdiv (FP.i2f y5) (1082130432 : UInt32), u4) else none)
set_option maxRecDepth 100000 in
set_option maxHeartbeats 4000000 in
theorem kX8_angle_e {E : (Nat → Prop) → State → Heap → Prop} {p : Program} {l : Launch} {e : Env} {s : State} {m : MethodId} {args : Array Value} {below : List Frame} {meth : Method} {c : Code} {A : Nat → Prop} {D : va_G} {cI cF cC cS cO : ClassId} {Q : State → Prop} {q : Nat → Nat} (C : vC E p l s m args meth c A D (vT5 cI cF cC cS cO) cX8_angle 2 RX8) {r0 : UInt32} {u0 : vS} (RET : ∀ (pc : Nat) (lv : List (Nat × Value)), decode cX8_angle pc = .ok (.freturn, 1) → vV p l e { frames := 3, cells := 0, slots := 0, locals := 64 } s m args below meth c A D 2 0 0 Q (wR q cI u0) pc lv [.float r0]) {x1 : Int32} {u : vS} (h : fX8_angle x1 u = some (r0, u0)) : vV p l e { frames := 3, cells := 0, slots := 0, locals := 64 } s m args below meth c A D 2 0 0 Q (wR q cI u) 0 [(0, .ref (q 0)), (1, .int x1)] [] := by
  rw [fX8_angle] at h
  refine vi_aload_n C 0 dX8_angle_0 rfl ?_
  refine vi_iload_n C 1 dX8_angle_1 rfl ?_
  obtain ⟨y2, u1, hgu1, h⟩ := ob_p h
  refine vR_calli (As := [.int x1]) (rest := []) C (mX8_isSailor C.2.2.2.2.2.2.2.2.1 hgu1) 1 rfl tcX8_isSailor tlX8_108 tiX8_isSailor tsX8_isSailor rfl tnX8 tdX8_isSailor ⟨Nat.le_of_ble_eq_true rfl, Nat.le_of_ble_eq_true rfl⟩ rfl (Nat.le_of_ble_eq_true rfl) dX8_angle_2 ?_
  refine vi_if_eq (tgt := 20) C dX8_angle_5 (by decide) (fun hc3 => ?_) (fun hc3 => ?_)
  · have h := ob_t h hc3
    refine vi_fconst0 C dX8_angle_20 ?_
    exact vi_donef (W := wR q cI) RET h dX8_angle_21
  · have h := ob_f h hc3
    refine vi_aload_n C 0 dX8_angle_8 rfl ?_
    refine vi_iload_n C 1 dX8_angle_9 rfl ?_
    obtain ⟨y5, u4, hgu4, h⟩ := ob_p h
    refine vR_calli (As := [.int x1]) (rest := []) C (mX8_angled C.2.2.2.2.2.2.2.2.1 hgu4) 1 rfl tcX8_angled tlX8_86 tiX8_angled tsX8_angled rfl tnX8 tdX8_angled ⟨Nat.le_of_ble_eq_true rfl, Nat.le_of_ble_eq_true rfl⟩ rfl (Nat.le_of_ble_eq_true rfl) dX8_angle_10 ?_
    refine vi_i2f C dX8_angle_13 ?_
    refine vi_ldcf (v := 1082130432) C dX8_angle_14 tkX8_89 ?_
    obtain ⟨hz6, h⟩ := ob_ok h
    refine vi_fdiv C dX8_angle_16 hz6 ?_
    refine vi_goto (tgt := 21) C dX8_angle_17 (by decide) ?_
    exact vi_donef (W := wR q cI) RET h dX8_angle_21
theorem mX8_angle {E : (Nat → Prop) → State → Heap → Prop} (hE : vEok E) {l : Launch} {D : va_G} {cI cF cC cS cO : ClassId} {q : Nat → Nat} {r0 : UInt32} {u0 : vS}  {x1 : Int32} {u : vS} (h : fX8_angle x1 u = some (r0, u0)) : vM E l yX8_angle cX8_angle 2 (some .float) 3 64 D (vT5 cI cF cC cS cO) [.ref (q 0), .int x1] (wR q cI u) (vQf D (wR q cI u0) r0) :=
  vM_of hE (by decide +kernel) (Nat.le_of_ble_eq_true rfl) (fun p e s m args below meth c A C hr => kX8_angle_e C (vi_retf C hr) h)
-- ---- X8_readBits
def fX8_readBits (x1 : Int32) (u : vS) : Option (Int32 × vS) := obp (fX8_isSailor x1 u) fun y2 u1 => (if y2 = 0 then some ((-100001 : Int32), u1) else obp (fX8_reads x1 u1) fun y5 u4 => (fJxf58ca_floatToIntBits_5c35a y5).bind fun y6 => some (y6, u4))
set_option maxRecDepth 100000 in
set_option maxHeartbeats 4000000 in
theorem kX8_readBits_e {E : (Nat → Prop) → State → Heap → Prop} {p : Program} {l : Launch} {e : Env} {s : State} {m : MethodId} {args : Array Value} {below : List Frame} {meth : Method} {c : Code} {A : Nat → Prop} {D : va_G} {cI cF cC cS cO : ClassId} {Q : State → Prop} {q : Nat → Nat} (C : vC E p l s m args meth c A D (vT5 cI cF cC cS cO) cX8_readBits 2 RX8) {r0 : Int32} {u0 : vS} (RET : ∀ (pc : Nat) (lv : List (Nat × Value)), decode cX8_readBits pc = .ok (.ireturn, 1) → vV p l e { frames := 4, cells := 0, slots := 0, locals := 85 } s m args below meth c A D 2 0 0 Q (wR q cI u0) pc lv [.int r0]) {x1 : Int32} {u : vS} (h : fX8_readBits x1 u = some (r0, u0)) : vV p l e { frames := 4, cells := 0, slots := 0, locals := 85 } s m args below meth c A D 2 0 0 Q (wR q cI u) 0 [(0, .ref (q 0)), (1, .int x1)] [] := by
  rw [fX8_readBits] at h
  refine vi_aload_n C 0 dX8_readBits_0 rfl ?_
  refine vi_iload_n C 1 dX8_readBits_1 rfl ?_
  obtain ⟨y2, u1, hgu1, h⟩ := ob_p h
  refine vR_calli (As := [.int x1]) (rest := []) C (mX8_isSailor C.2.2.2.2.2.2.2.2.1 hgu1) 1 rfl tcX8_isSailor tlX8_108 tiX8_isSailor tsX8_isSailor rfl tnX8 tdX8_isSailor ⟨Nat.le_of_ble_eq_true rfl, Nat.le_of_ble_eq_true rfl⟩ rfl (Nat.le_of_ble_eq_true rfl) dX8_readBits_2 ?_
  refine vi_if_eq (tgt := 19) C dX8_readBits_5 (by decide) (fun hc3 => ?_) (fun hc3 => ?_)
  · have h := ob_t h hc3
    refine vi_ldc (v := (-100001)) C dX8_readBits_19 tkX8_111 ?_
    exact vi_donei (W := wR q cI) RET h dX8_readBits_21
  · have h := ob_f h hc3
    refine vi_aload_n C 0 dX8_readBits_8 rfl ?_
    refine vi_iload_n C 1 dX8_readBits_9 rfl ?_
    obtain ⟨y5, u4, hgu4, h⟩ := ob_p h
    refine vR_callf (As := [.int x1]) (rest := []) C (mX8_reads C.2.2.2.2.2.2.2.2.1 hgu4) 1 rfl tcX8_reads tlX8_140 tiX8_reads tsX8_reads rfl tnX8 tdX8_reads ⟨Nat.le_of_ble_eq_true rfl, Nat.le_of_ble_eq_true rfl⟩ rfl (Nat.le_of_ble_eq_true rfl) dX8_readBits_10 ?_
    obtain ⟨y6, hgy6, h⟩ := ob_bd h
    refine vi_callS0i (As := [.float y5]) (rest := []) C (mJxf58ca_floatToIntBits_5c35a C.2.2.2.2.2.2.2.2.1 hgy6) 1 rfl tcJxf58ca_floatToIntBits_5c35a tlX8_144 ttJxf58ca_floatToIntBits_5c35a tnJxf58ca tdJxf58ca_floatToIntBits_5c35a ⟨Nat.le_of_ble_eq_true rfl, Nat.le_of_ble_eq_true rfl⟩ rfl (Nat.le_of_ble_eq_true rfl) dX8_readBits_13 ?_
    refine vi_goto (tgt := 21) C dX8_readBits_16 (by decide) ?_
    exact vi_donei (W := wR q cI) RET h dX8_readBits_21
theorem mX8_readBits {E : (Nat → Prop) → State → Heap → Prop} (hE : vEok E) {l : Launch} {D : va_G} {cI cF cC cS cO : ClassId} {q : Nat → Nat} {r0 : Int32} {u0 : vS}  {x1 : Int32} {u : vS} (h : fX8_readBits x1 u = some (r0, u0)) : vM E l yX8_readBits cX8_readBits 2 (some .int) 4 85 D (vT5 cI cF cC cS cO) [.ref (q 0), .int x1] (wR q cI u) (vQi D (wR q cI u0) r0) :=
  vM_of hE (by decide +kernel) (Nat.le_of_ble_eq_true rfl) (fun p e s m args below meth c A C hr => kX8_readBits_e C (vi_reti C hr) h)
-- ---- X8_value
def fX8_value (x1 : Int32) (u : vS) : Option (UInt32 × vS) := if ((36 : Int32) + ((3 : Int32) * x1)) + (2 : Int32) < 0 ∨ 66 ≤ Int32.toNatClampNeg (((36 : Int32) + ((3 : Int32) * x1)) + (2 : Int32)) then none else if vn_sni2f (u 1 (Int32.toNatClampNeg (((36 : Int32) + ((3 : Int32) * x1)) + (2 : Int32)))) = false then some (Int32.toUInt32 (u 1 (Int32.toNatClampNeg (((36 : Int32) + ((3 : Int32) * x1)) + (2 : Int32)))), u) else none
set_option maxRecDepth 100000 in
set_option maxHeartbeats 4000000 in
theorem kX8_value_e {E : (Nat → Prop) → State → Heap → Prop} {p : Program} {l : Launch} {e : Env} {s : State} {m : MethodId} {args : Array Value} {below : List Frame} {meth : Method} {c : Code} {A : Nat → Prop} {D : va_G} {cI cF cC cS cO : ClassId} {Q : State → Prop} {q : Nat → Nat} (C : vC E p l s m args meth c A D (vT5 cI cF cC cS cO) cX8_value 2 RX8) {r0 : UInt32} {u0 : vS} (RET : ∀ (pc : Nat) (lv : List (Nat × Value)), decode cX8_value pc = .ok (.freturn, 1) → vV p l e { frames := 1, cells := 0, slots := 0, locals := 15 } s m args below meth c A D 2 0 0 Q (wR q cI u0) pc lv [.float r0]) {x1 : Int32} {u : vS} (h : fX8_value x1 u = some (r0, u0)) : vV p l e { frames := 1, cells := 0, slots := 0, locals := 15 } s m args below meth c A D 2 0 0 Q (wR q cI u) 0 [(0, .ref (q 0)), (1, .int x1)] [] := by
  rw [fX8_value] at h
  refine vi_aload_n C 0 dX8_value_0 rfl ?_
  refine gR_8 C dX8_value_1 ?_
  refine vi_bipush (v := 36) C dX8_value_4 (by decide) ?_
  refine vi_iconst (v := 3) C dX8_value_6 (by decide) ?_
  refine vi_iload_n C 1 dX8_value_7 rfl ?_
  refine vi_imul C dX8_value_8 ?_
  refine vi_iadd C dX8_value_9 ?_
  refine vi_iconst (v := 2) C dX8_value_10 (by decide) ?_
  refine vi_iadd C dX8_value_11 ?_
  obtain ⟨hz1, h⟩ := ob_if h
  refine lR_1 (n := (Int32.toNatClampNeg (((36 : Int32) + ((3 : Int32) * x1)) + (2 : Int32)))) C hz1 rfl dX8_value_12 ?_
  obtain ⟨hz2, h⟩ := ob_ok h
  refine vi_ib2f C hz2 dX8_value_13 tlX8_175 tnat_intBitsToFloat tstat_intBitsToFloat tnJxf58ca (by decide) (by decide) ?_
  exact vi_donef (W := wR q cI) RET h dX8_value_16
theorem mX8_value {E : (Nat → Prop) → State → Heap → Prop} (hE : vEok E) {l : Launch} {D : va_G} {cI cF cC cS cO : ClassId} {q : Nat → Nat} {r0 : UInt32} {u0 : vS}  {x1 : Int32} {u : vS} (h : fX8_value x1 u = some (r0, u0)) : vM E l yX8_value cX8_value 2 (some .float) 1 15 D (vT5 cI cF cC cS cO) [.ref (q 0), .int x1] (wR q cI u) (vQf D (wR q cI u0) r0) :=
  vM_of hE (by decide +kernel) (Nat.le_of_ble_eq_true rfl) (fun p e s m args below meth c A C hr => kX8_value_e C (vi_retf C hr) h)
-- ---- X8_fixed
def fX8_fixed_7 : Nat → Int32 → UInt32 → Int32 → Int32 → vS → Option (UInt32 × vS)
  | 0, _, _, _, _, _ => none
  | n + 1, x1, x2, x3, x4, u => (if u 1 3 ≤ x4 then if (FP.fdiv x2 (FP.fconst2)) &&& 0x7fffffff ≤ 0x7f800000 then some (FP.fdiv x2 (FP.fconst2), u) else none else (if (2 : Int32) ≤ x3 then if (FP.fdiv x2 (FP.fconst2)) &&& 0x7fffffff ≤ 0x7f800000 then some (FP.fdiv x2 (FP.fconst2), u) else none else if (36 : Int32) + ((3 : Int32) * x4) < 0 ∨ 66 ≤ Int32.toNatClampNeg ((36 : Int32) + ((3 : Int32) * x4)) then none else (if u 1 (Int32.toNatClampNeg ((36 : Int32) + ((3 : Int32) * x4))) = x1 then (if x3 = 0 then obp (fX8_value x4 u) fun y15 u14 => bd ((x3 + 1 : Int32)) fun y16 => bd ((x4 + 1 : Int32)) fun y17 => fX8_fixed_7 n x1 y15 y16 y17 u14 else obp (fX8_value x4 u) fun y9 u8 => if (FP.fadd x2 y9) &&& 0x7fffffff ≤ 0x7f800000 then bd ((FP.fadd x2 y9 : UInt32)) fun y11 => bd ((x3 + 1 : Int32)) fun y12 => bd ((x4 + 1 : Int32)) fun y13 => fX8_fixed_7 n x1 y11 y12 y13 u8 else none) else bd ((x4 + 1 : Int32)) fun y18 => fX8_fixed_7 n x1 x2 x3 y18 u)))
set_option maxRecDepth 100000 in
set_option maxHeartbeats 4000000 in
theorem kX8_fixed_7 {E : (Nat → Prop) → State → Heap → Prop} {p : Program} {l : Launch} {e : Env} {s : State} {m : MethodId} {args : Array Value} {below : List Frame} {meth : Method} {c : Code} {A : Nat → Prop} {D : va_G} {cI cF cC cS cO : ClassId} {Q : State → Prop} {q : Nat → Nat} (C : vC E p l s m args meth c A D (vT5 cI cF cC cS cO) cX8_fixed 5 RX8) {r0 : UInt32} {u0 : vS} (RET : ∀ (pc : Nat) (lv : List (Nat × Value)), decode cX8_fixed pc = .ok (.freturn, 1) → vV p l e { frames := 2, cells := 0, slots := 0, locals := 36 } s m args below meth c A D 5 0 0 Q (wR q cI u0) pc lv [.float r0]) : ∀ (n : Nat) (x1 : Int32) (x2 : UInt32) (x3 : Int32) (x4 : Int32) (u : vS), fX8_fixed_7 n x1 x2 x3 x4 u = some (r0, u0) → vV p l e { frames := 2, cells := 0, slots := 0, locals := 36 } s m args below meth c A D 5 0 0 Q (wR q cI u) 7 [(0, .ref (q 0)), (1, .int x1), (2, .float x2), (3, .int x3), (4, .int x4)] [] := by
  intro n
  induction n with
  | zero => intro x1 x2 x3 x4 u h; rw [fX8_fixed_7] at h; cases h
  | succ n ih =>
    intro x1 x2 x3 x4 u h
    rw [fX8_fixed_7] at h
    refine vi_iload C 4 dX8_fixed_7 rfl ?_
    refine vi_aload_n C 0 dX8_fixed_9 rfl ?_
    refine gR_8 C dX8_fixed_10 ?_
    refine vi_iconst (v := 3) C dX8_fixed_13 (by decide) ?_
    refine lR_1 (n := 3) C (by decide) rfl dX8_fixed_14 ?_
    refine vi_icmp_ge (tgt := 73) C dX8_fixed_15 (by decide) (fun hc1 => ?_) (fun hc1 => ?_)
    · have h := ob_t h hc1
      refine vi_fload_n C 2 dX8_fixed_73 rfl ?_
      refine vi_fconst2 C dX8_fixed_74 ?_
      obtain ⟨hz2, h⟩ := ob_ok h
      refine vi_fdiv C dX8_fixed_75 hz2 ?_
      exact vi_donef (W := wR q cI) RET h dX8_fixed_76
    · have h := ob_f h hc1
      refine vi_iload_n C 3 dX8_fixed_18 rfl ?_
      refine vi_iconst (v := 2) C dX8_fixed_19 (by decide) ?_
      refine vi_icmp_ge (tgt := 73) C dX8_fixed_20 (by decide) (fun hc3 => ?_) (fun hc3 => ?_)
      · have h := ob_t h hc3
        refine vi_fload_n C 2 dX8_fixed_73 rfl ?_
        refine vi_fconst2 C dX8_fixed_74 ?_
        obtain ⟨hz4, h⟩ := ob_ok h
        refine vi_fdiv C dX8_fixed_75 hz4 ?_
        exact vi_donef (W := wR q cI) RET h dX8_fixed_76
      · have h := ob_f h hc3
        refine vi_aload_n C 0 dX8_fixed_23 rfl ?_
        refine gR_8 C dX8_fixed_24 ?_
        refine vi_bipush (v := 36) C dX8_fixed_27 (by decide) ?_
        refine vi_iconst (v := 3) C dX8_fixed_29 (by decide) ?_
        refine vi_iload C 4 dX8_fixed_30 rfl ?_
        refine vi_imul C dX8_fixed_32 ?_
        refine vi_iadd C dX8_fixed_33 ?_
        obtain ⟨hz5, h⟩ := ob_if h
        refine lR_1 (n := (Int32.toNatClampNeg ((36 : Int32) + ((3 : Int32) * x4)))) C hz5 rfl dX8_fixed_34 ?_
        refine vi_iload_n C 1 dX8_fixed_35 rfl ?_
        refine vi_icmp_eq (tgt := 42) C dX8_fixed_36 (by decide) (fun hc6 => ?_) (fun hc6 => ?_)
        · have h := ob_t h hc6
          refine vi_iload_n C 3 dX8_fixed_42 rfl ?_
          refine vi_if_ne (tgt := 55) C dX8_fixed_43 (by decide) (fun hc7 => ?_) (fun hc7 => ?_)
          · have h := ob_f h hc7
            refine vi_fload_n C 2 dX8_fixed_55 rfl ?_
            refine vi_aload_n C 0 dX8_fixed_56 rfl ?_
            refine vi_iload C 4 dX8_fixed_57 rfl ?_
            obtain ⟨y9, u8, hgu8, h⟩ := ob_p h
            refine vR_callf (As := [.int x4]) (rest := [.float x2]) C (mX8_value C.2.2.2.2.2.2.2.2.1 hgu8) 1 rfl tcX8_value tlX8_178 tiX8_value tsX8_value rfl tnX8 tdX8_value ⟨Nat.le_of_ble_eq_true rfl, Nat.le_of_ble_eq_true rfl⟩ rfl (Nat.le_of_ble_eq_true rfl) dX8_fixed_59 ?_
            obtain ⟨hz10, h⟩ := ob_ok h
            refine vi_fadd C dX8_fixed_62 hz10 ?_
            obtain ⟨y11, ey11, h⟩ := ob_nm h
            refine vi_nmf ey11 ?_
            refine vi_fstore_n (lv' := [(2, .float y11), (0, .ref (q 0)), (1, .int x1), (3, .int x3), (4, .int x4)]) C dX8_fixed_63 rfl (by decide) rfl ?_
            obtain ⟨y12, ey12, h⟩ := ob_nm h
            refine vi_iinc (v := y12) (lv' := [(3, .int y12), (2, .float y11), (0, .ref (q 0)), (1, .int x1), (4, .int x4)]) C 3 dX8_fixed_64 rfl (by rw [ey12]; rfl) (by decide) rfl ?_
            obtain ⟨y13, ey13, h⟩ := ob_nm h
            refine vi_iinc (v := y13) (lv' := [(4, .int y13), (3, .int y12), (2, .float y11), (0, .ref (q 0)), (1, .int x1)]) C 4 dX8_fixed_67 rfl (by rw [ey13]; rfl) (by decide) rfl ?_
            refine vi_goto (tgt := 7) C dX8_fixed_70 (by decide) ?_
            refine vi_sub C [3, 4, 2, 1, 0] rfl ?_
            exact ih _ _ _ _ _ h
          · have h := ob_t h hc7
            refine vi_aload_n C 0 dX8_fixed_46 rfl ?_
            refine vi_iload C 4 dX8_fixed_47 rfl ?_
            obtain ⟨y15, u14, hgu14, h⟩ := ob_p h
            refine vR_callf (As := [.int x4]) (rest := []) C (mX8_value C.2.2.2.2.2.2.2.2.1 hgu14) 1 rfl tcX8_value tlX8_178 tiX8_value tsX8_value rfl tnX8 tdX8_value ⟨Nat.le_of_ble_eq_true rfl, Nat.le_of_ble_eq_true rfl⟩ rfl (Nat.le_of_ble_eq_true rfl) dX8_fixed_49 ?_
            refine vi_goto (tgt := 63) C dX8_fixed_52 (by decide) ?_
            refine vi_fstore_n (lv' := [(2, .float y15), (0, .ref (q 0)), (1, .int x1), (3, .int x3), (4, .int x4)]) C dX8_fixed_63 rfl (by decide) rfl ?_
            obtain ⟨y16, ey16, h⟩ := ob_nm h
            refine vi_iinc (v := y16) (lv' := [(3, .int y16), (2, .float y15), (0, .ref (q 0)), (1, .int x1), (4, .int x4)]) C 3 dX8_fixed_64 rfl (by rw [ey16]; rfl) (by decide) rfl ?_
            obtain ⟨y17, ey17, h⟩ := ob_nm h
            refine vi_iinc (v := y17) (lv' := [(4, .int y17), (3, .int y16), (2, .float y15), (0, .ref (q 0)), (1, .int x1)]) C 4 dX8_fixed_67 rfl (by rw [ey17]; rfl) (by decide) rfl ?_
            refine vi_goto (tgt := 7) C dX8_fixed_70 (by decide) ?_
            refine vi_sub C [3, 4, 2, 1, 0] rfl ?_
            exact ih _ _ _ _ _ h
        · have h := ob_f h hc6
          refine vi_goto (tgt := 67) C dX8_fixed_39 (by decide) ?_
          obtain ⟨y18, ey18, h⟩ := ob_nm h
          refine vi_iinc (v := y18) (lv' := [(4, .int y18), (0, .ref (q 0)), (1, .int x1), (2, .float x2), (3, .int x3)]) C 4 dX8_fixed_67 rfl (by rw [ey18]; rfl) (by decide) rfl ?_
          refine vi_goto (tgt := 7) C dX8_fixed_70 (by decide) ?_
          refine vi_sub C [1, 2, 3, 4, 0] rfl ?_
          exact ih _ _ _ _ _ h
def fX8_fixed (x1 : Int32) (u : vS) : Option (UInt32 × vS) := bd ((FP.fconst0 : UInt32)) fun y1 => fX8_fixed_7 vF x1 y1 (0 : Int32) (0 : Int32) u
set_option maxRecDepth 100000 in
set_option maxHeartbeats 4000000 in
theorem kX8_fixed_e {E : (Nat → Prop) → State → Heap → Prop} {p : Program} {l : Launch} {e : Env} {s : State} {m : MethodId} {args : Array Value} {below : List Frame} {meth : Method} {c : Code} {A : Nat → Prop} {D : va_G} {cI cF cC cS cO : ClassId} {Q : State → Prop} {q : Nat → Nat} (C : vC E p l s m args meth c A D (vT5 cI cF cC cS cO) cX8_fixed 5 RX8) {r0 : UInt32} {u0 : vS} (RET : ∀ (pc : Nat) (lv : List (Nat × Value)), decode cX8_fixed pc = .ok (.freturn, 1) → vV p l e { frames := 2, cells := 0, slots := 0, locals := 36 } s m args below meth c A D 5 0 0 Q (wR q cI u0) pc lv [.float r0]) {x1 : Int32} {u : vS} (h : fX8_fixed x1 u = some (r0, u0)) : vV p l e { frames := 2, cells := 0, slots := 0, locals := 36 } s m args below meth c A D 5 0 0 Q (wR q cI u) 0 [(0, .ref (q 0)), (1, .int x1)] [] := by
  rw [fX8_fixed] at h
  refine vi_fconst0 C dX8_fixed_0 ?_
  obtain ⟨y1, ey1, h⟩ := ob_nm h
  refine vi_nmf ey1 ?_
  refine vi_fstore_n (lv' := [(2, .float y1), (0, .ref (q 0)), (1, .int x1)]) C dX8_fixed_1 rfl (by decide) rfl ?_
  refine vi_iconst (v := 0) C dX8_fixed_2 (by decide) ?_
  refine vi_istore_n (lv' := [(3, .int (0 : Int32)), (2, .float y1), (0, .ref (q 0)), (1, .int x1)]) C dX8_fixed_3 rfl (by decide) rfl ?_
  refine vi_iconst (v := 0) C dX8_fixed_4 (by decide) ?_
  refine vi_istore (lv' := [(4, .int (0 : Int32)), (3, .int (0 : Int32)), (2, .float y1), (0, .ref (q 0)), (1, .int x1)]) C dX8_fixed_5 (by decide) rfl ?_
  refine vi_sub C [3, 4, 2, 1, 0] rfl ?_
  exact kX8_fixed_7 C RET  vF _ _ _ _ _ h
theorem mX8_fixed {E : (Nat → Prop) → State → Heap → Prop} (hE : vEok E) {l : Launch} {D : va_G} {cI cF cC cS cO : ClassId} {q : Nat → Nat} {r0 : UInt32} {u0 : vS}  {x1 : Int32} {u : vS} (h : fX8_fixed x1 u = some (r0, u0)) : vM E l yX8_fixed cX8_fixed 5 (some .float) 2 36 D (vT5 cI cF cC cS cO) [.ref (q 0), .int x1] (wR q cI u) (vQf D (wR q cI u0) r0) :=
  vM_of hE (by decide +kernel) (Nat.le_of_ble_eq_true rfl) (fun p e s m args below meth c A C hr => kX8_fixed_e C (vi_retf C hr) h)
-- ---- X8_fixBits
def fX8_fixBits (x1 : Int32) (u : vS) : Option (Int32 × vS) := obp (fX8_isSailor x1 u) fun y2 u1 => (if y2 = 0 then some ((-100001 : Int32), u1) else obp (fX8_sights x1 u1) fun y5 u4 => (if (2 : Int32) ≤ y5 then obp (fX8_fixed x1 u4) fun y8 u7 => (fJxf58ca_floatToIntBits_5c35a y8).bind fun y9 => some (y9, u7) else some ((-100006 : Int32), u4)))
set_option maxRecDepth 100000 in
set_option maxHeartbeats 4000000 in
theorem kX8_fixBits_e {E : (Nat → Prop) → State → Heap → Prop} {p : Program} {l : Launch} {e : Env} {s : State} {m : MethodId} {args : Array Value} {below : List Frame} {meth : Method} {c : Code} {A : Nat → Prop} {D : va_G} {cI cF cC cS cO : ClassId} {Q : State → Prop} {q : Nat → Nat} (C : vC E p l s m args meth c A D (vT5 cI cF cC cS cO) cX8_fixBits 2 RX8) {r0 : Int32} {u0 : vS} (RET : ∀ (pc : Nat) (lv : List (Nat × Value)), decode cX8_fixBits pc = .ok (.ireturn, 1) → vV p l e { frames := 3, cells := 0, slots := 0, locals := 60 } s m args below meth c A D 2 0 0 Q (wR q cI u0) pc lv [.int r0]) {x1 : Int32} {u : vS} (h : fX8_fixBits x1 u = some (r0, u0)) : vV p l e { frames := 3, cells := 0, slots := 0, locals := 60 } s m args below meth c A D 2 0 0 Q (wR q cI u) 0 [(0, .ref (q 0)), (1, .int x1)] [] := by
  rw [fX8_fixBits] at h
  refine vi_aload_n C 0 dX8_fixBits_0 rfl ?_
  refine vi_iload_n C 1 dX8_fixBits_1 rfl ?_
  obtain ⟨y2, u1, hgu1, h⟩ := ob_p h
  refine vR_calli (As := [.int x1]) (rest := []) C (mX8_isSailor C.2.2.2.2.2.2.2.2.1 hgu1) 1 rfl tcX8_isSailor tlX8_108 tiX8_isSailor tsX8_isSailor rfl tnX8 tdX8_isSailor ⟨Nat.le_of_ble_eq_true rfl, Nat.le_of_ble_eq_true rfl⟩ rfl (Nat.le_of_ble_eq_true rfl) dX8_fixBits_2 ?_
  refine vi_if_ne (tgt := 13) C dX8_fixBits_5 (by decide) (fun hc3 => ?_) (fun hc3 => ?_)
  · have h := ob_f h hc3
    refine vi_aload_n C 0 dX8_fixBits_13 rfl ?_
    refine vi_iload_n C 1 dX8_fixBits_14 rfl ?_
    obtain ⟨y5, u4, hgu4, h⟩ := ob_p h
    refine vR_calli (As := [.int x1]) (rest := []) C (mX8_sights C.2.2.2.2.2.2.2.2.1 hgu4) 1 rfl tcX8_sights tlX8_169 tiX8_sights tsX8_sights rfl tnX8 tdX8_sights ⟨Nat.le_of_ble_eq_true rfl, Nat.le_of_ble_eq_true rfl⟩ rfl (Nat.le_of_ble_eq_true rfl) dX8_fixBits_15 ?_
    refine vi_iconst (v := 2) C dX8_fixBits_18 (by decide) ?_
    refine vi_icmp_ge (tgt := 27) C dX8_fixBits_19 (by decide) (fun hc6 => ?_) (fun hc6 => ?_)
    · have h := ob_t h hc6
      refine vi_aload_n C 0 dX8_fixBits_27 rfl ?_
      refine vi_iload_n C 1 dX8_fixBits_28 rfl ?_
      obtain ⟨y8, u7, hgu7, h⟩ := ob_p h
      refine vR_callf (As := [.int x1]) (rest := []) C (mX8_fixed C.2.2.2.2.2.2.2.2.1 hgu7) 1 rfl tcX8_fixed tlX8_182 tiX8_fixed tsX8_fixed rfl tnX8 tdX8_fixed ⟨Nat.le_of_ble_eq_true rfl, Nat.le_of_ble_eq_true rfl⟩ rfl (Nat.le_of_ble_eq_true rfl) dX8_fixBits_29 ?_
      obtain ⟨y9, hgy9, h⟩ := ob_bd h
      refine vi_callS0i (As := [.float y8]) (rest := []) C (mJxf58ca_floatToIntBits_5c35a C.2.2.2.2.2.2.2.2.1 hgy9) 1 rfl tcJxf58ca_floatToIntBits_5c35a tlX8_144 ttJxf58ca_floatToIntBits_5c35a tnJxf58ca tdJxf58ca_floatToIntBits_5c35a ⟨Nat.le_of_ble_eq_true rfl, Nat.le_of_ble_eq_true rfl⟩ rfl (Nat.le_of_ble_eq_true rfl) dX8_fixBits_32 ?_
      exact vi_donei (W := wR q cI) RET h dX8_fixBits_35
    · have h := ob_f h hc6
      refine vi_ldc (v := (-100006)) C dX8_fixBits_22 tkX8_181 ?_
      refine vi_goto (tgt := 35) C dX8_fixBits_24 (by decide) ?_
      exact vi_donei (W := wR q cI) RET h dX8_fixBits_35
  · have h := ob_t h hc3
    refine vi_ldc (v := (-100001)) C dX8_fixBits_8 tkX8_111 ?_
    refine vi_goto (tgt := 35) C dX8_fixBits_10 (by decide) ?_
    exact vi_donei (W := wR q cI) RET h dX8_fixBits_35
theorem mX8_fixBits {E : (Nat → Prop) → State → Heap → Prop} (hE : vEok E) {l : Launch} {D : va_G} {cI cF cC cS cO : ClassId} {q : Nat → Nat} {r0 : Int32} {u0 : vS}  {x1 : Int32} {u : vS} (h : fX8_fixBits x1 u = some (r0, u0)) : vM E l yX8_fixBits cX8_fixBits 2 (some .int) 3 60 D (vT5 cI cF cC cS cO) [.ref (q 0), .int x1] (wR q cI u) (vQi D (wR q cI u0) r0) :=
  vM_of hE (by decide +kernel) (Nat.le_of_ble_eq_true rfl) (fun p e s m args below meth c A C hr => kX8_fixBits_e C (vi_reti C hr) h)
-- ---- X8_fixAgain
def fX8_fixAgain (x1 : Int32) (u : vS) : Option (Int32 × vS) := obp (fX8_fixBits x1 u) fun y2 u1 => some (y2, u1)
set_option maxRecDepth 100000 in
set_option maxHeartbeats 4000000 in
theorem kX8_fixAgain_e {E : (Nat → Prop) → State → Heap → Prop} {p : Program} {l : Launch} {e : Env} {s : State} {m : MethodId} {args : Array Value} {below : List Frame} {meth : Method} {c : Code} {A : Nat → Prop} {D : va_G} {cI cF cC cS cO : ClassId} {Q : State → Prop} {q : Nat → Nat} (C : vC E p l s m args meth c A D (vT5 cI cF cC cS cO) cX8_fixAgain 2 RX8) {r0 : Int32} {u0 : vS} (RET : ∀ (pc : Nat) (lv : List (Nat × Value)), decode cX8_fixAgain pc = .ok (.ireturn, 1) → vV p l e { frames := 4, cells := 0, slots := 0, locals := 81 } s m args below meth c A D 2 0 0 Q (wR q cI u0) pc lv [.int r0]) {x1 : Int32} {u : vS} (h : fX8_fixAgain x1 u = some (r0, u0)) : vV p l e { frames := 4, cells := 0, slots := 0, locals := 81 } s m args below meth c A D 2 0 0 Q (wR q cI u) 0 [(0, .ref (q 0)), (1, .int x1)] [] := by
  rw [fX8_fixAgain] at h
  refine vi_aload_n C 0 dX8_fixAgain_0 rfl ?_
  refine vi_iload_n C 1 dX8_fixAgain_1 rfl ?_
  obtain ⟨y2, u1, hgu1, h⟩ := ob_p h
  refine vR_calli (As := [.int x1]) (rest := []) C (mX8_fixBits C.2.2.2.2.2.2.2.2.1 hgu1) 1 rfl tcX8_fixBits tlX8_185 tiX8_fixBits tsX8_fixBits rfl tnX8 tdX8_fixBits ⟨Nat.le_of_ble_eq_true rfl, Nat.le_of_ble_eq_true rfl⟩ rfl (Nat.le_of_ble_eq_true rfl) dX8_fixAgain_2 ?_
  exact vi_donei (W := wR q cI) RET h dX8_fixAgain_5
theorem mX8_fixAgain {E : (Nat → Prop) → State → Heap → Prop} (hE : vEok E) {l : Launch} {D : va_G} {cI cF cC cS cO : ClassId} {q : Nat → Nat} {r0 : Int32} {u0 : vS}  {x1 : Int32} {u : vS} (h : fX8_fixAgain x1 u = some (r0, u0)) : vM E l yX8_fixAgain cX8_fixAgain 2 (some .int) 4 81 D (vT5 cI cF cC cS cO) [.ref (q 0), .int x1] (wR q cI u) (vQi D (wR q cI u0) r0) :=
  vM_of hE (by decide +kernel) (Nat.le_of_ble_eq_true rfl) (fun p e s m args below meth c A C hr => kX8_fixAgain_e C (vi_reti C hr) h)
-- ---- X8_meet
def fX8_meet (x1 : Int32) (x2 : Int32) (u : vS) : Option (Int32 × vS) := obp (fX8_isSailor x1 u) fun y2 u1 => (if y2 = 0 then some ((-100001 : Int32), u1) else obp (fX8_isSailor x2 u1) fun y5 u4 => (if y5 = 0 then some ((-100001 : Int32), u4) else obp (fX8_sights x1 u4) fun y8 u7 => (if y8 < (2 : Int32) then some ((-100006 : Int32), u7) else obp (fX8_sights x2 u7) fun y11 u10 => (if (2 : Int32) ≤ y11 then obp (fX8_fixed x1 u10) fun y14 u13 => obp (fX8_fixed x2 u13) fun y16 u15 => if (FP.fsub y14 y16) &&& 0x7fffffff ≤ 0x7f800000 then bd ((FP.fsub y14 y16 : UInt32)) fun y18 => (if 0 ≤ Op.cmpValue (FP.fcmp y18 (1056964608 : UInt32)) CmpOp.g then some ((0 : Int32), u15) else (if Op.cmpValue (FP.fcmp y18 (3204448256 : UInt32)) CmpOp.l ≤ 0 then some ((0 : Int32), u15) else some ((1 : Int32), u15))) else none else some ((-100006 : Int32), u10)))))
set_option maxRecDepth 100000 in
set_option maxHeartbeats 4000000 in
theorem kX8_meet_e {E : (Nat → Prop) → State → Heap → Prop} {p : Program} {l : Launch} {e : Env} {s : State} {m : MethodId} {args : Array Value} {below : List Frame} {meth : Method} {c : Code} {A : Nat → Prop} {D : va_G} {cI cF cC cS cO : ClassId} {Q : State → Prop} {q : Nat → Nat} (C : vC E p l s m args meth c A D (vT5 cI cF cC cS cO) cX8_meet 4 RX8) {r0 : Int32} {u0 : vS} (RET : ∀ (pc : Nat) (lv : List (Nat × Value)), decode cX8_meet pc = .ok (.ireturn, 1) → vV p l e { frames := 3, cells := 0, slots := 0, locals := 60 } s m args below meth c A D 4 0 0 Q (wR q cI u0) pc lv [.int r0]) {x1 : Int32} {x2 : Int32} {u : vS} (h : fX8_meet x1 x2 u = some (r0, u0)) : vV p l e { frames := 3, cells := 0, slots := 0, locals := 60 } s m args below meth c A D 4 0 0 Q (wR q cI u) 0 [(0, .ref (q 0)), (1, .int x1), (2, .int x2)] [] := by
  rw [fX8_meet] at h
  refine vi_aload_n C 0 dX8_meet_0 rfl ?_
  refine vi_iload_n C 1 dX8_meet_1 rfl ?_
  obtain ⟨y2, u1, hgu1, h⟩ := ob_p h
  refine vR_calli (As := [.int x1]) (rest := []) C (mX8_isSailor C.2.2.2.2.2.2.2.2.1 hgu1) 1 rfl tcX8_isSailor tlX8_108 tiX8_isSailor tsX8_isSailor rfl tnX8 tdX8_isSailor ⟨Nat.le_of_ble_eq_true rfl, Nat.le_of_ble_eq_true rfl⟩ rfl (Nat.le_of_ble_eq_true rfl) dX8_meet_2 ?_
  refine vi_if_eq (tgt := 16) C dX8_meet_5 (by decide) (fun hc3 => ?_) (fun hc3 => ?_)
  · have h := ob_t h hc3
    refine vi_ldc (v := (-100001)) C dX8_meet_16 tkX8_111 ?_
    exact vi_donei (W := wR q cI) RET h dX8_meet_18
  · have h := ob_f h hc3
    refine vi_aload_n C 0 dX8_meet_8 rfl ?_
    refine vi_iload_n C 2 dX8_meet_9 rfl ?_
    obtain ⟨y5, u4, hgu4, h⟩ := ob_p h
    refine vR_calli (As := [.int x2]) (rest := []) C (mX8_isSailor C.2.2.2.2.2.2.2.2.1 hgu4) 1 rfl tcX8_isSailor tlX8_108 tiX8_isSailor tsX8_isSailor rfl tnX8 tdX8_isSailor ⟨Nat.le_of_ble_eq_true rfl, Nat.le_of_ble_eq_true rfl⟩ rfl (Nat.le_of_ble_eq_true rfl) dX8_meet_10 ?_
    refine vi_if_ne (tgt := 19) C dX8_meet_13 (by decide) (fun hc6 => ?_) (fun hc6 => ?_)
    · have h := ob_f h hc6
      refine vi_aload_n C 0 dX8_meet_19 rfl ?_
      refine vi_iload_n C 1 dX8_meet_20 rfl ?_
      obtain ⟨y8, u7, hgu7, h⟩ := ob_p h
      refine vR_calli (As := [.int x1]) (rest := []) C (mX8_sights C.2.2.2.2.2.2.2.2.1 hgu7) 1 rfl tcX8_sights tlX8_169 tiX8_sights tsX8_sights rfl tnX8 tdX8_sights ⟨Nat.le_of_ble_eq_true rfl, Nat.le_of_ble_eq_true rfl⟩ rfl (Nat.le_of_ble_eq_true rfl) dX8_meet_21 ?_
      refine vi_iconst (v := 2) C dX8_meet_24 (by decide) ?_
      refine vi_icmp_lt (tgt := 37) C dX8_meet_25 (by decide) (fun hc9 => ?_) (fun hc9 => ?_)
      · have h := ob_t h hc9
        refine vi_ldc (v := (-100006)) C dX8_meet_37 tkX8_181 ?_
        exact vi_donei (W := wR q cI) RET h dX8_meet_39
      · have h := ob_f h hc9
        refine vi_aload_n C 0 dX8_meet_28 rfl ?_
        refine vi_iload_n C 2 dX8_meet_29 rfl ?_
        obtain ⟨y11, u10, hgu10, h⟩ := ob_p h
        refine vR_calli (As := [.int x2]) (rest := []) C (mX8_sights C.2.2.2.2.2.2.2.2.1 hgu10) 1 rfl tcX8_sights tlX8_169 tiX8_sights tsX8_sights rfl tnX8 tdX8_sights ⟨Nat.le_of_ble_eq_true rfl, Nat.le_of_ble_eq_true rfl⟩ rfl (Nat.le_of_ble_eq_true rfl) dX8_meet_30 ?_
        refine vi_iconst (v := 2) C dX8_meet_33 (by decide) ?_
        refine vi_icmp_ge (tgt := 40) C dX8_meet_34 (by decide) (fun hc12 => ?_) (fun hc12 => ?_)
        · have h := ob_t h hc12
          refine vi_aload_n C 0 dX8_meet_40 rfl ?_
          refine vi_iload_n C 1 dX8_meet_41 rfl ?_
          obtain ⟨y14, u13, hgu13, h⟩ := ob_p h
          refine vR_callf (As := [.int x1]) (rest := []) C (mX8_fixed C.2.2.2.2.2.2.2.2.1 hgu13) 1 rfl tcX8_fixed tlX8_182 tiX8_fixed tsX8_fixed rfl tnX8 tdX8_fixed ⟨Nat.le_of_ble_eq_true rfl, Nat.le_of_ble_eq_true rfl⟩ rfl (Nat.le_of_ble_eq_true rfl) dX8_meet_42 ?_
          refine vi_aload_n C 0 dX8_meet_45 rfl ?_
          refine vi_iload_n C 2 dX8_meet_46 rfl ?_
          obtain ⟨y16, u15, hgu15, h⟩ := ob_p h
          refine vR_callf (As := [.int x2]) (rest := [.float y14]) C (mX8_fixed C.2.2.2.2.2.2.2.2.1 hgu15) 1 rfl tcX8_fixed tlX8_182 tiX8_fixed tsX8_fixed rfl tnX8 tdX8_fixed ⟨Nat.le_of_ble_eq_true rfl, Nat.le_of_ble_eq_true rfl⟩ rfl (Nat.le_of_ble_eq_true rfl) dX8_meet_47 ?_
          obtain ⟨hz17, h⟩ := ob_ok h
          refine vi_fsub C dX8_meet_50 hz17 ?_
          obtain ⟨y18, ey18, h⟩ := ob_nm h
          refine vi_nmf ey18 ?_
          refine vi_fstore_n (lv' := [(3, .float y18), (0, .ref (q 0)), (1, .int x1), (2, .int x2)]) C dX8_meet_51 rfl (by decide) rfl ?_
          refine vi_fload_n C 0 dX8_meet_52 rfl ?_
          refine vi_ldcf (v := 1056964608) C dX8_meet_53 tkX8_188 ?_
          refine vi_fcmp C dX8_meet_55 ?_
          refine vi_if_ge (tgt := 70) C dX8_meet_56 (by decide) (fun hc19 => ?_) (fun hc19 => ?_)
          · have h := ob_t h hc19
            refine vi_iconst (v := 0) C dX8_meet_70 (by decide) ?_
            exact vi_donei (W := wR q cI) RET h dX8_meet_71
          · have h := ob_f h hc19
            refine vi_fload_n C 0 dX8_meet_59 rfl ?_
            refine vi_ldcf (v := 3204448256) C dX8_meet_60 tkX8_189 ?_
            refine vi_fcmp C dX8_meet_62 ?_
            refine vi_if_le (tgt := 70) C dX8_meet_63 (by decide) (fun hc20 => ?_) (fun hc20 => ?_)
            · have h := ob_t h hc20
              refine vi_iconst (v := 0) C dX8_meet_70 (by decide) ?_
              exact vi_donei (W := wR q cI) RET h dX8_meet_71
            · have h := ob_f h hc20
              refine vi_iconst (v := 1) C dX8_meet_66 (by decide) ?_
              refine vi_goto (tgt := 71) C dX8_meet_67 (by decide) ?_
              exact vi_donei (W := wR q cI) RET h dX8_meet_71
        · have h := ob_f h hc12
          refine vi_ldc (v := (-100006)) C dX8_meet_37 tkX8_181 ?_
          exact vi_donei (W := wR q cI) RET h dX8_meet_39
    · have h := ob_t h hc6
      refine vi_ldc (v := (-100001)) C dX8_meet_16 tkX8_111 ?_
      exact vi_donei (W := wR q cI) RET h dX8_meet_18
theorem mX8_meet {E : (Nat → Prop) → State → Heap → Prop} (hE : vEok E) {l : Launch} {D : va_G} {cI cF cC cS cO : ClassId} {q : Nat → Nat} {r0 : Int32} {u0 : vS}  {x1 : Int32} {x2 : Int32} {u : vS} (h : fX8_meet x1 x2 u = some (r0, u0)) : vM E l yX8_meet cX8_meet 4 (some .int) 3 60 D (vT5 cI cF cC cS cO) [.ref (q 0), .int x1, .int x2] (wR q cI u) (vQi D (wR q cI u0) r0) :=
  vM_of hE (by decide +kernel) (Nat.le_of_ble_eq_true rfl) (fun p e s m args below meth c A C hr => kX8_meet_e C (vi_reti C hr) h)
-- ---- X8_unlike
def fX8_unlike (x1 : Int32) (x2 : Int32) (u : vS) : Option (Int32 × vS) := obp (fX8_isSailor x1 u) fun y2 u1 => (if y2 = 0 then some ((-100001 : Int32), u1) else obp (fX8_isSailor x2 u1) fun y5 u4 => (if y5 = 0 then some ((-100001 : Int32), u4) else obp (fX8_differs x1 x2 u4) fun y8 u7 => some (y8, u7)))
set_option maxRecDepth 100000 in
set_option maxHeartbeats 4000000 in
theorem kX8_unlike_e {E : (Nat → Prop) → State → Heap → Prop} {p : Program} {l : Launch} {e : Env} {s : State} {m : MethodId} {args : Array Value} {below : List Frame} {meth : Method} {c : Code} {A : Nat → Prop} {D : va_G} {cI cF cC cS cO : ClassId} {Q : State → Prop} {q : Nat → Nat} (C : vC E p l s m args meth c A D (vT5 cI cF cC cS cO) cX8_unlike 3 RX8) {r0 : Int32} {u0 : vS} (RET : ∀ (pc : Nat) (lv : List (Nat × Value)), decode cX8_unlike pc = .ok (.ireturn, 1) → vV p l e { frames := 2, cells := 0, slots := 0, locals := 44 } s m args below meth c A D 3 0 0 Q (wR q cI u0) pc lv [.int r0]) {x1 : Int32} {x2 : Int32} {u : vS} (h : fX8_unlike x1 x2 u = some (r0, u0)) : vV p l e { frames := 2, cells := 0, slots := 0, locals := 44 } s m args below meth c A D 3 0 0 Q (wR q cI u) 0 [(0, .ref (q 0)), (1, .int x1), (2, .int x2)] [] := by
  rw [fX8_unlike] at h
  refine vi_aload_n C 0 dX8_unlike_0 rfl ?_
  refine vi_iload_n C 1 dX8_unlike_1 rfl ?_
  obtain ⟨y2, u1, hgu1, h⟩ := ob_p h
  refine vR_calli (As := [.int x1]) (rest := []) C (mX8_isSailor C.2.2.2.2.2.2.2.2.1 hgu1) 1 rfl tcX8_isSailor tlX8_108 tiX8_isSailor tsX8_isSailor rfl tnX8 tdX8_isSailor ⟨Nat.le_of_ble_eq_true rfl, Nat.le_of_ble_eq_true rfl⟩ rfl (Nat.le_of_ble_eq_true rfl) dX8_unlike_2 ?_
  refine vi_if_eq (tgt := 25) C dX8_unlike_5 (by decide) (fun hc3 => ?_) (fun hc3 => ?_)
  · have h := ob_t h hc3
    refine vi_ldc (v := (-100001)) C dX8_unlike_25 tkX8_111 ?_
    exact vi_donei (W := wR q cI) RET h dX8_unlike_27
  · have h := ob_f h hc3
    refine vi_aload_n C 0 dX8_unlike_8 rfl ?_
    refine vi_iload_n C 2 dX8_unlike_9 rfl ?_
    obtain ⟨y5, u4, hgu4, h⟩ := ob_p h
    refine vR_calli (As := [.int x2]) (rest := []) C (mX8_isSailor C.2.2.2.2.2.2.2.2.1 hgu4) 1 rfl tcX8_isSailor tlX8_108 tiX8_isSailor tsX8_isSailor rfl tnX8 tdX8_isSailor ⟨Nat.le_of_ble_eq_true rfl, Nat.le_of_ble_eq_true rfl⟩ rfl (Nat.le_of_ble_eq_true rfl) dX8_unlike_10 ?_
    refine vi_if_eq (tgt := 25) C dX8_unlike_13 (by decide) (fun hc6 => ?_) (fun hc6 => ?_)
    · have h := ob_t h hc6
      refine vi_ldc (v := (-100001)) C dX8_unlike_25 tkX8_111 ?_
      exact vi_donei (W := wR q cI) RET h dX8_unlike_27
    · have h := ob_f h hc6
      refine vi_aload_n C 0 dX8_unlike_16 rfl ?_
      refine vi_iload_n C 1 dX8_unlike_17 rfl ?_
      refine vi_iload_n C 2 dX8_unlike_18 rfl ?_
      obtain ⟨y8, u7, hgu7, h⟩ := ob_p h
      refine vR_calli (As := [.int x1, .int x2]) (rest := []) C (mX8_differs C.2.2.2.2.2.2.2.2.1 hgu7) 2 rfl tcX8_differs tlX8_163 tiX8_differs tsX8_differs rfl tnX8 tdX8_differs ⟨Nat.le_of_ble_eq_true rfl, Nat.le_of_ble_eq_true rfl⟩ rfl (Nat.le_of_ble_eq_true rfl) dX8_unlike_19 ?_
      refine vi_goto (tgt := 27) C dX8_unlike_22 (by decide) ?_
      exact vi_donei (W := wR q cI) RET h dX8_unlike_27
theorem mX8_unlike {E : (Nat → Prop) → State → Heap → Prop} (hE : vEok E) {l : Launch} {D : va_G} {cI cF cC cS cO : ClassId} {q : Nat → Nat} {r0 : Int32} {u0 : vS}  {x1 : Int32} {x2 : Int32} {u : vS} (h : fX8_unlike x1 x2 u = some (r0, u0)) : vM E l yX8_unlike cX8_unlike 3 (some .int) 2 44 D (vT5 cI cF cC cS cO) [.ref (q 0), .int x1, .int x2] (wR q cI u) (vQi D (wR q cI u0) r0) :=
  vM_of hE (by decide +kernel) (Nat.le_of_ble_eq_true rfl) (fun p e s m args below meth c A C hr => kX8_unlike_e C (vi_reti C hr) h)
-- ---- X8_unlikeAgain
def fX8_unlikeAgain (x1 : Int32) (x2 : Int32) (u : vS) : Option (Int32 × vS) := obp (fX8_unlike x1 x2 u) fun y2 u1 => some (y2, u1)
set_option maxRecDepth 100000 in
set_option maxHeartbeats 4000000 in
theorem kX8_unlikeAgain_e {E : (Nat → Prop) → State → Heap → Prop} {p : Program} {l : Launch} {e : Env} {s : State} {m : MethodId} {args : Array Value} {below : List Frame} {meth : Method} {c : Code} {A : Nat → Prop} {D : va_G} {cI cF cC cS cO : ClassId} {Q : State → Prop} {q : Nat → Nat} (C : vC E p l s m args meth c A D (vT5 cI cF cC cS cO) cX8_unlikeAgain 3 RX8) {r0 : Int32} {u0 : vS} (RET : ∀ (pc : Nat) (lv : List (Nat × Value)), decode cX8_unlikeAgain pc = .ok (.ireturn, 1) → vV p l e { frames := 3, cells := 0, slots := 0, locals := 66 } s m args below meth c A D 3 0 0 Q (wR q cI u0) pc lv [.int r0]) {x1 : Int32} {x2 : Int32} {u : vS} (h : fX8_unlikeAgain x1 x2 u = some (r0, u0)) : vV p l e { frames := 3, cells := 0, slots := 0, locals := 66 } s m args below meth c A D 3 0 0 Q (wR q cI u) 0 [(0, .ref (q 0)), (1, .int x1), (2, .int x2)] [] := by
  rw [fX8_unlikeAgain] at h
  refine vi_aload_n C 0 dX8_unlikeAgain_0 rfl ?_
  refine vi_iload_n C 1 dX8_unlikeAgain_1 rfl ?_
  refine vi_iload_n C 2 dX8_unlikeAgain_2 rfl ?_
  obtain ⟨y2, u1, hgu1, h⟩ := ob_p h
  refine vR_calli (As := [.int x1, .int x2]) (rest := []) C (mX8_unlike C.2.2.2.2.2.2.2.2.1 hgu1) 2 rfl tcX8_unlike tlX8_190 tiX8_unlike tsX8_unlike rfl tnX8 tdX8_unlike ⟨Nat.le_of_ble_eq_true rfl, Nat.le_of_ble_eq_true rfl⟩ rfl (Nat.le_of_ble_eq_true rfl) dX8_unlikeAgain_3 ?_
  exact vi_donei (W := wR q cI) RET h dX8_unlikeAgain_6
theorem mX8_unlikeAgain {E : (Nat → Prop) → State → Heap → Prop} (hE : vEok E) {l : Launch} {D : va_G} {cI cF cC cS cO : ClassId} {q : Nat → Nat} {r0 : Int32} {u0 : vS}  {x1 : Int32} {x2 : Int32} {u : vS} (h : fX8_unlikeAgain x1 x2 u = some (r0, u0)) : vM E l yX8_unlikeAgain cX8_unlikeAgain 3 (some .int) 3 66 D (vT5 cI cF cC cS cO) [.ref (q 0), .int x1, .int x2] (wR q cI u) (vQi D (wR q cI u0) r0) :=
  vM_of hE (by decide +kernel) (Nat.le_of_ble_eq_true rfl) (fun p e s m args below meth c A C hr => kX8_unlikeAgain_e C (vi_reti C hr) h)
-- ---- X8_closest
def fX8_closest_78 (rec_40 : Int32 → Int32 → Int32 → Int32 → Int32 → vS → Option (Int32 × vS)) (x1 : Int32) (x2 : Int32) (x3 : Int32) (x4 : Int32) (x5 : Int32) (x6 : Int32) (u : vS) : Option (Int32 × vS) := (if x2 ≤ x5 then (fX8_turned x3).bind fun y2 => bd ((x4 + 1 : Int32)) fun y3 => rec_40 x1 x6 x2 y2 y3 u else (fX8_turned x3).bind fun y4 => bd ((x4 + 1 : Int32)) fun y5 => rec_40 x1 x6 x5 y4 y5 u)
set_option maxRecDepth 100000 in
set_option maxHeartbeats 4000000 in
theorem kX8_closest_78 {E : (Nat → Prop) → State → Heap → Prop} {p : Program} {l : Launch} {e : Env} {s : State} {m : MethodId} {args : Array Value} {below : List Frame} {meth : Method} {c : Code} {A : Nat → Prop} {D : va_G} {cI cF cC cS cO : ClassId} {Q : State → Prop} {q : Nat → Nat} (C : vC E p l s m args meth c A D (vT5 cI cF cC cS cO) cX8_closest 8 RX8) {r0 : Int32} {u0 : vS} (RET : ∀ (pc : Nat) (lv : List (Nat × Value)), decode cX8_closest pc = .ok (.ireturn, 1) → vV p l e { frames := 2, cells := 0, slots := 0, locals := 43 } s m args below meth c A D 8 0 0 Q (wR q cI u0) pc lv [.int r0]) {rec_40 : Int32 → Int32 → Int32 → Int32 → Int32 → vS → Option (Int32 × vS)} (REC_40 : ∀ (x1 : Int32) (x2 : Int32) (x3 : Int32) (x4 : Int32) (x5 : Int32) (u : vS), rec_40 x1 x2 x3 x4 x5 u = some (r0, u0) → vV p l e { frames := 2, cells := 0, slots := 0, locals := 43 } s m args below meth c A D 8 0 0 Q (wR q cI u) 40 [(0, .ref (q 0)), (2, .int x1), (3, .int x2), (4, .int x3), (5, .int x4), (6, .int x5)] []) : ∀ (x1 : Int32) (x2 : Int32) (x3 : Int32) (x4 : Int32) (x5 : Int32) (x6 : Int32) (u : vS), fX8_closest_78 rec_40 x1 x2 x3 x4 x5 x6 u = some (r0, u0) → vV p l e { frames := 2, cells := 0, slots := 0, locals := 43 } s m args below meth c A D 8 0 0 Q (wR q cI u) 78 [(0, .ref (q 0)), (2, .int x1), (4, .int x2), (5, .int x3), (6, .int x4), (7, .int x5)] [.int x6] := by
  intro x1 x2 x3 x4 x5 x6 u h
  rw [fX8_closest_78] at h
  refine vi_istore_n (lv' := [(3, .int x6), (0, .ref (q 0)), (2, .int x1), (4, .int x2), (5, .int x3), (6, .int x4), (7, .int x5)]) C dX8_closest_78 rfl (by decide) rfl ?_
  refine vi_iload C 6 dX8_closest_79 rfl ?_
  refine vi_iload C 3 dX8_closest_81 rfl ?_
  refine vi_icmp_ge (tgt := 91) C dX8_closest_83 (by decide) (fun hc1 => ?_) (fun hc1 => ?_)
  · have h := ob_t h hc1
    refine vi_iload C 3 dX8_closest_91 rfl ?_
    refine vi_istore (lv' := [(4, .int x2), (3, .int x6), (0, .ref (q 0)), (2, .int x1), (5, .int x3), (6, .int x4), (7, .int x5)]) C dX8_closest_93 (by decide) rfl ?_
    refine vi_iload C 4 dX8_closest_95 rfl ?_
    obtain ⟨y2, hgy2, h⟩ := ob_bd h
    refine vi_callS0i (As := [.int x3]) (rest := []) C (mX8_turned C.2.2.2.2.2.2.2.2.1 hgy2) 1 rfl tcX8_turned tlX8_153 ttX8_turned tnX8 tdX8_turned ⟨Nat.le_of_ble_eq_true rfl, Nat.le_of_ble_eq_true rfl⟩ rfl (Nat.le_of_ble_eq_true rfl) dX8_closest_97 ?_
    refine vi_istore (lv' := [(5, .int y2), (4, .int x2), (3, .int x6), (0, .ref (q 0)), (2, .int x1), (6, .int x4), (7, .int x5)]) C dX8_closest_100 (by decide) rfl ?_
    obtain ⟨y3, ey3, h⟩ := ob_nm h
    refine vi_iinc (v := y3) (lv' := [(6, .int y3), (5, .int y2), (4, .int x2), (3, .int x6), (0, .ref (q 0)), (2, .int x1), (7, .int x5)]) C 5 dX8_closest_102 rfl (by rw [ey3]; rfl) (by decide) rfl ?_
    refine vi_goto (tgt := 40) C dX8_closest_105 (by decide) ?_
    refine vi_sub C [4, 5, 3, 2, 1, 0] rfl ?_
    exact REC_40 _ _ _ _ _ _ h
  · have h := ob_f h hc1
    refine vi_iload C 6 dX8_closest_86 rfl ?_
    refine vi_goto (tgt := 93) C dX8_closest_88 (by decide) ?_
    refine vi_istore (lv' := [(4, .int x5), (3, .int x6), (0, .ref (q 0)), (2, .int x1), (5, .int x3), (6, .int x4), (7, .int x5)]) C dX8_closest_93 (by decide) rfl ?_
    refine vi_iload C 4 dX8_closest_95 rfl ?_
    obtain ⟨y4, hgy4, h⟩ := ob_bd h
    refine vi_callS0i (As := [.int x3]) (rest := []) C (mX8_turned C.2.2.2.2.2.2.2.2.1 hgy4) 1 rfl tcX8_turned tlX8_153 ttX8_turned tnX8 tdX8_turned ⟨Nat.le_of_ble_eq_true rfl, Nat.le_of_ble_eq_true rfl⟩ rfl (Nat.le_of_ble_eq_true rfl) dX8_closest_97 ?_
    refine vi_istore (lv' := [(5, .int y4), (4, .int x5), (3, .int x6), (0, .ref (q 0)), (2, .int x1), (6, .int x4), (7, .int x5)]) C dX8_closest_100 (by decide) rfl ?_
    obtain ⟨y5, ey5, h⟩ := ob_nm h
    refine vi_iinc (v := y5) (lv' := [(6, .int y5), (5, .int y4), (4, .int x5), (3, .int x6), (0, .ref (q 0)), (2, .int x1), (7, .int x5)]) C 5 dX8_closest_102 rfl (by rw [ey5]; rfl) (by decide) rfl ?_
    refine vi_goto (tgt := 40) C dX8_closest_105 (by decide) ?_
    refine vi_sub C [4, 5, 3, 2, 1, 0] rfl ?_
    exact REC_40 _ _ _ _ _ _ h
def fX8_closest_40 : Nat → Int32 → Int32 → Int32 → Int32 → Int32 → vS → Option (Int32 × vS)
  | 0, _, _, _, _, _, _ => none
  | n + 1, x1, x2, x3, x4, x5, u => (if (16 : Int32) ≤ x5 then some (x2, u) else (fX8_at x1 (0 : Int32)).bind fun y2 => if y2 < 0 ∨ 66 ≤ Int32.toNatClampNeg y2 then none else (fX8_bits (x4 ^^^ (u 1 (Int32.toNatClampNeg y2)))).bind fun y4 => (if x3 ≤ y4 then fX8_closest_78 (fun a0 a1 a2 a3 a4 a5 => fX8_closest_40 n  a0 a1 a2 a3 a4 a5) x1 x3 x4 x5 y4 x2 u else fX8_closest_78 (fun a0 a1 a2 a3 a4 a5 => fX8_closest_40 n  a0 a1 a2 a3 a4 a5) x1 x3 x4 x5 y4 x5 u))
set_option maxRecDepth 100000 in
set_option maxHeartbeats 4000000 in
theorem kX8_closest_40 {E : (Nat → Prop) → State → Heap → Prop} {p : Program} {l : Launch} {e : Env} {s : State} {m : MethodId} {args : Array Value} {below : List Frame} {meth : Method} {c : Code} {A : Nat → Prop} {D : va_G} {cI cF cC cS cO : ClassId} {Q : State → Prop} {q : Nat → Nat} (C : vC E p l s m args meth c A D (vT5 cI cF cC cS cO) cX8_closest 8 RX8) {r0 : Int32} {u0 : vS} (RET : ∀ (pc : Nat) (lv : List (Nat × Value)), decode cX8_closest pc = .ok (.ireturn, 1) → vV p l e { frames := 2, cells := 0, slots := 0, locals := 43 } s m args below meth c A D 8 0 0 Q (wR q cI u0) pc lv [.int r0]) : ∀ (n : Nat) (x1 : Int32) (x2 : Int32) (x3 : Int32) (x4 : Int32) (x5 : Int32) (u : vS), fX8_closest_40 n x1 x2 x3 x4 x5 u = some (r0, u0) → vV p l e { frames := 2, cells := 0, slots := 0, locals := 43 } s m args below meth c A D 8 0 0 Q (wR q cI u) 40 [(0, .ref (q 0)), (2, .int x1), (3, .int x2), (4, .int x3), (5, .int x4), (6, .int x5)] [] := by
  intro n
  induction n with
  | zero => intro x1 x2 x3 x4 x5 u h; rw [fX8_closest_40] at h; cases h
  | succ n ih =>
    intro x1 x2 x3 x4 x5 u h
    rw [fX8_closest_40] at h
    refine vi_iload C 5 dX8_closest_40 rfl ?_
    refine vi_bipush (v := 16) C dX8_closest_42 (by decide) ?_
    refine vi_icmp_ge (tgt := 108) C dX8_closest_44 (by decide) (fun hc1 => ?_) (fun hc1 => ?_)
    · have h := ob_t h hc1
      refine vi_iload_n C 2 dX8_closest_108 rfl ?_
      exact vi_donei (W := wR q cI) RET h dX8_closest_109
    · have h := ob_f h hc1
      refine vi_iload C 4 dX8_closest_47 rfl ?_
      refine vi_aload_n C 0 dX8_closest_49 rfl ?_
      refine gR_8 C dX8_closest_50 ?_
      refine vi_iload_n C 1 dX8_closest_53 rfl ?_
      refine vi_iconst (v := 0) C dX8_closest_54 (by decide) ?_
      obtain ⟨y2, hgy2, h⟩ := ob_bd h
      refine vi_callS0i (As := [.int x1, .int (0 : Int32)]) (rest := [.ref (q 1), .int x4]) C (mX8_at C.2.2.2.2.2.2.2.2.1 hgy2) 2 rfl tcX8_at tlX8_73 ttX8_at tnX8 tdX8_at ⟨Nat.le_of_ble_eq_true rfl, Nat.le_of_ble_eq_true rfl⟩ rfl (Nat.le_of_ble_eq_true rfl) dX8_closest_55 ?_
      obtain ⟨hz3, h⟩ := ob_if h
      refine lR_1 (n := (Int32.toNatClampNeg y2)) C hz3 rfl dX8_closest_58 ?_
      refine vi_ixor C dX8_closest_59 ?_
      obtain ⟨y4, hgy4, h⟩ := ob_bd h
      refine vi_callS0i (As := [.int (x4 ^^^ (u 1 (Int32.toNatClampNeg y2)))]) (rest := []) C (mX8_bits C.2.2.2.2.2.2.2.2.1 hgy4) 1 rfl tcX8_bits tlX8_77 ttX8_bits tnX8 tdX8_bits ⟨Nat.le_of_ble_eq_true rfl, Nat.le_of_ble_eq_true rfl⟩ rfl (Nat.le_of_ble_eq_true rfl) dX8_closest_60 ?_
      refine vi_istore (lv' := [(7, .int y4), (0, .ref (q 0)), (2, .int x1), (3, .int x2), (4, .int x3), (5, .int x4), (6, .int x5)]) C dX8_closest_63 (by decide) rfl ?_
      refine vi_iload C 0 dX8_closest_65 rfl ?_
      refine vi_iload C 4 dX8_closest_67 rfl ?_
      refine vi_icmp_ge (tgt := 77) C dX8_closest_69 (by decide) (fun hc5 => ?_) (fun hc5 => ?_)
      · have h := ob_t h hc5
        refine vi_iload_n C 3 dX8_closest_77 rfl ?_
        refine vi_sub C [1, 2, 4, 5, 6, 0] rfl ?_
        exact kX8_closest_78 C RET ih  _ _ _ _ _ _ _ h
      · have h := ob_f h hc5
        refine vi_iload C 6 dX8_closest_72 rfl ?_
        refine vi_goto (tgt := 78) C dX8_closest_74 (by decide) ?_
        refine vi_sub C [1, 2, 4, 5, 6, 0] rfl ?_
        exact kX8_closest_78 C RET ih  _ _ _ _ _ _ _ h
def fX8_closest (x1 : Int32) (x2 : Int32) (u : vS) : Option (Int32 × vS) := obp (fX8_isSailor x1 u) fun y2 u1 => (if y2 = 0 then some ((-100001 : Int32), u1) else obp (fX8_isSailor x2 u1) fun y5 u4 => (if y5 = 0 then some ((-100001 : Int32), u4) else (fX8_at x1 (0 : Int32)).bind fun y7 => if y7 < 0 ∨ 66 ≤ Int32.toNatClampNeg y7 then none else bd ((u4 1 (Int32.toNatClampNeg y7) : Int32)) fun y9 => fX8_closest_40 vF x2 (0 : Int32) (17 : Int32) y9 (0 : Int32) u4))
set_option maxRecDepth 100000 in
set_option maxHeartbeats 4000000 in
theorem kX8_closest_e {E : (Nat → Prop) → State → Heap → Prop} {p : Program} {l : Launch} {e : Env} {s : State} {m : MethodId} {args : Array Value} {below : List Frame} {meth : Method} {c : Code} {A : Nat → Prop} {D : va_G} {cI cF cC cS cO : ClassId} {Q : State → Prop} {q : Nat → Nat} (C : vC E p l s m args meth c A D (vT5 cI cF cC cS cO) cX8_closest 8 RX8) {r0 : Int32} {u0 : vS} (RET : ∀ (pc : Nat) (lv : List (Nat × Value)), decode cX8_closest pc = .ok (.ireturn, 1) → vV p l e { frames := 2, cells := 0, slots := 0, locals := 43 } s m args below meth c A D 8 0 0 Q (wR q cI u0) pc lv [.int r0]) {x1 : Int32} {x2 : Int32} {u : vS} (h : fX8_closest x1 x2 u = some (r0, u0)) : vV p l e { frames := 2, cells := 0, slots := 0, locals := 43 } s m args below meth c A D 8 0 0 Q (wR q cI u) 0 [(0, .ref (q 0)), (1, .int x1), (2, .int x2)] [] := by
  rw [fX8_closest] at h
  refine vi_aload_n C 0 dX8_closest_0 rfl ?_
  refine vi_iload_n C 1 dX8_closest_1 rfl ?_
  obtain ⟨y2, u1, hgu1, h⟩ := ob_p h
  refine vR_calli (As := [.int x1]) (rest := []) C (mX8_isSailor C.2.2.2.2.2.2.2.2.1 hgu1) 1 rfl tcX8_isSailor tlX8_108 tiX8_isSailor tsX8_isSailor rfl tnX8 tdX8_isSailor ⟨Nat.le_of_ble_eq_true rfl, Nat.le_of_ble_eq_true rfl⟩ rfl (Nat.le_of_ble_eq_true rfl) dX8_closest_2 ?_
  refine vi_if_eq (tgt := 16) C dX8_closest_5 (by decide) (fun hc3 => ?_) (fun hc3 => ?_)
  · have h := ob_t h hc3
    refine vi_ldc (v := (-100001)) C dX8_closest_16 tkX8_111 ?_
    exact vi_donei (W := wR q cI) RET h dX8_closest_18
  · have h := ob_f h hc3
    refine vi_aload_n C 0 dX8_closest_8 rfl ?_
    refine vi_iload_n C 2 dX8_closest_9 rfl ?_
    obtain ⟨y5, u4, hgu4, h⟩ := ob_p h
    refine vR_calli (As := [.int x2]) (rest := []) C (mX8_isSailor C.2.2.2.2.2.2.2.2.1 hgu4) 1 rfl tcX8_isSailor tlX8_108 tiX8_isSailor tsX8_isSailor rfl tnX8 tdX8_isSailor ⟨Nat.le_of_ble_eq_true rfl, Nat.le_of_ble_eq_true rfl⟩ rfl (Nat.le_of_ble_eq_true rfl) dX8_closest_10 ?_
    refine vi_if_ne (tgt := 19) C dX8_closest_13 (by decide) (fun hc6 => ?_) (fun hc6 => ?_)
    · have h := ob_f h hc6
      refine vi_iconst (v := 0) C dX8_closest_19 (by decide) ?_
      refine vi_istore_n (lv' := [(3, .int (0 : Int32)), (0, .ref (q 0)), (1, .int x1), (2, .int x2)]) C dX8_closest_20 rfl (by decide) rfl ?_
      refine vi_bipush (v := 17) C dX8_closest_21 (by decide) ?_
      refine vi_istore (lv' := [(4, .int (17 : Int32)), (3, .int (0 : Int32)), (0, .ref (q 0)), (1, .int x1), (2, .int x2)]) C dX8_closest_23 (by decide) rfl ?_
      refine vi_aload_n C 2 dX8_closest_25 rfl ?_
      refine gR_8 C dX8_closest_26 ?_
      refine vi_iload_n C 3 dX8_closest_29 rfl ?_
      refine vi_iconst (v := 0) C dX8_closest_30 (by decide) ?_
      obtain ⟨y7, hgy7, h⟩ := ob_bd h
      refine vi_callS0i (As := [.int x1, .int (0 : Int32)]) (rest := [.ref (q 1)]) C (mX8_at C.2.2.2.2.2.2.2.2.1 hgy7) 2 rfl tcX8_at tlX8_73 ttX8_at tnX8 tdX8_at ⟨Nat.le_of_ble_eq_true rfl, Nat.le_of_ble_eq_true rfl⟩ rfl (Nat.le_of_ble_eq_true rfl) dX8_closest_31 ?_
      obtain ⟨hz8, h⟩ := ob_if h
      refine lR_1 (n := (Int32.toNatClampNeg y7)) C hz8 rfl dX8_closest_34 ?_
      obtain ⟨y9, ey9, h⟩ := ob_nm h
      refine vi_nmi ey9 ?_
      refine vi_istore (lv' := [(5, .int y9), (4, .int (17 : Int32)), (3, .int (0 : Int32)), (0, .ref (q 0)), (1, .int x1), (2, .int x2)]) C dX8_closest_35 (by decide) rfl ?_
      refine vi_iconst (v := 0) C dX8_closest_37 (by decide) ?_
      refine vi_istore (lv' := [(6, .int (0 : Int32)), (5, .int y9), (4, .int (17 : Int32)), (3, .int (0 : Int32)), (0, .ref (q 0)), (1, .int x1), (2, .int x2)]) C dX8_closest_38 (by decide) rfl ?_
      refine vi_sub C [4, 6, 3, 2, 1, 0] rfl ?_
      exact kX8_closest_40 C RET  vF _ _ _ _ _ _ h
    · have h := ob_t h hc6
      refine vi_ldc (v := (-100001)) C dX8_closest_16 tkX8_111 ?_
      exact vi_donei (W := wR q cI) RET h dX8_closest_18
theorem mX8_closest {E : (Nat → Prop) → State → Heap → Prop} (hE : vEok E) {l : Launch} {D : va_G} {cI cF cC cS cO : ClassId} {q : Nat → Nat} {r0 : Int32} {u0 : vS}  {x1 : Int32} {x2 : Int32} {u : vS} (h : fX8_closest x1 x2 u = some (r0, u0)) : vM E l yX8_closest cX8_closest 8 (some .int) 2 43 D (vT5 cI cF cC cS cO) [.ref (q 0), .int x1, .int x2] (wR q cI u) (vQi D (wR q cI u0) r0) :=
  vM_of hE (by decide +kernel) (Nat.le_of_ble_eq_true rfl) (fun p e s m args below meth c A C hr => kX8_closest_e C (vi_reti C hr) h)
-- ---- X8_lays_4_1
def fX8_lays_4_1_2 : Nat → Int32 → vS → Option (vS)
  | 0, _, _ => none
  | n + 1, x1, u => (if (66 : Int32) ≤ x1 then some u else if x1 < 0 ∨ 66 ≤ Int32.toNatClampNeg x1 then none else if x1 < 0 ∨ 66 ≤ Int32.toNatClampNeg x1 then none else bd (up2 u 4 (Int32.toNatClampNeg x1) (u 1 (Int32.toNatClampNeg x1))) fun u4 => bd ((x1 + 1 : Int32)) fun y5 => fX8_lays_4_1_2 n y5 u4)
set_option maxRecDepth 100000 in
set_option maxHeartbeats 4000000 in
theorem kX8_lays_4_1_2 {E : (Nat → Prop) → State → Heap → Prop} {p : Program} {l : Launch} {e : Env} {s : State} {m : MethodId} {args : Array Value} {below : List Frame} {meth : Method} {c : Code} {A : Nat → Prop} {D : va_G} {cI cF cC cS cO : ClassId} {Q : State → Prop} {q : Nat → Nat} (C : vC E p l s m args meth c A D (vT5 cI cF cC cS cO) cX8_lays 3 RX8) {u0 : vS} (RET : ∀ (pc : Nat) (lv : List (Nat × Value)), decode cX8_lays pc = .ok (.return_, 1) → vV p l e { frames := 0, cells := 0, slots := 0, locals := 0 } s m args below meth c A D 3 0 0 Q (wR q cI u0) pc lv []) : ∀ (n : Nat) (x1 : Int32) (u : vS), fX8_lays_4_1_2 n x1 u = some u0 → vV p l e { frames := 0, cells := 0, slots := 0, locals := 0 } s m args below meth c A D 3 0 0 Q (wR q cI u) 2 [(0, .ref (q 4)), (1, .ref (q 1)), (2, .int x1)] [] := by
  intro n
  induction n with
  | zero => intro x1 u h; rw [fX8_lays_4_1_2] at h; cases h
  | succ n ih =>
    intro x1 u h
    rw [fX8_lays_4_1_2] at h
    refine vi_iload_n C 2 dX8_lays_2 rfl ?_
    refine vi_bipush (v := 66) C dX8_lays_3 (by decide) ?_
    refine vi_icmp_ge (tgt := 20) C dX8_lays_5 (by decide) (fun hc1 => ?_) (fun hc1 => ?_)
    · have h := ob_t h hc1
      exact vi_donev (W := wR q cI) RET h dX8_lays_20
    · have h := ob_f h hc1
      refine vi_aload_n C 0 dX8_lays_8 rfl ?_
      refine vi_iload_n C 2 dX8_lays_9 rfl ?_
      refine vi_aload_n C 1 dX8_lays_10 rfl ?_
      refine vi_iload_n C 2 dX8_lays_11 rfl ?_
      obtain ⟨hz2, h⟩ := ob_if h
      refine lR_1 (n := (Int32.toNatClampNeg x1)) C hz2 rfl dX8_lays_12 ?_
      obtain ⟨hz3, h⟩ := ob_if h
      obtain ⟨u4, eu4, h⟩ := ob_nm h
      refine sR_4 (n := (Int32.toNatClampNeg x1)) C hz3 rfl dX8_lays_13 eu4.symm ?_
      obtain ⟨y5, ey5, h⟩ := ob_nm h
      refine vi_iinc (v := y5) (lv' := [(2, .int y5), (0, .ref (q 4)), (1, .ref (q 1))]) C 2 dX8_lays_14 rfl (by rw [ey5]; rfl) (by decide) rfl ?_
      refine vi_goto (tgt := 2) C dX8_lays_17 (by decide) ?_
      refine vi_sub C [1, 2, 0] rfl ?_
      exact ih _ _ h
def fX8_lays_4_1 (u : vS) : Option (vS) := fX8_lays_4_1_2 vF (0 : Int32) u
set_option maxRecDepth 100000 in
set_option maxHeartbeats 4000000 in
theorem kX8_lays_4_1_e {E : (Nat → Prop) → State → Heap → Prop} {p : Program} {l : Launch} {e : Env} {s : State} {m : MethodId} {args : Array Value} {below : List Frame} {meth : Method} {c : Code} {A : Nat → Prop} {D : va_G} {cI cF cC cS cO : ClassId} {Q : State → Prop} {q : Nat → Nat} (C : vC E p l s m args meth c A D (vT5 cI cF cC cS cO) cX8_lays 3 RX8) {u0 : vS} (RET : ∀ (pc : Nat) (lv : List (Nat × Value)), decode cX8_lays pc = .ok (.return_, 1) → vV p l e { frames := 0, cells := 0, slots := 0, locals := 0 } s m args below meth c A D 3 0 0 Q (wR q cI u0) pc lv []) {u : vS} (h : fX8_lays_4_1 u = some u0) : vV p l e { frames := 0, cells := 0, slots := 0, locals := 0 } s m args below meth c A D 3 0 0 Q (wR q cI u) 0 [(0, .ref (q 4)), (1, .ref (q 1))] [] := by
  rw [fX8_lays_4_1] at h
  refine vi_iconst (v := 0) C dX8_lays_0 (by decide) ?_
  refine vi_istore_n (lv' := [(2, .int (0 : Int32)), (0, .ref (q 4)), (1, .ref (q 1))]) C dX8_lays_1 rfl (by decide) rfl ?_
  refine vi_sub C [1, 2, 0] rfl ?_
  exact kX8_lays_4_1_2 C RET  vF _ _ h
theorem mX8_lays_4_1 {E : (Nat → Prop) → State → Heap → Prop} (hE : vEok E) {l : Launch} {D : va_G} {cI cF cC cS cO : ClassId} {q : Nat → Nat} {u0 : vS}  {u : vS} (h : fX8_lays_4_1 u = some u0) : vM E l yX8_lays cX8_lays 3 none 0 0 D (vT5 cI cF cC cS cO) [.ref (q 4), .ref (q 1)] (wR q cI u) (vQv D (wR q cI u0)) :=
  vM_of hE (by decide +kernel) (Nat.le_of_ble_eq_true rfl) (fun p e s m args below meth c A C hr => kX8_lays_4_1_e C (vi_retv C hr) h)
-- ---- X8_lays_1_4
def fX8_lays_1_4_2 : Nat → Int32 → vS → Option (vS)
  | 0, _, _ => none
  | n + 1, x1, u => (if (66 : Int32) ≤ x1 then some u else if x1 < 0 ∨ 66 ≤ Int32.toNatClampNeg x1 then none else if x1 < 0 ∨ 66 ≤ Int32.toNatClampNeg x1 then none else bd (up2 u 1 (Int32.toNatClampNeg x1) (u 4 (Int32.toNatClampNeg x1))) fun u4 => bd ((x1 + 1 : Int32)) fun y5 => fX8_lays_1_4_2 n y5 u4)
set_option maxRecDepth 100000 in
set_option maxHeartbeats 4000000 in
theorem kX8_lays_1_4_2 {E : (Nat → Prop) → State → Heap → Prop} {p : Program} {l : Launch} {e : Env} {s : State} {m : MethodId} {args : Array Value} {below : List Frame} {meth : Method} {c : Code} {A : Nat → Prop} {D : va_G} {cI cF cC cS cO : ClassId} {Q : State → Prop} {q : Nat → Nat} (C : vC E p l s m args meth c A D (vT5 cI cF cC cS cO) cX8_lays 3 RX8) {u0 : vS} (RET : ∀ (pc : Nat) (lv : List (Nat × Value)), decode cX8_lays pc = .ok (.return_, 1) → vV p l e { frames := 0, cells := 0, slots := 0, locals := 0 } s m args below meth c A D 3 0 0 Q (wR q cI u0) pc lv []) : ∀ (n : Nat) (x1 : Int32) (u : vS), fX8_lays_1_4_2 n x1 u = some u0 → vV p l e { frames := 0, cells := 0, slots := 0, locals := 0 } s m args below meth c A D 3 0 0 Q (wR q cI u) 2 [(0, .ref (q 1)), (1, .ref (q 4)), (2, .int x1)] [] := by
  intro n
  induction n with
  | zero => intro x1 u h; rw [fX8_lays_1_4_2] at h; cases h
  | succ n ih =>
    intro x1 u h
    rw [fX8_lays_1_4_2] at h
    refine vi_iload_n C 2 dX8_lays_2 rfl ?_
    refine vi_bipush (v := 66) C dX8_lays_3 (by decide) ?_
    refine vi_icmp_ge (tgt := 20) C dX8_lays_5 (by decide) (fun hc1 => ?_) (fun hc1 => ?_)
    · have h := ob_t h hc1
      exact vi_donev (W := wR q cI) RET h dX8_lays_20
    · have h := ob_f h hc1
      refine vi_aload_n C 0 dX8_lays_8 rfl ?_
      refine vi_iload_n C 2 dX8_lays_9 rfl ?_
      refine vi_aload_n C 1 dX8_lays_10 rfl ?_
      refine vi_iload_n C 2 dX8_lays_11 rfl ?_
      obtain ⟨hz2, h⟩ := ob_if h
      refine lR_4 (n := (Int32.toNatClampNeg x1)) C hz2 rfl dX8_lays_12 ?_
      obtain ⟨hz3, h⟩ := ob_if h
      obtain ⟨u4, eu4, h⟩ := ob_nm h
      refine sR_1 (n := (Int32.toNatClampNeg x1)) C hz3 rfl dX8_lays_13 eu4.symm ?_
      obtain ⟨y5, ey5, h⟩ := ob_nm h
      refine vi_iinc (v := y5) (lv' := [(2, .int y5), (0, .ref (q 1)), (1, .ref (q 4))]) C 2 dX8_lays_14 rfl (by rw [ey5]; rfl) (by decide) rfl ?_
      refine vi_goto (tgt := 2) C dX8_lays_17 (by decide) ?_
      refine vi_sub C [1, 2, 0] rfl ?_
      exact ih _ _ h
def fX8_lays_1_4 (u : vS) : Option (vS) := fX8_lays_1_4_2 vF (0 : Int32) u
set_option maxRecDepth 100000 in
set_option maxHeartbeats 4000000 in
theorem kX8_lays_1_4_e {E : (Nat → Prop) → State → Heap → Prop} {p : Program} {l : Launch} {e : Env} {s : State} {m : MethodId} {args : Array Value} {below : List Frame} {meth : Method} {c : Code} {A : Nat → Prop} {D : va_G} {cI cF cC cS cO : ClassId} {Q : State → Prop} {q : Nat → Nat} (C : vC E p l s m args meth c A D (vT5 cI cF cC cS cO) cX8_lays 3 RX8) {u0 : vS} (RET : ∀ (pc : Nat) (lv : List (Nat × Value)), decode cX8_lays pc = .ok (.return_, 1) → vV p l e { frames := 0, cells := 0, slots := 0, locals := 0 } s m args below meth c A D 3 0 0 Q (wR q cI u0) pc lv []) {u : vS} (h : fX8_lays_1_4 u = some u0) : vV p l e { frames := 0, cells := 0, slots := 0, locals := 0 } s m args below meth c A D 3 0 0 Q (wR q cI u) 0 [(0, .ref (q 1)), (1, .ref (q 4))] [] := by
  rw [fX8_lays_1_4] at h
  refine vi_iconst (v := 0) C dX8_lays_0 (by decide) ?_
  refine vi_istore_n (lv' := [(2, .int (0 : Int32)), (0, .ref (q 1)), (1, .ref (q 4))]) C dX8_lays_1 rfl (by decide) rfl ?_
  refine vi_sub C [1, 2, 0] rfl ?_
  exact kX8_lays_1_4_2 C RET  vF _ _ h
theorem mX8_lays_1_4 {E : (Nat → Prop) → State → Heap → Prop} (hE : vEok E) {l : Launch} {D : va_G} {cI cF cC cS cO : ClassId} {q : Nat → Nat} {u0 : vS}  {u : vS} (h : fX8_lays_1_4 u = some u0) : vM E l yX8_lays cX8_lays 3 none 0 0 D (vT5 cI cF cC cS cO) [.ref (q 1), .ref (q 4)] (wR q cI u) (vQv D (wR q cI u0)) :=
  vM_of hE (by decide +kernel) (Nat.le_of_ble_eq_true rfl) (fun p e s m args below meth c A C hr => kX8_lays_1_4_e C (vi_retv C hr) h)
-- ---- X8_would
def fX8_would_40 : Nat → Int32 → Int32 → Int32 → vS → Option (Int32 × vS)
  | 0, _, _, _, _ => none
  | n + 1, x1, x2, x3, u => (if x2 ≤ x3 then obp (fX8_angled x1 u) fun y3 u2 => (fX8_lays_1_4 u2).bind fun u4 => some (y3, u4) else obp (fX8_passes u) fun y6 u5 => bd ((x3 + 1 : Int32)) fun y7 => fX8_would_40 n x1 x2 y7 u5)
set_option maxRecDepth 100000 in
set_option maxHeartbeats 4000000 in
theorem kX8_would_40 {E : (Nat → Prop) → State → Heap → Prop} {p : Program} {l : Launch} {e : Env} {s : State} {m : MethodId} {args : Array Value} {below : List Frame} {meth : Method} {c : Code} {A : Nat → Prop} {D : va_G} {cI cF cC cS cO : ClassId} {Q : State → Prop} {q : Nat → Nat} (C : vC E p l s m args meth c A D (vT5 cI cF cC cS cO) cX8_would 5 RX8) {r0 : Int32} {u0 : vS} (RET : ∀ (pc : Nat) (lv : List (Nat × Value)), decode cX8_would pc = .ok (.ireturn, 1) → vV p l e { frames := 3, cells := 0, slots := 0, locals := 65 } s m args below meth c A D 5 0 0 Q (wR q cI u0) pc lv [.int r0]) : ∀ (n : Nat) (x1 : Int32) (x2 : Int32) (x3 : Int32) (u : vS), fX8_would_40 n x1 x2 x3 u = some (r0, u0) → vV p l e { frames := 3, cells := 0, slots := 0, locals := 65 } s m args below meth c A D 5 0 0 Q (wR q cI u) 40 [(0, .ref (q 0)), (1, .int x1), (2, .int x2), (4, .int x3)] [] := by
  intro n
  induction n with
  | zero => intro x1 x2 x3 u h; rw [fX8_would_40] at h; cases h
  | succ n ih =>
    intro x1 x2 x3 u h
    rw [fX8_would_40] at h
    refine vi_iload C 3 dX8_would_40 rfl ?_
    refine vi_iload_n C 2 dX8_would_42 rfl ?_
    refine vi_icmp_ge (tgt := 57) C dX8_would_43 (by decide) (fun hc1 => ?_) (fun hc1 => ?_)
    · have h := ob_t h hc1
      refine vi_aload_n C 0 dX8_would_57 rfl ?_
      refine vi_iload_n C 1 dX8_would_58 rfl ?_
      obtain ⟨y3, u2, hgu2, h⟩ := ob_p h
      refine vR_calli (As := [.int x1]) (rest := []) C (mX8_angled C.2.2.2.2.2.2.2.2.1 hgu2) 1 rfl tcX8_angled tlX8_86 tiX8_angled tsX8_angled rfl tnX8 tdX8_angled ⟨Nat.le_of_ble_eq_true rfl, Nat.le_of_ble_eq_true rfl⟩ rfl (Nat.le_of_ble_eq_true rfl) dX8_would_59 ?_
      refine vi_istore (lv' := [(4, .int y3), (0, .ref (q 0)), (1, .int x1), (2, .int x2)]) C dX8_would_62 (by decide) rfl ?_
      refine vi_aload_n C 1 dX8_would_64 rfl ?_
      refine gR_8 C dX8_would_65 ?_
      refine vi_aload_n C 1 dX8_would_68 rfl ?_
      refine gR_11 C dX8_would_69 ?_
      obtain ⟨u4, hgu4, h⟩ := ob_bd h
      refine vR_callSv (As := [.ref (q 1), .ref (q 4)]) (rest := []) C (mX8_lays_1_4 C.2.2.2.2.2.2.2.2.1 hgu4) 2 rfl tcX8_lays tlX8_61 ttX8_lays tnX8 tdX8_lays ⟨Nat.le_of_ble_eq_true rfl, Nat.le_of_ble_eq_true rfl⟩ rfl (Nat.le_of_ble_eq_true rfl) dX8_would_72 ?_
      refine vi_iload C 0 dX8_would_75 rfl ?_
      exact vi_donei (W := wR q cI) RET h dX8_would_77
    · have h := ob_f h hc1
      refine vi_aload_n C 0 dX8_would_46 rfl ?_
      obtain ⟨y6, u5, hgu5, h⟩ := ob_p h
      refine vR_calli (As := []) (rest := []) C (mX8_passes C.2.2.2.2.2.2.2.2.1 hgu5) 0 rfl tcX8_passes tlX8_160 tiX8_passes tsX8_passes rfl tnX8 tdX8_passes ⟨Nat.le_of_ble_eq_true rfl, Nat.le_of_ble_eq_true rfl⟩ rfl (Nat.le_of_ble_eq_true rfl) dX8_would_47 ?_
      refine vi_istore_n (lv' := [(3, .int y6), (0, .ref (q 0)), (1, .int x1), (2, .int x2), (4, .int x3)]) C dX8_would_50 rfl (by decide) rfl ?_
      obtain ⟨y7, ey7, h⟩ := ob_nm h
      refine vi_iinc (v := y7) (lv' := [(4, .int y7), (3, .int y6), (0, .ref (q 0)), (1, .int x1), (2, .int x2)]) C 4 dX8_would_51 rfl (by rw [ey7]; rfl) (by decide) rfl ?_
      refine vi_goto (tgt := 40) C dX8_would_54 (by decide) ?_
      refine vi_sub C [2, 3, 4, 0] rfl ?_
      exact ih _ _ _ _ h
def fX8_would (x1 : Int32) (x2 : Int32) (u : vS) : Option (Int32 × vS) := obp (fX8_isSailor x1 u) fun y2 u1 => (if y2 = 0 then some ((-100001 : Int32), u1) else (fX8_isIn x2 (0 : Int32) (40 : Int32)).bind fun y4 => (if y4 = 0 then some ((-100002 : Int32), u1) else (fX8_lays_4_1 u1).bind fun u6 => fX8_would_40 vF x1 x2 (0 : Int32) u6))
set_option maxRecDepth 100000 in
set_option maxHeartbeats 4000000 in
theorem kX8_would_e {E : (Nat → Prop) → State → Heap → Prop} {p : Program} {l : Launch} {e : Env} {s : State} {m : MethodId} {args : Array Value} {below : List Frame} {meth : Method} {c : Code} {A : Nat → Prop} {D : va_G} {cI cF cC cS cO : ClassId} {Q : State → Prop} {q : Nat → Nat} (C : vC E p l s m args meth c A D (vT5 cI cF cC cS cO) cX8_would 5 RX8) {r0 : Int32} {u0 : vS} (RET : ∀ (pc : Nat) (lv : List (Nat × Value)), decode cX8_would pc = .ok (.ireturn, 1) → vV p l e { frames := 3, cells := 0, slots := 0, locals := 65 } s m args below meth c A D 5 0 0 Q (wR q cI u0) pc lv [.int r0]) {x1 : Int32} {x2 : Int32} {u : vS} (h : fX8_would x1 x2 u = some (r0, u0)) : vV p l e { frames := 3, cells := 0, slots := 0, locals := 65 } s m args below meth c A D 5 0 0 Q (wR q cI u) 0 [(0, .ref (q 0)), (1, .int x1), (2, .int x2)] [] := by
  rw [fX8_would] at h
  refine vi_aload_n C 0 dX8_would_0 rfl ?_
  refine vi_iload_n C 1 dX8_would_1 rfl ?_
  obtain ⟨y2, u1, hgu1, h⟩ := ob_p h
  refine vR_calli (As := [.int x1]) (rest := []) C (mX8_isSailor C.2.2.2.2.2.2.2.2.1 hgu1) 1 rfl tcX8_isSailor tlX8_108 tiX8_isSailor tsX8_isSailor rfl tnX8 tdX8_isSailor ⟨Nat.le_of_ble_eq_true rfl, Nat.le_of_ble_eq_true rfl⟩ rfl (Nat.le_of_ble_eq_true rfl) dX8_would_2 ?_
  refine vi_if_ne (tgt := 11) C dX8_would_5 (by decide) (fun hc3 => ?_) (fun hc3 => ?_)
  · have h := ob_f h hc3
    refine vi_iload_n C 2 dX8_would_11 rfl ?_
    refine vi_iconst (v := 0) C dX8_would_12 (by decide) ?_
    refine vi_bipush (v := 40) C dX8_would_13 (by decide) ?_
    obtain ⟨y4, hgy4, h⟩ := ob_bd h
    refine vi_callS0i (As := [.int x2, .int (0 : Int32), .int (40 : Int32)]) (rest := []) C (mX8_isIn C.2.2.2.2.2.2.2.2.1 hgy4) 3 rfl tcX8_isIn tlX8_68 ttX8_isIn tnX8 tdX8_isIn ⟨Nat.le_of_ble_eq_true rfl, Nat.le_of_ble_eq_true rfl⟩ rfl (Nat.le_of_ble_eq_true rfl) dX8_would_15 ?_
    refine vi_if_ne (tgt := 24) C dX8_would_18 (by decide) (fun hc5 => ?_) (fun hc5 => ?_)
    · have h := ob_f h hc5
      refine vi_aload_n C 0 dX8_would_24 rfl ?_
      refine gR_11 C dX8_would_25 ?_
      refine vi_aload_n C 0 dX8_would_28 rfl ?_
      refine gR_8 C dX8_would_29 ?_
      obtain ⟨u6, hgu6, h⟩ := ob_bd h
      refine vR_callSv (As := [.ref (q 4), .ref (q 1)]) (rest := []) C (mX8_lays_4_1 C.2.2.2.2.2.2.2.2.1 hgu6) 2 rfl tcX8_lays tlX8_61 ttX8_lays tnX8 tdX8_lays ⟨Nat.le_of_ble_eq_true rfl, Nat.le_of_ble_eq_true rfl⟩ rfl (Nat.le_of_ble_eq_true rfl) dX8_would_32 ?_
      refine vi_iconst (v := 0) C dX8_would_35 (by decide) ?_
      refine vi_istore_n (lv' := [(3, .int (0 : Int32)), (0, .ref (q 0)), (1, .int x1), (2, .int x2)]) C dX8_would_36 rfl (by decide) rfl ?_
      refine vi_iconst (v := 0) C dX8_would_37 (by decide) ?_
      refine vi_istore (lv' := [(4, .int (0 : Int32)), (3, .int (0 : Int32)), (0, .ref (q 0)), (1, .int x1), (2, .int x2)]) C dX8_would_38 (by decide) rfl ?_
      refine vi_sub C [2, 3, 4, 0] rfl ?_
      exact kX8_would_40 C RET  vF _ _ _ _ h
    · have h := ob_t h hc5
      refine vi_ldc (v := (-100002)) C dX8_would_21 tkX8_95 ?_
      exact vi_donei (W := wR q cI) RET h dX8_would_23
  · have h := ob_t h hc3
    refine vi_ldc (v := (-100001)) C dX8_would_8 tkX8_111 ?_
    exact vi_donei (W := wR q cI) RET h dX8_would_10
theorem mX8_would {E : (Nat → Prop) → State → Heap → Prop} (hE : vEok E) {l : Launch} {D : va_G} {cI cF cC cS cO : ClassId} {q : Nat → Nat} {r0 : Int32} {u0 : vS}  {x1 : Int32} {x2 : Int32} {u : vS} (h : fX8_would x1 x2 u = some (r0, u0)) : vM E l yX8_would cX8_would 5 (some .int) 3 65 D (vT5 cI cF cC cS cO) [.ref (q 0), .int x1, .int x2] (wR q cI u) (vQi D (wR q cI u0) r0) :=
  vM_of hE (by decide +kernel) (Nat.le_of_ble_eq_true rfl) (fun p e s m args below meth c A C hr => kX8_would_e C (vi_reti C hr) h)
-- ---- X8_sinks
def fX8_sinks_13 : Nat → Int32 → Int32 → vS → Option (Int32 × vS)
  | 0, _, _, _ => none
  | n + 1, x1, x2, u => (if (40 : Int32) < x2 then some ((-100006 : Int32), u) else obp (fX8_would x1 x2 u) fun y3 u2 => (if 0 < y3 then bd ((x2 + 1 : Int32)) fun y5 => fX8_sinks_13 n x1 y5 u2 else some (x2, u2)))
set_option maxRecDepth 100000 in
set_option maxHeartbeats 4000000 in
theorem kX8_sinks_13 {E : (Nat → Prop) → State → Heap → Prop} {p : Program} {l : Launch} {e : Env} {s : State} {m : MethodId} {args : Array Value} {below : List Frame} {meth : Method} {c : Code} {A : Nat → Prop} {D : va_G} {cI cF cC cS cO : ClassId} {Q : State → Prop} {q : Nat → Nat} (C : vC E p l s m args meth c A D (vT5 cI cF cC cS cO) cX8_sinks 3 RX8) {r0 : Int32} {u0 : vS} (RET : ∀ (pc : Nat) (lv : List (Nat × Value)), decode cX8_sinks pc = .ok (.ireturn, 1) → vV p l e { frames := 4, cells := 0, slots := 0, locals := 89 } s m args below meth c A D 3 0 0 Q (wR q cI u0) pc lv [.int r0]) : ∀ (n : Nat) (x1 : Int32) (x2 : Int32) (u : vS), fX8_sinks_13 n x1 x2 u = some (r0, u0) → vV p l e { frames := 4, cells := 0, slots := 0, locals := 89 } s m args below meth c A D 3 0 0 Q (wR q cI u) 13 [(0, .ref (q 0)), (1, .int x1), (2, .int x2)] [] := by
  intro n
  induction n with
  | zero => intro x1 x2 u h; rw [fX8_sinks_13] at h; cases h
  | succ n ih =>
    intro x1 x2 u h
    rw [fX8_sinks_13] at h
    refine vi_iload_n C 2 dX8_sinks_13 rfl ?_
    refine vi_bipush (v := 40) C dX8_sinks_14 (by decide) ?_
    refine vi_icmp_gt (tgt := 36) C dX8_sinks_16 (by decide) (fun hc1 => ?_) (fun hc1 => ?_)
    · have h := ob_t h hc1
      refine vi_ldc (v := (-100006)) C dX8_sinks_36 tkX8_181 ?_
      exact vi_donei (W := wR q cI) RET h dX8_sinks_38
    · have h := ob_f h hc1
      refine vi_aload_n C 0 dX8_sinks_19 rfl ?_
      refine vi_iload_n C 1 dX8_sinks_20 rfl ?_
      refine vi_iload_n C 2 dX8_sinks_21 rfl ?_
      obtain ⟨y3, u2, hgu2, h⟩ := ob_p h
      refine vR_calli (As := [.int x1, .int x2]) (rest := []) C (mX8_would C.2.2.2.2.2.2.2.2.1 hgu2) 2 rfl tcX8_would tlX8_193 tiX8_would tsX8_would rfl tnX8 tdX8_would ⟨Nat.le_of_ble_eq_true rfl, Nat.le_of_ble_eq_true rfl⟩ rfl (Nat.le_of_ble_eq_true rfl) dX8_sinks_22 ?_
      refine vi_if_gt (tgt := 30) C dX8_sinks_25 (by decide) (fun hc4 => ?_) (fun hc4 => ?_)
      · have h := ob_t h hc4
        obtain ⟨y5, ey5, h⟩ := ob_nm h
        refine vi_iinc (v := y5) (lv' := [(2, .int y5), (0, .ref (q 0)), (1, .int x1)]) C 2 dX8_sinks_30 rfl (by rw [ey5]; rfl) (by decide) rfl ?_
        refine vi_goto (tgt := 13) C dX8_sinks_33 (by decide) ?_
        refine vi_sub C [1, 2, 0] rfl ?_
        exact ih _ _ _ h
      · have h := ob_f h hc4
        refine vi_iload_n C 2 dX8_sinks_28 rfl ?_
        exact vi_donei (W := wR q cI) RET h dX8_sinks_29
def fX8_sinks (x1 : Int32) (u : vS) : Option (Int32 × vS) := obp (fX8_isSailor x1 u) fun y2 u1 => (if y2 = 0 then some ((-100001 : Int32), u1) else fX8_sinks_13 vF x1 (0 : Int32) u1)
set_option maxRecDepth 100000 in
set_option maxHeartbeats 4000000 in
theorem kX8_sinks_e {E : (Nat → Prop) → State → Heap → Prop} {p : Program} {l : Launch} {e : Env} {s : State} {m : MethodId} {args : Array Value} {below : List Frame} {meth : Method} {c : Code} {A : Nat → Prop} {D : va_G} {cI cF cC cS cO : ClassId} {Q : State → Prop} {q : Nat → Nat} (C : vC E p l s m args meth c A D (vT5 cI cF cC cS cO) cX8_sinks 3 RX8) {r0 : Int32} {u0 : vS} (RET : ∀ (pc : Nat) (lv : List (Nat × Value)), decode cX8_sinks pc = .ok (.ireturn, 1) → vV p l e { frames := 4, cells := 0, slots := 0, locals := 89 } s m args below meth c A D 3 0 0 Q (wR q cI u0) pc lv [.int r0]) {x1 : Int32} {u : vS} (h : fX8_sinks x1 u = some (r0, u0)) : vV p l e { frames := 4, cells := 0, slots := 0, locals := 89 } s m args below meth c A D 3 0 0 Q (wR q cI u) 0 [(0, .ref (q 0)), (1, .int x1)] [] := by
  rw [fX8_sinks] at h
  refine vi_aload_n C 0 dX8_sinks_0 rfl ?_
  refine vi_iload_n C 1 dX8_sinks_1 rfl ?_
  obtain ⟨y2, u1, hgu1, h⟩ := ob_p h
  refine vR_calli (As := [.int x1]) (rest := []) C (mX8_isSailor C.2.2.2.2.2.2.2.2.1 hgu1) 1 rfl tcX8_isSailor tlX8_108 tiX8_isSailor tsX8_isSailor rfl tnX8 tdX8_isSailor ⟨Nat.le_of_ble_eq_true rfl, Nat.le_of_ble_eq_true rfl⟩ rfl (Nat.le_of_ble_eq_true rfl) dX8_sinks_2 ?_
  refine vi_if_ne (tgt := 11) C dX8_sinks_5 (by decide) (fun hc3 => ?_) (fun hc3 => ?_)
  · have h := ob_f h hc3
    refine vi_iconst (v := 0) C dX8_sinks_11 (by decide) ?_
    refine vi_istore_n (lv' := [(2, .int (0 : Int32)), (0, .ref (q 0)), (1, .int x1)]) C dX8_sinks_12 rfl (by decide) rfl ?_
    refine vi_sub C [1, 2, 0] rfl ?_
    exact kX8_sinks_13 C RET  vF _ _ _ h
  · have h := ob_t h hc3
    refine vi_ldc (v := (-100001)) C dX8_sinks_8 tkX8_111 ?_
    exact vi_donei (W := wR q cI) RET h dX8_sinks_10
theorem mX8_sinks {E : (Nat → Prop) → State → Heap → Prop} (hE : vEok E) {l : Launch} {D : va_G} {cI cF cC cS cO : ClassId} {q : Nat → Nat} {r0 : Int32} {u0 : vS}  {x1 : Int32} {u : vS} (h : fX8_sinks x1 u = some (r0, u0)) : vM E l yX8_sinks cX8_sinks 3 (some .int) 4 89 D (vT5 cI cF cC cS cO) [.ref (q 0), .int x1] (wR q cI u) (vQi D (wR q cI u0) r0) :=
  vM_of hE (by decide +kernel) (Nat.le_of_ble_eq_true rfl) (fun p e s m args below meth c A C hr => kX8_sinks_e C (vi_reti C hr) h)
-- ---- X8_messes
def fX8_messes_4 : Nat → Int32 → Int32 → vS → Option (Int32 × vS)
  | 0, _, _, _ => none
  | n + 1, x1, x2, u => (if u 1 0 ≤ x2 then some (x1, u) else obp (fX8_mess x2 u) fun y3 u2 => (if y3 &&& (((1 : Int32) <<< (x2 &&& 31)) - (1 : Int32)) = 0 then bd ((x1 + (1 : Int32) : Int32)) fun y7 => bd ((x2 + 1 : Int32)) fun y8 => fX8_messes_4 n y7 y8 u2 else bd ((x1 + (0 : Int32) : Int32)) fun y5 => bd ((x2 + 1 : Int32)) fun y6 => fX8_messes_4 n y5 y6 u2))
set_option maxRecDepth 100000 in
set_option maxHeartbeats 4000000 in
theorem kX8_messes_4 {E : (Nat → Prop) → State → Heap → Prop} {p : Program} {l : Launch} {e : Env} {s : State} {m : MethodId} {args : Array Value} {below : List Frame} {meth : Method} {c : Code} {A : Nat → Prop} {D : va_G} {cI cF cC cS cO : ClassId} {Q : State → Prop} {q : Nat → Nat} (C : vC E p l s m args meth c A D (vT5 cI cF cC cS cO) cX8_messes 3 RX8) {r0 : Int32} {u0 : vS} (RET : ∀ (pc : Nat) (lv : List (Nat × Value)), decode cX8_messes pc = .ok (.ireturn, 1) → vV p l e { frames := 4, cells := 0, slots := 0, locals := 91 } s m args below meth c A D 3 0 0 Q (wR q cI u0) pc lv [.int r0]) : ∀ (n : Nat) (x1 : Int32) (x2 : Int32) (u : vS), fX8_messes_4 n x1 x2 u = some (r0, u0) → vV p l e { frames := 4, cells := 0, slots := 0, locals := 91 } s m args below meth c A D 3 0 0 Q (wR q cI u) 4 [(0, .ref (q 0)), (1, .int x1), (2, .int x2)] [] := by
  intro n
  induction n with
  | zero => intro x1 x2 u h; rw [fX8_messes_4] at h; cases h
  | succ n ih =>
    intro x1 x2 u h
    rw [fX8_messes_4] at h
    refine vi_iload_n C 2 dX8_messes_4 rfl ?_
    refine vi_aload_n C 0 dX8_messes_5 rfl ?_
    refine gR_8 C dX8_messes_6 ?_
    refine vi_iconst (v := 0) C dX8_messes_9 (by decide) ?_
    refine lR_1 (n := 0) C (by decide) rfl dX8_messes_10 ?_
    refine vi_icmp_ge (tgt := 42) C dX8_messes_11 (by decide) (fun hc1 => ?_) (fun hc1 => ?_)
    · have h := ob_t h hc1
      refine vi_iload_n C 1 dX8_messes_42 rfl ?_
      exact vi_donei (W := wR q cI) RET h dX8_messes_43
    · have h := ob_f h hc1
      refine vi_iload_n C 1 dX8_messes_14 rfl ?_
      refine vi_aload_n C 0 dX8_messes_15 rfl ?_
      refine vi_iload_n C 2 dX8_messes_16 rfl ?_
      obtain ⟨y3, u2, hgu2, h⟩ := ob_p h
      refine vR_calli (As := [.int x2]) (rest := [.int x1]) C (mX8_mess C.2.2.2.2.2.2.2.2.1 hgu2) 1 rfl tcX8_mess tlX8_172 tiX8_mess tsX8_mess rfl tnX8 tdX8_mess ⟨Nat.le_of_ble_eq_true rfl, Nat.le_of_ble_eq_true rfl⟩ rfl (Nat.le_of_ble_eq_true rfl) dX8_messes_17 ?_
      refine vi_iconst (v := 1) C dX8_messes_20 (by decide) ?_
      refine vi_iload_n C 2 dX8_messes_21 rfl ?_
      refine vi_ishl C dX8_messes_22 ?_
      refine vi_iconst (v := 1) C dX8_messes_23 (by decide) ?_
      refine vi_isub C dX8_messes_24 ?_
      refine vi_iand C dX8_messes_25 ?_
      refine vi_if_ne (tgt := 33) C dX8_messes_26 (by decide) (fun hc4 => ?_) (fun hc4 => ?_)
      · have h := ob_f h hc4
        refine vi_iconst (v := 0) C dX8_messes_33 (by decide) ?_
        refine vi_iadd C dX8_messes_34 ?_
        obtain ⟨y5, ey5, h⟩ := ob_nm h
        refine vi_nmi ey5 ?_
        refine vi_istore_n (lv' := [(1, .int y5), (0, .ref (q 0)), (2, .int x2)]) C dX8_messes_35 rfl (by decide) rfl ?_
        obtain ⟨y6, ey6, h⟩ := ob_nm h
        refine vi_iinc (v := y6) (lv' := [(2, .int y6), (1, .int y5), (0, .ref (q 0))]) C 2 dX8_messes_36 rfl (by rw [ey6]; rfl) (by decide) rfl ?_
        refine vi_goto (tgt := 4) C dX8_messes_39 (by decide) ?_
        refine vi_sub C [2, 1, 0] rfl ?_
        exact ih _ _ _ h
      · have h := ob_t h hc4
        refine vi_iconst (v := 1) C dX8_messes_29 (by decide) ?_
        refine vi_goto (tgt := 34) C dX8_messes_30 (by decide) ?_
        refine vi_iadd C dX8_messes_34 ?_
        obtain ⟨y7, ey7, h⟩ := ob_nm h
        refine vi_nmi ey7 ?_
        refine vi_istore_n (lv' := [(1, .int y7), (0, .ref (q 0)), (2, .int x2)]) C dX8_messes_35 rfl (by decide) rfl ?_
        obtain ⟨y8, ey8, h⟩ := ob_nm h
        refine vi_iinc (v := y8) (lv' := [(2, .int y8), (1, .int y7), (0, .ref (q 0))]) C 2 dX8_messes_36 rfl (by rw [ey8]; rfl) (by decide) rfl ?_
        refine vi_goto (tgt := 4) C dX8_messes_39 (by decide) ?_
        refine vi_sub C [2, 1, 0] rfl ?_
        exact ih _ _ _ h
def fX8_messes (u : vS) : Option (Int32 × vS) := fX8_messes_4 vF (0 : Int32) (0 : Int32) u
set_option maxRecDepth 100000 in
set_option maxHeartbeats 4000000 in
theorem kX8_messes_e {E : (Nat → Prop) → State → Heap → Prop} {p : Program} {l : Launch} {e : Env} {s : State} {m : MethodId} {args : Array Value} {below : List Frame} {meth : Method} {c : Code} {A : Nat → Prop} {D : va_G} {cI cF cC cS cO : ClassId} {Q : State → Prop} {q : Nat → Nat} (C : vC E p l s m args meth c A D (vT5 cI cF cC cS cO) cX8_messes 3 RX8) {r0 : Int32} {u0 : vS} (RET : ∀ (pc : Nat) (lv : List (Nat × Value)), decode cX8_messes pc = .ok (.ireturn, 1) → vV p l e { frames := 4, cells := 0, slots := 0, locals := 91 } s m args below meth c A D 3 0 0 Q (wR q cI u0) pc lv [.int r0]) {u : vS} (h : fX8_messes u = some (r0, u0)) : vV p l e { frames := 4, cells := 0, slots := 0, locals := 91 } s m args below meth c A D 3 0 0 Q (wR q cI u) 0 [(0, .ref (q 0))] [] := by
  rw [fX8_messes] at h
  refine vi_iconst (v := 0) C dX8_messes_0 (by decide) ?_
  refine vi_istore_n (lv' := [(1, .int (0 : Int32)), (0, .ref (q 0))]) C dX8_messes_1 rfl (by decide) rfl ?_
  refine vi_iconst (v := 0) C dX8_messes_2 (by decide) ?_
  refine vi_istore_n (lv' := [(2, .int (0 : Int32)), (1, .int (0 : Int32)), (0, .ref (q 0))]) C dX8_messes_3 rfl (by decide) rfl ?_
  refine vi_sub C [2, 1, 0] rfl ?_
  exact kX8_messes_4 C RET  vF _ _ _ h
theorem mX8_messes {E : (Nat → Prop) → State → Heap → Prop} (hE : vEok E) {l : Launch} {D : va_G} {cI cF cC cS cO : ClassId} {q : Nat → Nat} {r0 : Int32} {u0 : vS}  {u : vS} (h : fX8_messes u = some (r0, u0)) : vM E l yX8_messes cX8_messes 3 (some .int) 4 91 D (vT5 cI cF cC cS cO) [.ref (q 0)] (wR q cI u) (vQi D (wR q cI u0) r0) :=
  vM_of hE (by decide +kernel) (Nat.le_of_ble_eq_true rfl) (fun p e s m args below meth c A C hr => kX8_messes_e C (vi_reti C hr) h)
