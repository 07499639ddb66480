-- ---- X8_write
def fX8_write_102 (x1 : Int32) (u : vS) : Option (Int32 × vS) := (fX8_writes (64 : Int32) u).bind fun u1 => (fX8_at x1 (2 : Int32)).bind fun y2 => if y2 < 0 ∨ 66 ≤ Int32.toNatClampNeg y2 then none else (fX8_writesNumber (u1 1 (Int32.toNatClampNeg y2)) u1).bind fun u4 => (fX8_writes (62 : Int32) u4).bind fun u5 => obp (fX8_angled x1 u5) fun y7 u6 => (fX8_writesNumber y7 u6).bind fun u8 => some (u8 0 21, u8)
set_option maxRecDepth 100000 in
set_option maxHeartbeats 4000000 in
theorem kX8_write_102 {E : (Nat → Prop) → State → Heap → Prop} {p : Program} {l : Launch} {e : Env} {s : State} {m : MethodId} {args : Array Value} {below : List Frame} {meth : Method} {c : Code} {A : Nat → Prop} {D : va_G} {cI cF cC cS cO : ClassId} {Q : State → Prop} {q : Nat → Nat} (C : vC E p l s m args meth c A D (vT5 cI cF cC cS cO) cX8_write 4 RX8) {r0 : Int32} {u0 : vS} (RET : ∀ (pc : Nat) (lv : List (Nat × Value)), decode cX8_write pc = .ok (.ireturn, 1) → vV p l e { frames := 3, cells := 0, slots := 0, locals := 64 } s m args below meth c A D 4 0 0 Q (wR q cI u0) pc lv [.int r0]) : ∀ (x1 : Int32) (u : vS), fX8_write_102 x1 u = some (r0, u0) → vV p l e { frames := 3, cells := 0, slots := 0, locals := 64 } s m args below meth c A D 4 0 0 Q (wR q cI u) 102 [(0, .ref (q 0)), (1, .int x1)] [] := by
  intro x1 u h
  rw [fX8_write_102] at h
  refine vi_aload_n C 0 dX8_write_102 rfl ?_
  refine vi_bipush (v := 64) C dX8_write_103 (by decide) ?_
  obtain ⟨u1, hgu1, h⟩ := ob_bd h
  refine vR_callv (As := [.int (64 : Int32)]) (rest := []) C (mX8_writes C.2.2.2.2.2.2.2.2.1 hgu1) 1 rfl tcX8_writes tlX8_202 tiX8_writes tsX8_writes rfl tnX8 tdX8_writes ⟨Nat.le_of_ble_eq_true rfl, Nat.le_of_ble_eq_true rfl⟩ rfl (Nat.le_of_ble_eq_true rfl) dX8_write_105 ?_
  refine vi_aload_n C 0 dX8_write_108 rfl ?_
  refine vi_aload_n C 0 dX8_write_109 rfl ?_
  refine gR_8 C dX8_write_110 ?_
  refine vi_iload_n C 1 dX8_write_113 rfl ?_
  refine vi_iconst (v := 2) C dX8_write_114 (by decide) ?_
  obtain ⟨y2, hgy2, h⟩ := ob_bd h
  refine vi_callS0i (As := [.int x1, .int (2 : Int32)]) (rest := [.ref (q 1), .ref (q 0)]) C (mX8_at C.2.2.2.2.2.2.2.2.1 hgy2) 2 rfl tcX8_at tlX8_73 ttX8_at tnX8 tdX8_at ⟨Nat.le_of_ble_eq_true rfl, Nat.le_of_ble_eq_true rfl⟩ rfl (Nat.le_of_ble_eq_true rfl) dX8_write_115 ?_
  obtain ⟨hz3, h⟩ := ob_if h
  refine lR_1 (n := (Int32.toNatClampNeg y2)) C hz3 rfl dX8_write_118 ?_
  obtain ⟨u4, hgu4, h⟩ := ob_bd h
  refine vR_callv (As := [.int (u1 1 (Int32.toNatClampNeg y2))]) (rest := []) C (mX8_writesNumber C.2.2.2.2.2.2.2.2.1 hgu4) 1 rfl tcX8_writesNumber tlX8_205 tiX8_writesNumber tsX8_writesNumber rfl tnX8 tdX8_writesNumber ⟨Nat.le_of_ble_eq_true rfl, Nat.le_of_ble_eq_true rfl⟩ rfl (Nat.le_of_ble_eq_true rfl) dX8_write_119 ?_
  refine vi_aload_n C 0 dX8_write_122 rfl ?_
  refine vi_bipush (v := 62) C dX8_write_123 (by decide) ?_
  obtain ⟨u5, hgu5, h⟩ := ob_bd h
  refine vR_callv (As := [.int (62 : Int32)]) (rest := []) C (mX8_writes C.2.2.2.2.2.2.2.2.1 hgu5) 1 rfl tcX8_writes tlX8_202 tiX8_writes tsX8_writes rfl tnX8 tdX8_writes ⟨Nat.le_of_ble_eq_true rfl, Nat.le_of_ble_eq_true rfl⟩ rfl (Nat.le_of_ble_eq_true rfl) dX8_write_125 ?_
  refine vi_aload_n C 0 dX8_write_128 rfl ?_
  refine vi_aload_n C 0 dX8_write_129 rfl ?_
  refine vi_iload_n C 1 dX8_write_130 rfl ?_
  obtain ⟨y7, u6, hgu6, h⟩ := ob_p h
  refine vR_calli (As := [.int x1]) (rest := [.ref (q 0)]) C (mX8_angled C.2.2.2.2.2.2.2.2.1 hgu6) 1 rfl tcX8_angled tlX8_86 tiX8_angled tsX8_angled rfl tnX8 tdX8_angled ⟨Nat.le_of_ble_eq_true rfl, Nat.le_of_ble_eq_true rfl⟩ rfl (Nat.le_of_ble_eq_true rfl) dX8_write_131 ?_
  obtain ⟨u8, hgu8, h⟩ := ob_bd h
  refine vR_callv (As := [.int y7]) (rest := []) C (mX8_writesNumber C.2.2.2.2.2.2.2.2.1 hgu8) 1 rfl tcX8_writesNumber tlX8_205 tiX8_writesNumber tsX8_writesNumber rfl tnX8 tdX8_writesNumber ⟨Nat.le_of_ble_eq_true rfl, Nat.le_of_ble_eq_true rfl⟩ rfl (Nat.le_of_ble_eq_true rfl) dX8_write_134 ?_
  refine vi_aload_n C 0 dX8_write_137 rfl ?_
  refine gR_21 C dX8_write_138 ?_
  exact vi_donei (W := wR q cI) RET h dX8_write_141
def fX8_write_19 : Nat → Int32 → Int32 → vS → Option (Int32 × vS)
  | 0, _, _, _ => none
  | n + 1, x1, x2, u => (if x2 < 0 then (fX8_at x1 (1 : Int32)).bind fun y2 => if y2 < 0 ∨ 66 ≤ Int32.toNatClampNeg y2 then none else (if u 1 (Int32.toNatClampNeg y2) ≤ 0 then fX8_write_102 x1 u else (fX8_writes (42 : Int32) u).bind fun u5 => (fX8_at x1 (1 : Int32)).bind fun y6 => if y6 < 0 ∨ 66 ≤ Int32.toNatClampNeg y6 then none else (fX8_writesNumber (u5 1 (Int32.toNatClampNeg y6)) u5).bind fun u8 => fX8_write_102 x1 u8) else (fX8_at x1 (0 : Int32)).bind fun y9 => if y9 < 0 ∨ 66 ≤ Int32.toNatClampNeg y9 then none else bd ((((u 1 (Int32.toNatClampNeg y9)) >>> (x2 &&& 31)) &&& (15 : Int32) : Int32)) fun y11 => (if (10 : Int32) ≤ y11 then (fX8_writes (((97 : Int32) + y11) - (10 : Int32)) u).bind fun u13 => bd ((x2 + (-4) : Int32)) fun y14 => fX8_write_19 n x1 y14 u13 else (fX8_writes ((48 : Int32) + y11) u).bind fun u15 => bd ((x2 + (-4) : Int32)) fun y16 => fX8_write_19 n x1 y16 u15))
set_option maxRecDepth 100000 in
set_option maxHeartbeats 4000000 in
theorem kX8_write_19 {E : (Nat → Prop) → State → Heap → Prop} {p : Program} {l : Launch} {e : Env} {s : State} {m : MethodId} {args : Array Value} {below : List Frame} {meth : Method} {c : Code} {A : Nat → Prop} {D : va_G} {cI cF cC cS cO : ClassId} {Q : State → Prop} {q : Nat → Nat} (C : vC E p l s m args meth c A D (vT5 cI cF cC cS cO) cX8_write 4 RX8) {r0 : Int32} {u0 : vS} (RET : ∀ (pc : Nat) (lv : List (Nat × Value)), decode cX8_write pc = .ok (.ireturn, 1) → vV p l e { frames := 3, cells := 0, slots := 0, locals := 64 } s m args below meth c A D 4 0 0 Q (wR q cI u0) pc lv [.int r0]) : ∀ (n : Nat) (x1 : Int32) (x2 : Int32) (u : vS), fX8_write_19 n x1 x2 u = some (r0, u0) → vV p l e { frames := 3, cells := 0, slots := 0, locals := 64 } s m args below meth c A D 4 0 0 Q (wR q cI u) 19 [(0, .ref (q 0)), (1, .int x1), (2, .int x2)] [] := by
  intro n
  induction n with
  | zero => intro x1 x2 u h; rw [fX8_write_19] at h; cases h
  | succ n ih =>
    intro x1 x2 u h
    rw [fX8_write_19] at h
    refine vi_iload_n C 2 dX8_write_19 rfl ?_
    refine vi_if_lt (tgt := 69) C dX8_write_20 (by decide) (fun hc1 => ?_) (fun hc1 => ?_)
    · have h := ob_t h hc1
      refine vi_aload_n C 0 dX8_write_69 rfl ?_
      refine gR_8 C dX8_write_70 ?_
      refine vi_iload_n C 1 dX8_write_73 rfl ?_
      refine vi_iconst (v := 1) C dX8_write_74 (by decide) ?_
      obtain ⟨y2, hgy2, h⟩ := ob_bd h
      refine vi_callS0i (As := [.int x1, .int (1 : Int32)]) (rest := [.ref (q 1)]) C (mX8_at C.2.2.2.2.2.2.2.2.1 hgy2) 2 rfl tcX8_at tlX8_73 ttX8_at tnX8 tdX8_at ⟨Nat.le_of_ble_eq_true rfl, Nat.le_of_ble_eq_true rfl⟩ rfl (Nat.le_of_ble_eq_true rfl) dX8_write_75 ?_
      obtain ⟨hz3, h⟩ := ob_if h
      refine lR_1 (n := (Int32.toNatClampNeg y2)) C hz3 rfl dX8_write_78 ?_
      refine vi_if_le (tgt := 102) C dX8_write_79 (by decide) (fun hc4 => ?_) (fun hc4 => ?_)
      · have h := ob_t h hc4
        refine vi_sub C [0, 1] rfl ?_
        exact kX8_write_102 C RET   _ _ h
      · have h := ob_f h hc4
        refine vi_aload_n C 0 dX8_write_82 rfl ?_
        refine vi_bipush (v := 42) C dX8_write_83 (by decide) ?_
        obtain ⟨u5, hgu5, h⟩ := ob_bd h
        refine vR_callv (As := [.int (42 : Int32)]) (rest := []) C (mX8_writes C.2.2.2.2.2.2.2.2.1 hgu5) 1 rfl tcX8_writes tlX8_202 tiX8_writes tsX8_writes rfl tnX8 tdX8_writes ⟨Nat.le_of_ble_eq_true rfl, Nat.le_of_ble_eq_true rfl⟩ rfl (Nat.le_of_ble_eq_true rfl) dX8_write_85 ?_
        refine vi_aload_n C 0 dX8_write_88 rfl ?_
        refine vi_aload_n C 0 dX8_write_89 rfl ?_
        refine gR_8 C dX8_write_90 ?_
        refine vi_iload_n C 1 dX8_write_93 rfl ?_
        refine vi_iconst (v := 1) C dX8_write_94 (by decide) ?_
        obtain ⟨y6, hgy6, h⟩ := ob_bd h
        refine vi_callS0i (As := [.int x1, .int (1 : Int32)]) (rest := [.ref (q 1), .ref (q 0)]) C (mX8_at C.2.2.2.2.2.2.2.2.1 hgy6) 2 rfl tcX8_at tlX8_73 ttX8_at tnX8 tdX8_at ⟨Nat.le_of_ble_eq_true rfl, Nat.le_of_ble_eq_true rfl⟩ rfl (Nat.le_of_ble_eq_true rfl) dX8_write_95 ?_
        obtain ⟨hz7, h⟩ := ob_if h
        refine lR_1 (n := (Int32.toNatClampNeg y6)) C hz7 rfl dX8_write_98 ?_
        obtain ⟨u8, hgu8, h⟩ := ob_bd h
        refine vR_callv (As := [.int (u5 1 (Int32.toNatClampNeg y6))]) (rest := []) C (mX8_writesNumber C.2.2.2.2.2.2.2.2.1 hgu8) 1 rfl tcX8_writesNumber tlX8_205 tiX8_writesNumber tsX8_writesNumber rfl tnX8 tdX8_writesNumber ⟨Nat.le_of_ble_eq_true rfl, Nat.le_of_ble_eq_true rfl⟩ rfl (Nat.le_of_ble_eq_true rfl) dX8_write_99 ?_
        refine vi_sub C [0, 1] rfl ?_
        exact kX8_write_102 C RET   _ _ h
    · have h := ob_f h hc1
      refine vi_aload_n C 0 dX8_write_23 rfl ?_
      refine gR_8 C dX8_write_24 ?_
      refine vi_iload_n C 1 dX8_write_27 rfl ?_
      refine vi_iconst (v := 0) C dX8_write_28 (by decide) ?_
      obtain ⟨y9, hgy9, h⟩ := ob_bd h
      refine vi_callS0i (As := [.int x1, .int (0 : Int32)]) (rest := [.ref (q 1)]) C (mX8_at C.2.2.2.2.2.2.2.2.1 hgy9) 2 rfl tcX8_at tlX8_73 ttX8_at tnX8 tdX8_at ⟨Nat.le_of_ble_eq_true rfl, Nat.le_of_ble_eq_true rfl⟩ rfl (Nat.le_of_ble_eq_true rfl) dX8_write_29 ?_
      obtain ⟨hz10, h⟩ := ob_if h
      refine lR_1 (n := (Int32.toNatClampNeg y9)) C hz10 rfl dX8_write_32 ?_
      refine vi_iload_n C 2 dX8_write_33 rfl ?_
      refine vi_ishr C dX8_write_34 ?_
      refine vi_bipush (v := 15) C dX8_write_35 (by decide) ?_
      refine vi_iand C dX8_write_37 ?_
      obtain ⟨y11, ey11, h⟩ := ob_nm h
      refine vi_nmi ey11 ?_
      refine vi_istore_n (lv' := [(3, .int y11), (0, .ref (q 0)), (1, .int x1), (2, .int x2)]) C dX8_write_38 rfl (by decide) rfl ?_
      refine vi_aload_n C 1 dX8_write_39 rfl ?_
      refine vi_iload_n C 0 dX8_write_40 rfl ?_
      refine vi_bipush (v := 10) C dX8_write_41 (by decide) ?_
      refine vi_icmp_ge (tgt := 53) C dX8_write_43 (by decide) (fun hc12 => ?_) (fun hc12 => ?_)
      · have h := ob_t h hc12
        refine vi_bipush (v := 97) C dX8_write_53 (by decide) ?_
        refine vi_iload_n C 0 dX8_write_55 rfl ?_
        refine vi_iadd C dX8_write_56 ?_
        refine vi_bipush (v := 10) C dX8_write_57 (by decide) ?_
        refine vi_isub C dX8_write_59 ?_
        obtain ⟨u13, hgu13, h⟩ := ob_bd h
        refine vR_callv (As := [.int (((97 : Int32) + y11) - (10 : Int32))]) (rest := []) C (mX8_writes C.2.2.2.2.2.2.2.2.1 hgu13) 1 rfl tcX8_writes tlX8_202 tiX8_writes tsX8_writes rfl tnX8 tdX8_writes ⟨Nat.le_of_ble_eq_true rfl, Nat.le_of_ble_eq_true rfl⟩ rfl (Nat.le_of_ble_eq_true rfl) dX8_write_60 ?_
        obtain ⟨y14, ey14, h⟩ := ob_nm h
        refine vi_iinc (v := y14) (lv' := [(2, .int y14), (3, .int y11), (0, .ref (q 0)), (1, .int x1)]) C 3 dX8_write_63 rfl (by rw [ey14]; rfl) (by decide) rfl ?_
        refine vi_goto (tgt := 19) C dX8_write_66 (by decide) ?_
        refine vi_sub C [2, 3, 0] rfl ?_
        exact ih _ _ _ h
      · have h := ob_f h hc12
        refine vi_bipush (v := 48) C dX8_write_46 (by decide) ?_
        refine vi_iload_n C 0 dX8_write_48 rfl ?_
        refine vi_iadd C dX8_write_49 ?_
        refine vi_goto (tgt := 60) C dX8_write_50 (by decide) ?_
        obtain ⟨u15, hgu15, h⟩ := ob_bd h
        refine vR_callv (As := [.int ((48 : Int32) + y11)]) (rest := []) C (mX8_writes C.2.2.2.2.2.2.2.2.1 hgu15) 1 rfl tcX8_writes tlX8_202 tiX8_writes tsX8_writes rfl tnX8 tdX8_writes ⟨Nat.le_of_ble_eq_true rfl, Nat.le_of_ble_eq_true rfl⟩ rfl (Nat.le_of_ble_eq_true rfl) dX8_write_60 ?_
        obtain ⟨y16, ey16, h⟩ := ob_nm h
        refine vi_iinc (v := y16) (lv' := [(2, .int y16), (3, .int y11), (0, .ref (q 0)), (1, .int x1)]) C 3 dX8_write_63 rfl (by rw [ey16]; rfl) (by decide) rfl ?_
        refine vi_goto (tgt := 19) C dX8_write_66 (by decide) ?_
        refine vi_sub C [2, 3, 0] rfl ?_
        exact ih _ _ _ h
def fX8_write (x1 : Int32) (u : vS) : Option (Int32 × vS) := obp (fX8_isSailor x1 u) fun y2 u1 => (if y2 = 0 then some ((-100001 : Int32), u1) else bd (up2 u1 0 21 (0 : Int32)) fun u4 => fX8_write_19 vF x1 (12 : Int32) u4)
set_option maxRecDepth 100000 in
set_option maxHeartbeats 4000000 in
theorem kX8_write_e {E : (Nat → Prop) → State → Heap → Prop} {p : Program} {l : Launch} {e : Env} {s : State} {m : MethodId} {args : Array Value} {below : List Frame} {meth : Method} {c : Code} {A : Nat → Prop} {D : va_G} {cI cF cC cS cO : ClassId} {Q : State → Prop} {q : Nat → Nat} (C : vC E p l s m args meth c A D (vT5 cI cF cC cS cO) cX8_write 4 RX8) {r0 : Int32} {u0 : vS} (RET : ∀ (pc : Nat) (lv : List (Nat × Value)), decode cX8_write pc = .ok (.ireturn, 1) → vV p l e { frames := 3, cells := 0, slots := 0, locals := 64 } s m args below meth c A D 4 0 0 Q (wR q cI u0) pc lv [.int r0]) {x1 : Int32} {u : vS} (h : fX8_write x1 u = some (r0, u0)) : vV p l e { frames := 3, cells := 0, slots := 0, locals := 64 } s m args below meth c A D 4 0 0 Q (wR q cI u) 0 [(0, .ref (q 0)), (1, .int x1)] [] := by
  rw [fX8_write] at h
  refine vi_aload_n C 0 dX8_write_0 rfl ?_
  refine vi_iload_n C 1 dX8_write_1 rfl ?_
  obtain ⟨y2, u1, hgu1, h⟩ := ob_p h
  refine vR_calli (As := [.int x1]) (rest := []) C (mX8_isSailor C.2.2.2.2.2.2.2.2.1 hgu1) 1 rfl tcX8_isSailor tlX8_108 tiX8_isSailor tsX8_isSailor rfl tnX8 tdX8_isSailor ⟨Nat.le_of_ble_eq_true rfl, Nat.le_of_ble_eq_true rfl⟩ rfl (Nat.le_of_ble_eq_true rfl) dX8_write_2 ?_
  refine vi_if_ne (tgt := 11) C dX8_write_5 (by decide) (fun hc3 => ?_) (fun hc3 => ?_)
  · have h := ob_f h hc3
    refine vi_aload_n C 0 dX8_write_11 rfl ?_
    refine vi_iconst (v := 0) C dX8_write_12 (by decide) ?_
    obtain ⟨u4, eu4, h⟩ := ob_nm h
    refine pR_21 C dX8_write_13 eu4.symm ?_
    refine vi_bipush (v := 12) C dX8_write_16 (by decide) ?_
    refine vi_istore_n (lv' := [(2, .int (12 : Int32)), (0, .ref (q 0)), (1, .int x1)]) C dX8_write_18 rfl (by decide) rfl ?_
    refine vi_sub C [1, 2, 0] rfl ?_
    exact kX8_write_19 C RET  vF _ _ _ h
  · have h := ob_t h hc3
    refine vi_ldc (v := (-100001)) C dX8_write_8 tkX8_111 ?_
    exact vi_donei (W := wR q cI) RET h dX8_write_10
theorem mX8_write {E : (Nat → Prop) → State → Heap → Prop} (hE : vEok E) {l : Launch} {D : va_G} {cI cF cC cS cO : ClassId} {q : Nat → Nat} {r0 : Int32} {u0 : vS}  {x1 : Int32} {u : vS} (h : fX8_write x1 u = some (r0, u0)) : vM E l yX8_write cX8_write 4 (some .int) 3 64 D (vT5 cI cF cC cS cO) [.ref (q 0), .int x1] (wR q cI u) (vQi D (wR q cI u0) r0) :=
  vM_of hE (by decide +kernel) (Nat.le_of_ble_eq_true rfl) (fun p e s m args below meth c A C hr => kX8_write_e C (vi_reti C hr) h)
-- ---- X8_writeLog
def fX8_writeLog_27 (rec_7 : Int32 → vS → Option (Int32 × vS)) (x1 : Int32) (u : vS) : Option (Int32 × vS) := if (36 : Int32) + ((3 : Int32) * x1) < 0 ∨ 66 ≤ Int32.toNatClampNeg ((36 : Int32) + ((3 : Int32) * x1)) then none else (fX8_writesNumber (u 1 (Int32.toNatClampNeg ((36 : Int32) + ((3 : Int32) * x1)))) u).bind fun u2 => (fX8_writes (58 : Int32) u2).bind fun u3 => if ((36 : Int32) + ((3 : Int32) * x1)) + (1 : Int32) < 0 ∨ 66 ≤ Int32.toNatClampNeg (((36 : Int32) + ((3 : Int32) * x1)) + (1 : Int32)) then none else (fX8_writesNumber (u3 1 (Int32.toNatClampNeg (((36 : Int32) + ((3 : Int32) * x1)) + (1 : Int32)))) u3).bind fun u5 => bd ((x1 + 1 : Int32)) fun y6 => rec_7 y6 u5
set_option maxRecDepth 100000 in
set_option maxHeartbeats 4000000 in
theorem kX8_writeLog_27 {E : (Nat → Prop) → State → Heap → Prop} {p : Program} {l : Launch} {e : Env} {s : State} {m : MethodId} {args : Array Value} {below : List Frame} {meth : Method} {c : Code} {A : Nat → Prop} {D : va_G} {cI cF cC cS cO : ClassId} {Q : State → Prop} {q : Nat → Nat} (C : vC E p l s m args meth c A D (vT5 cI cF cC cS cO) cX8_writeLog 2 RX8) {r0 : Int32} {u0 : vS} (RET : ∀ (pc : Nat) (lv : List (Nat × Value)), decode cX8_writeLog pc = .ok (.ireturn, 1) → vV p l e { frames := 2, cells := 0, slots := 0, locals := 44 } s m args below meth c A D 2 0 0 Q (wR q cI u0) pc lv [.int r0]) {rec_7 : Int32 → vS → Option (Int32 × vS)} (REC_7 : ∀ (x1 : Int32) (u : vS), rec_7 x1 u = some (r0, u0) → vV p l e { frames := 2, cells := 0, slots := 0, locals := 44 } s m args below meth c A D 2 0 0 Q (wR q cI u) 7 [(0, .ref (q 0)), (1, .int x1)] []) : ∀ (x1 : Int32) (u : vS), fX8_writeLog_27 rec_7 x1 u = some (r0, u0) → vV p l e { frames := 2, cells := 0, slots := 0, locals := 44 } s m args below meth c A D 2 0 0 Q (wR q cI u) 27 [(0, .ref (q 0)), (1, .int x1)] [] := by
  intro x1 u h
  rw [fX8_writeLog_27] at h
  refine vi_aload_n C 0 dX8_writeLog_27 rfl ?_
  refine vi_aload_n C 0 dX8_writeLog_28 rfl ?_
  refine gR_8 C dX8_writeLog_29 ?_
  refine vi_bipush (v := 36) C dX8_writeLog_32 (by decide) ?_
  refine vi_iconst (v := 3) C dX8_writeLog_34 (by decide) ?_
  refine vi_iload_n C 1 dX8_writeLog_35 rfl ?_
  refine vi_imul C dX8_writeLog_36 ?_
  refine vi_iadd C dX8_writeLog_37 ?_
  obtain ⟨hz1, h⟩ := ob_if h
  refine lR_1 (n := (Int32.toNatClampNeg ((36 : Int32) + ((3 : Int32) * x1)))) C hz1 rfl dX8_writeLog_38 ?_
  obtain ⟨u2, hgu2, h⟩ := ob_bd h
  refine vR_callv (As := [.int (u 1 (Int32.toNatClampNeg ((36 : Int32) + ((3 : Int32) * x1))))]) (rest := []) C (mX8_writesNumber C.2.2.2.2.2.2.2.2.1 hgu2) 1 rfl tcX8_writesNumber tlX8_205 tiX8_writesNumber tsX8_writesNumber rfl tnX8 tdX8_writesNumber ⟨Nat.le_of_ble_eq_true rfl, Nat.le_of_ble_eq_true rfl⟩ rfl (Nat.le_of_ble_eq_true rfl) dX8_writeLog_39 ?_
  refine vi_aload_n C 0 dX8_writeLog_42 rfl ?_
  refine vi_bipush (v := 58) C dX8_writeLog_43 (by decide) ?_
  obtain ⟨u3, hgu3, h⟩ := ob_bd h
  refine vR_callv (As := [.int (58 : Int32)]) (rest := []) C (mX8_writes C.2.2.2.2.2.2.2.2.1 hgu3) 1 rfl tcX8_writes tlX8_202 tiX8_writes tsX8_writes rfl tnX8 tdX8_writes ⟨Nat.le_of_ble_eq_true rfl, Nat.le_of_ble_eq_true rfl⟩ rfl (Nat.le_of_ble_eq_true rfl) dX8_writeLog_45 ?_
  refine vi_aload_n C 0 dX8_writeLog_48 rfl ?_
  refine vi_aload_n C 0 dX8_writeLog_49 rfl ?_
  refine gR_8 C dX8_writeLog_50 ?_
  refine vi_bipush (v := 36) C dX8_writeLog_53 (by decide) ?_
  refine vi_iconst (v := 3) C dX8_writeLog_55 (by decide) ?_
  refine vi_iload_n C 1 dX8_writeLog_56 rfl ?_
  refine vi_imul C dX8_writeLog_57 ?_
  refine vi_iadd C dX8_writeLog_58 ?_
  refine vi_iconst (v := 1) C dX8_writeLog_59 (by decide) ?_
  refine vi_iadd C dX8_writeLog_60 ?_
  obtain ⟨hz4, h⟩ := ob_if h
  refine lR_1 (n := (Int32.toNatClampNeg (((36 : Int32) + ((3 : Int32) * x1)) + (1 : Int32)))) C hz4 rfl dX8_writeLog_61 ?_
  obtain ⟨u5, hgu5, h⟩ := ob_bd h
  refine vR_callv (As := [.int (u3 1 (Int32.toNatClampNeg (((36 : Int32) + ((3 : Int32) * x1)) + (1 : Int32))))]) (rest := []) C (mX8_writesNumber C.2.2.2.2.2.2.2.2.1 hgu5) 1 rfl tcX8_writesNumber tlX8_205 tiX8_writesNumber tsX8_writesNumber rfl tnX8 tdX8_writesNumber ⟨Nat.le_of_ble_eq_true rfl, Nat.le_of_ble_eq_true rfl⟩ rfl (Nat.le_of_ble_eq_true rfl) dX8_writeLog_62 ?_
  obtain ⟨y6, ey6, h⟩ := ob_nm h
  refine vi_iinc (v := y6) (lv' := [(1, .int y6), (0, .ref (q 0))]) C 1 dX8_writeLog_65 rfl (by rw [ey6]; rfl) (by decide) rfl ?_
  refine vi_goto (tgt := 7) C dX8_writeLog_68 (by decide) ?_
  refine vi_sub C [1, 0] rfl ?_
  exact REC_7 _ _ h
def fX8_writeLog_7 : Nat → Int32 → vS → Option (Int32 × vS)
  | 0, _, _ => none
  | n + 1, x1, u => (if u 1 3 ≤ x1 then some (u 0 21, u) else (if x1 ≤ 0 then fX8_writeLog_27 (fun a0 a1 => fX8_writeLog_7 n  a0 a1) x1 u else (fX8_writes (32 : Int32) u).bind fun u3 => fX8_writeLog_27 (fun a0 a1 => fX8_writeLog_7 n  a0 a1) x1 u3))
set_option maxRecDepth 100000 in
set_option maxHeartbeats 4000000 in
theorem kX8_writeLog_7 {E : (Nat → Prop) → State → Heap → Prop} {p : Program} {l : Launch} {e : Env} {s : State} {m : MethodId} {args : Array Value} {below : List Frame} {meth : Method} {c : Code} {A : Nat → Prop} {D : va_G} {cI cF cC cS cO : ClassId} {Q : State → Prop} {q : Nat → Nat} (C : vC E p l s m args meth c A D (vT5 cI cF cC cS cO) cX8_writeLog 2 RX8) {r0 : Int32} {u0 : vS} (RET : ∀ (pc : Nat) (lv : List (Nat × Value)), decode cX8_writeLog pc = .ok (.ireturn, 1) → vV p l e { frames := 2, cells := 0, slots := 0, locals := 44 } s m args below meth c A D 2 0 0 Q (wR q cI u0) pc lv [.int r0]) : ∀ (n : Nat) (x1 : Int32) (u : vS), fX8_writeLog_7 n x1 u = some (r0, u0) → vV p l e { frames := 2, cells := 0, slots := 0, locals := 44 } s m args below meth c A D 2 0 0 Q (wR q cI u) 7 [(0, .ref (q 0)), (1, .int x1)] [] := by
  intro n
  induction n with
  | zero => intro x1 u h; rw [fX8_writeLog_7] at h; cases h
  | succ n ih =>
    intro x1 u h
    rw [fX8_writeLog_7] at h
    refine vi_iload_n C 1 dX8_writeLog_7 rfl ?_
    refine vi_aload_n C 0 dX8_writeLog_8 rfl ?_
    refine gR_8 C dX8_writeLog_9 ?_
    refine vi_iconst (v := 3) C dX8_writeLog_12 (by decide) ?_
    refine lR_1 (n := 3) C (by decide) rfl dX8_writeLog_13 ?_
    refine vi_icmp_ge (tgt := 71) C dX8_writeLog_14 (by decide) (fun hc1 => ?_) (fun hc1 => ?_)
    · have h := ob_t h hc1
      refine vi_aload_n C 0 dX8_writeLog_71 rfl ?_
      refine gR_21 C dX8_writeLog_72 ?_
      exact vi_donei (W := wR q cI) RET h dX8_writeLog_75
    · have h := ob_f h hc1
      refine vi_iload_n C 1 dX8_writeLog_17 rfl ?_
      refine vi_if_le (tgt := 27) C dX8_writeLog_18 (by decide) (fun hc2 => ?_) (fun hc2 => ?_)
      · have h := ob_t h hc2
        refine vi_sub C [0, 1] rfl ?_
        exact kX8_writeLog_27 C RET ih  _ _ h
      · have h := ob_f h hc2
        refine vi_aload_n C 0 dX8_writeLog_21 rfl ?_
        refine vi_bipush (v := 32) C dX8_writeLog_22 (by decide) ?_
        obtain ⟨u3, hgu3, h⟩ := ob_bd h
        refine vR_callv (As := [.int (32 : Int32)]) (rest := []) C (mX8_writes C.2.2.2.2.2.2.2.2.1 hgu3) 1 rfl tcX8_writes tlX8_202 tiX8_writes tsX8_writes rfl tnX8 tdX8_writes ⟨Nat.le_of_ble_eq_true rfl, Nat.le_of_ble_eq_true rfl⟩ rfl (Nat.le_of_ble_eq_true rfl) dX8_writeLog_24 ?_
        refine vi_sub C [0, 1] rfl ?_
        exact kX8_writeLog_27 C RET ih  _ _ h
def fX8_writeLog (u : vS) : Option (Int32 × vS) := bd (up2 u 0 21 (0 : Int32)) fun u1 => fX8_writeLog_7 vF (0 : Int32) u1
set_option maxRecDepth 100000 in
set_option maxHeartbeats 4000000 in
theorem kX8_writeLog_e {E : (Nat → Prop) → State → Heap → Prop} {p : Program} {l : Launch} {e : Env} {s : State} {m : MethodId} {args : Array Value} {below : List Frame} {meth : Method} {c : Code} {A : Nat → Prop} {D : va_G} {cI cF cC cS cO : ClassId} {Q : State → Prop} {q : Nat → Nat} (C : vC E p l s m args meth c A D (vT5 cI cF cC cS cO) cX8_writeLog 2 RX8) {r0 : Int32} {u0 : vS} (RET : ∀ (pc : Nat) (lv : List (Nat × Value)), decode cX8_writeLog pc = .ok (.ireturn, 1) → vV p l e { frames := 2, cells := 0, slots := 0, locals := 44 } s m args below meth c A D 2 0 0 Q (wR q cI u0) pc lv [.int r0]) {u : vS} (h : fX8_writeLog u = some (r0, u0)) : vV p l e { frames := 2, cells := 0, slots := 0, locals := 44 } s m args below meth c A D 2 0 0 Q (wR q cI u) 0 [(0, .ref (q 0))] [] := by
  rw [fX8_writeLog] at h
  refine vi_aload_n C 0 dX8_writeLog_0 rfl ?_
  refine vi_iconst (v := 0) C dX8_writeLog_1 (by decide) ?_
  obtain ⟨u1, eu1, h⟩ := ob_nm h
  refine pR_21 C dX8_writeLog_2 eu1.symm ?_
  refine vi_iconst (v := 0) C dX8_writeLog_5 (by decide) ?_
  refine vi_istore_n (lv' := [(1, .int (0 : Int32)), (0, .ref (q 0))]) C dX8_writeLog_6 rfl (by decide) rfl ?_
  refine vi_sub C [1, 0] rfl ?_
  exact kX8_writeLog_7 C RET  vF _ _ h
theorem mX8_writeLog {E : (Nat → Prop) → State → Heap → Prop} (hE : vEok E) {l : Launch} {D : va_G} {cI cF cC cS cO : ClassId} {q : Nat → Nat} {r0 : Int32} {u0 : vS}  {u : vS} (h : fX8_writeLog u = some (r0, u0)) : vM E l yX8_writeLog cX8_writeLog 2 (some .int) 2 44 D (vT5 cI cF cC cS cO) [.ref (q 0)] (wR q cI u) (vQi D (wR q cI u0) r0) :=
  vM_of hE (by decide +kernel) (Nat.le_of_ble_eq_true rfl) (fun p e s m args below meth c A C hr => kX8_writeLog_e C (vi_reti C hr) h)
-- ---- X8_written
def fX8_written (x1 : Int32) (u : vS) : Option (Int32 × vS) := (fX8_isIn x1 (0 : Int32) ((u 0 21) - (1 : Int32))).bind fun y1 => (if y1 = 0 then some ((-100001 : Int32), u) else if x1 < 0 ∨ 140 ≤ Int32.toNatClampNeg x1 then none else some (u 7 (Int32.toNatClampNeg x1), u))
set_option maxRecDepth 100000 in
set_option maxHeartbeats 4000000 in
theorem kX8_written_e {E : (Nat → Prop) → State → Heap → Prop} {p : Program} {l : Launch} {e : Env} {s : State} {m : MethodId} {args : Array Value} {below : List Frame} {meth : Method} {c : Code} {A : Nat → Prop} {D : va_G} {cI cF cC cS cO : ClassId} {Q : State → Prop} {q : Nat → Nat} (C : vC E p l s m args meth c A D (vT5 cI cF cC cS cO) cX8_written 2 RX8) {r0 : Int32} {u0 : vS} (RET : ∀ (pc : Nat) (lv : List (Nat × Value)), decode cX8_written pc = .ok (.ireturn, 1) → vV p l e { frames := 1, cells := 0, slots := 0, locals := 22 } s m args below meth c A D 2 0 0 Q (wR q cI u0) pc lv [.int r0]) {x1 : Int32} {u : vS} (h : fX8_written x1 u = some (r0, u0)) : vV p l e { frames := 1, cells := 0, slots := 0, locals := 22 } s m args below meth c A D 2 0 0 Q (wR q cI u) 0 [(0, .ref (q 0)), (1, .int x1)] [] := by
  rw [fX8_written] at h
  refine vi_iload_n C 1 dX8_written_0 rfl ?_
  refine vi_iconst (v := 0) C dX8_written_1 (by decide) ?_
  refine vi_aload_n C 0 dX8_written_2 rfl ?_
  refine gR_21 C dX8_written_3 ?_
  refine vi_iconst (v := 1) C dX8_written_6 (by decide) ?_
  refine vi_isub C dX8_written_7 ?_
  obtain ⟨y1, hgy1, h⟩ := ob_bd h
  refine vi_callS0i (As := [.int x1, .int (0 : Int32), .int ((u 0 21) - (1 : Int32))]) (rest := []) C (mX8_isIn C.2.2.2.2.2.2.2.2.1 hgy1) 3 rfl tcX8_isIn tlX8_68 ttX8_isIn tnX8 tdX8_isIn ⟨Nat.le_of_ble_eq_true rfl, Nat.le_of_ble_eq_true rfl⟩ rfl (Nat.le_of_ble_eq_true rfl) dX8_written_8 ?_
  refine vi_if_eq (tgt := 23) C dX8_written_11 (by decide) (fun hc2 => ?_) (fun hc2 => ?_)
  · have h := ob_t h hc2
    refine vi_ldc (v := (-100001)) C dX8_written_23 tkX8_111 ?_
    exact vi_donei (W := wR q cI) RET h dX8_written_25
  · have h := ob_f h hc2
    refine vi_aload_n C 0 dX8_written_14 rfl ?_
    refine gR_14 C dX8_written_15 ?_
    refine vi_iload_n C 1 dX8_written_18 rfl ?_
    obtain ⟨hz3, h⟩ := ob_if h
    refine lR_7 (n := (Int32.toNatClampNeg x1)) C hz3 rfl dX8_written_19 ?_
    refine vi_goto (tgt := 25) C dX8_written_20 (by decide) ?_
    exact vi_donei (W := wR q cI) RET h dX8_written_25
theorem mX8_written {E : (Nat → Prop) → State → Heap → Prop} (hE : vEok E) {l : Launch} {D : va_G} {cI cF cC cS cO : ClassId} {q : Nat → Nat} {r0 : Int32} {u0 : vS}  {x1 : Int32} {u : vS} (h : fX8_written x1 u = some (r0, u0)) : vM E l yX8_written cX8_written 2 (some .int) 1 22 D (vT5 cI cF cC cS cO) [.ref (q 0), .int x1] (wR q cI u) (vQi D (wR q cI u0) r0) :=
  vM_of hE (by decide +kernel) (Nat.le_of_ble_eq_true rfl) (fun p e s m args below meth c A C hr => kX8_written_e C (vi_reti C hr) h)
-- ---- X8_append
def fX8_append (x1 : Int32) (u : vS) : Option (Int32 × vS) := (fX8_isIn x1 (32 : Int32) (126 : Int32)).bind fun y1 => (if y1 = 0 then some ((-100002 : Int32), u) else (if u 0 18 = (60 : Int32) then some ((-100004 : Int32), u) else if u 0 18 < 0 ∨ 60 ≤ Int32.toNatClampNeg (u 0 18) then none else bd (up2 u 6 (Int32.toNatClampNeg (u 0 18)) x1) fun u5 => bd (up2 u5 0 18 ((u5 0 18) + (1 : Int32))) fun u6 => some (u6 0 18, u6)))
set_option maxRecDepth 100000 in
set_option maxHeartbeats 4000000 in
theorem kX8_append_e {E : (Nat → Prop) → State → Heap → Prop} {p : Program} {l : Launch} {e : Env} {s : State} {m : MethodId} {args : Array Value} {below : List Frame} {meth : Method} {c : Code} {A : Nat → Prop} {D : va_G} {cI cF cC cS cO : ClassId} {Q : State → Prop} {q : Nat → Nat} (C : vC E p l s m args meth c A D (vT5 cI cF cC cS cO) cX8_append 2 RX8) {r0 : Int32} {u0 : vS} (RET : ∀ (pc : Nat) (lv : List (Nat × Value)), decode cX8_append pc = .ok (.ireturn, 1) → vV p l e { frames := 1, cells := 0, slots := 0, locals := 22 } s m args below meth c A D 2 0 0 Q (wR q cI u0) pc lv [.int r0]) {x1 : Int32} {u : vS} (h : fX8_append x1 u = some (r0, u0)) : vV p l e { frames := 1, cells := 0, slots := 0, locals := 22 } s m args below meth c A D 2 0 0 Q (wR q cI u) 0 [(0, .ref (q 0)), (1, .int x1)] [] := by
  rw [fX8_append] at h
  refine vi_iload_n C 1 dX8_append_0 rfl ?_
  refine vi_bipush (v := 32) C dX8_append_1 (by decide) ?_
  refine vi_bipush (v := 126) C dX8_append_3 (by decide) ?_
  obtain ⟨y1, hgy1, h⟩ := ob_bd h
  refine vi_callS0i (As := [.int x1, .int (32 : Int32), .int (126 : Int32)]) (rest := []) C (mX8_isIn C.2.2.2.2.2.2.2.2.1 hgy1) 3 rfl tcX8_isIn tlX8_68 ttX8_isIn tnX8 tdX8_isIn ⟨Nat.le_of_ble_eq_true rfl, Nat.le_of_ble_eq_true rfl⟩ rfl (Nat.le_of_ble_eq_true rfl) dX8_append_5 ?_
  refine vi_if_ne (tgt := 14) C dX8_append_8 (by decide) (fun hc2 => ?_) (fun hc2 => ?_)
  · have h := ob_f h hc2
    refine vi_aload_n C 0 dX8_append_14 rfl ?_
    refine gR_18 C dX8_append_15 ?_
    refine vi_bipush (v := 60) C dX8_append_18 (by decide) ?_
    refine vi_icmp_ne (tgt := 26) C dX8_append_20 (by decide) (fun hc3 => ?_) (fun hc3 => ?_)
    · have h := ob_f h hc3
      refine vi_aload_n C 0 dX8_append_26 rfl ?_
      refine gR_13 C dX8_append_27 ?_
      refine vi_aload_n C 0 dX8_append_30 rfl ?_
      refine gR_18 C dX8_append_31 ?_
      refine vi_iload_n C 1 dX8_append_34 rfl ?_
      obtain ⟨hz4, h⟩ := ob_if h
      obtain ⟨u5, eu5, h⟩ := ob_nm h
      refine sR_6 (n := (Int32.toNatClampNeg (u 0 18))) C hz4 rfl dX8_append_35 eu5.symm ?_
      refine vi_aload_n C 0 dX8_append_36 rfl ?_
      refine vi_dup C dX8_append_37 rfl ?_
      refine gR_18 C dX8_append_38 ?_
      refine vi_iconst (v := 1) C dX8_append_41 (by decide) ?_
      refine vi_iadd C dX8_append_42 ?_
      obtain ⟨u6, eu6, h⟩ := ob_nm h
      refine pR_18 C dX8_append_43 eu6.symm ?_
      refine vi_aload_n C 0 dX8_append_46 rfl ?_
      refine gR_18 C dX8_append_47 ?_
      exact vi_donei (W := wR q cI) RET h dX8_append_50
    · have h := ob_t h hc3
      refine vi_ldc (v := (-100004)) C dX8_append_23 tkX8_208 ?_
      exact vi_donei (W := wR q cI) RET h dX8_append_25
  · have h := ob_t h hc2
    refine vi_ldc (v := (-100002)) C dX8_append_11 tkX8_95 ?_
    exact vi_donei (W := wR q cI) RET h dX8_append_13
theorem mX8_append {E : (Nat → Prop) → State → Heap → Prop} (hE : vEok E) {l : Launch} {D : va_G} {cI cF cC cS cO : ClassId} {q : Nat → Nat} {r0 : Int32} {u0 : vS}  {x1 : Int32} {u : vS} (h : fX8_append x1 u = some (r0, u0)) : vM E l yX8_append cX8_append 2 (some .int) 1 22 D (vT5 cI cF cC cS cO) [.ref (q 0), .int x1] (wR q cI u) (vQi D (wR q cI u0) r0) :=
  vM_of hE (by decide +kernel) (Nat.le_of_ble_eq_true rfl) (fun p e s m args below meth c A C hr => kX8_append_e C (vi_reti C hr) h)
-- ---- X8_sign
def fX8_sign (u : vS) : Option (Int32 × vS) := (if u 0 20 ≤ u 0 19 then some ((-1 : Int32), u) else if u 0 19 < 0 ∨ 60 ≤ Int32.toNatClampNeg (u 0 19) then none else some (u 6 (Int32.toNatClampNeg (u 0 19)), u))
set_option maxRecDepth 100000 in
set_option maxHeartbeats 4000000 in
theorem kX8_sign_e {E : (Nat → Prop) → State → Heap → Prop} {p : Program} {l : Launch} {e : Env} {s : State} {m : MethodId} {args : Array Value} {below : List Frame} {meth : Method} {c : Code} {A : Nat → Prop} {D : va_G} {cI cF cC cS cO : ClassId} {Q : State → Prop} {q : Nat → Nat} (C : vC E p l s m args meth c A D (vT5 cI cF cC cS cO) cX8_sign 1 RX8) {r0 : Int32} {u0 : vS} (RET : ∀ (pc : Nat) (lv : List (Nat × Value)), decode cX8_sign pc = .ok (.ireturn, 1) → vV p l e { frames := 0, cells := 0, slots := 0, locals := 0 } s m args below meth c A D 1 0 0 Q (wR q cI u0) pc lv [.int r0]) {u : vS} (h : fX8_sign u = some (r0, u0)) : vV p l e { frames := 0, cells := 0, slots := 0, locals := 0 } s m args below meth c A D 1 0 0 Q (wR q cI u) 0 [(0, .ref (q 0))] [] := by
  rw [fX8_sign] at h
  refine vi_aload_n C 0 dX8_sign_0 rfl ?_
  refine gR_19 C dX8_sign_1 ?_
  refine vi_aload_n C 0 dX8_sign_4 rfl ?_
  refine gR_20 C dX8_sign_5 ?_
  refine vi_icmp_ge (tgt := 23) C dX8_sign_8 (by decide) (fun hc1 => ?_) (fun hc1 => ?_)
  · have h := ob_t h hc1
    refine vi_iconst (v := (-1)) C dX8_sign_23 (by decide) ?_
    exact vi_donei (W := wR q cI) RET h dX8_sign_24
  · have h := ob_f h hc1
    refine vi_aload_n C 0 dX8_sign_11 rfl ?_
    refine gR_13 C dX8_sign_12 ?_
    refine vi_aload_n C 0 dX8_sign_15 rfl ?_
    refine gR_19 C dX8_sign_16 ?_
    obtain ⟨hz2, h⟩ := ob_if h
    refine lR_6 (n := (Int32.toNatClampNeg (u 0 19))) C hz2 rfl dX8_sign_19 ?_
    refine vi_goto (tgt := 24) C dX8_sign_20 (by decide) ?_
    exact vi_donei (W := wR q cI) RET h dX8_sign_24
theorem mX8_sign {E : (Nat → Prop) → State → Heap → Prop} (hE : vEok E) {l : Launch} {D : va_G} {cI cF cC cS cO : ClassId} {q : Nat → Nat} {r0 : Int32} {u0 : vS}  {u : vS} (h : fX8_sign u = some (r0, u0)) : vM E l yX8_sign cX8_sign 1 (some .int) 0 0 D (vT5 cI cF cC cS cO) [.ref (q 0)] (wR q cI u) (vQi D (wR q cI u0) r0) :=
  vM_of hE (by decide +kernel) (Nat.le_of_ble_eq_true rfl) (fun p e s m args below meth c A C hr => kX8_sign_e C (vi_reti C hr) h)
-- ---- X8_mark
def fX8_mark_22 (x1 : Int32) (u : vS) : Option (vS) := if x1 = 0 ∨ x1 = 1 then bd (up2 u 0 22 x1) fun u1 => (if u1 0 22 = 0 then bd (up2 u1 0 19 ((u1 0 19) + (1 : Int32))) fun u4 => some u4 else bd (up2 u1 0 19 ((u1 0 19) + (0 : Int32))) fun u5 => some u5) else none
set_option maxRecDepth 100000 in
set_option maxHeartbeats 4000000 in
theorem kX8_mark_22 {E : (Nat → Prop) → State → Heap → Prop} {p : Program} {l : Launch} {e : Env} {s : State} {m : MethodId} {args : Array Value} {below : List Frame} {meth : Method} {c : Code} {A : Nat → Prop} {D : va_G} {cI cF cC cS cO : ClassId} {Q : State → Prop} {q : Nat → Nat} (C : vC E p l s m args meth c A D (vT5 cI cF cC cS cO) cX8_mark 2 RX8) {u0 : vS} (RET : ∀ (pc : Nat) (lv : List (Nat × Value)), decode cX8_mark pc = .ok (.return_, 1) → vV p l e { frames := 1, cells := 0, slots := 0, locals := 20 } s m args below meth c A D 2 0 0 Q (wR q cI u0) pc lv []) : ∀ (x1 : Int32) (u : vS), fX8_mark_22 x1 u = some u0 → vV p l e { frames := 1, cells := 0, slots := 0, locals := 20 } s m args below meth c A D 2 0 0 Q (wR q cI u) 22 [(0, .ref (q 0))] [.int x1, .ref (q 0)] := by
  intro x1 u h
  rw [fX8_mark_22] at h
  obtain ⟨hz2, h⟩ := ob_ok h
  obtain ⟨u1, eu1, h⟩ := ob_nm h
  refine pR_22 C dX8_mark_22 hz2 eu1.symm ?_
  refine vi_aload_n C 0 dX8_mark_25 rfl ?_
  refine vi_dup C dX8_mark_26 rfl ?_
  refine gR_19 C dX8_mark_27 ?_
  refine vi_aload_n C 0 dX8_mark_30 rfl ?_
  refine gR_22 C dX8_mark_31 ?_
  refine vi_if_eq (tgt := 41) C dX8_mark_34 (by decide) (fun hc3 => ?_) (fun hc3 => ?_)
  · have h := ob_t h hc3
    refine vi_iconst (v := 1) C dX8_mark_41 (by decide) ?_
    refine vi_iadd C dX8_mark_42 ?_
    obtain ⟨u4, eu4, h⟩ := ob_nm h
    refine pR_19 C dX8_mark_43 eu4.symm ?_
    exact vi_donev (W := wR q cI) RET h dX8_mark_46
  · have h := ob_f h hc3
    refine vi_iconst (v := 0) C dX8_mark_37 (by decide) ?_
    refine vi_goto (tgt := 42) C dX8_mark_38 (by decide) ?_
    refine vi_iadd C dX8_mark_42 ?_
    obtain ⟨u5, eu5, h⟩ := ob_nm h
    refine pR_19 C dX8_mark_43 eu5.symm ?_
    exact vi_donev (W := wR q cI) RET h dX8_mark_46
def fX8_mark (x1 : Int32) (u : vS) : Option (vS) := (if u 0 22 = 0 then obp (fX8_sign u) fun y3 u2 => (if y3 = x1 then fX8_mark_22 (0 : Int32) u2 else fX8_mark_22 (1 : Int32) u2) else some u)
set_option maxRecDepth 100000 in
set_option maxHeartbeats 4000000 in
theorem kX8_mark_e {E : (Nat → Prop) → State → Heap → Prop} {p : Program} {l : Launch} {e : Env} {s : State} {m : MethodId} {args : Array Value} {below : List Frame} {meth : Method} {c : Code} {A : Nat → Prop} {D : va_G} {cI cF cC cS cO : ClassId} {Q : State → Prop} {q : Nat → Nat} (C : vC E p l s m args meth c A D (vT5 cI cF cC cS cO) cX8_mark 2 RX8) {u0 : vS} (RET : ∀ (pc : Nat) (lv : List (Nat × Value)), decode cX8_mark pc = .ok (.return_, 1) → vV p l e { frames := 1, cells := 0, slots := 0, locals := 20 } s m args below meth c A D 2 0 0 Q (wR q cI u0) pc lv []) {x1 : Int32} {u : vS} (h : fX8_mark x1 u = some u0) : vV p l e { frames := 1, cells := 0, slots := 0, locals := 20 } s m args below meth c A D 2 0 0 Q (wR q cI u) 0 [(0, .ref (q 0)), (1, .int x1)] [] := by
  rw [fX8_mark] at h
  refine vi_aload_n C 0 dX8_mark_0 rfl ?_
  refine gR_22 C dX8_mark_1 ?_
  refine vi_if_eq (tgt := 8) C dX8_mark_4 (by decide) (fun hc1 => ?_) (fun hc1 => ?_)
  · have h := ob_t h hc1
    refine vi_aload_n C 0 dX8_mark_8 rfl ?_
    refine vi_aload_n C 0 dX8_mark_9 rfl ?_
    obtain ⟨y3, u2, hgu2, h⟩ := ob_p h
    refine vR_calli (As := []) (rest := [.ref (q 0)]) C (mX8_sign C.2.2.2.2.2.2.2.2.1 hgu2) 0 rfl tcX8_sign tlX8_219 tiX8_sign tsX8_sign rfl tnX8 tdX8_sign ⟨Nat.le_of_ble_eq_true rfl, Nat.le_of_ble_eq_true rfl⟩ rfl (Nat.le_of_ble_eq_true rfl) dX8_mark_10 ?_
    refine vi_iload_n C 1 dX8_mark_13 rfl ?_
    refine vi_icmp_eq (tgt := 21) C dX8_mark_14 (by decide) (fun hc4 => ?_) (fun hc4 => ?_)
    · have h := ob_t h hc4
      refine vi_iconst (v := 0) C dX8_mark_21 (by decide) ?_
      refine vi_sub C [0] rfl ?_
      exact kX8_mark_22 C RET   _ _ h
    · have h := ob_f h hc4
      refine vi_iconst (v := 1) C dX8_mark_17 (by decide) ?_
      refine vi_goto (tgt := 22) C dX8_mark_18 (by decide) ?_
      refine vi_sub C [0] rfl ?_
      exact kX8_mark_22 C RET   _ _ h
  · have h := ob_f h hc1
    exact vi_donev (W := wR q cI) RET h dX8_mark_7
theorem mX8_mark {E : (Nat → Prop) → State → Heap → Prop} (hE : vEok E) {l : Launch} {D : va_G} {cI cF cC cS cO : ClassId} {q : Nat → Nat} {u0 : vS}  {x1 : Int32} {u : vS} (h : fX8_mark x1 u = some u0) : vM E l yX8_mark cX8_mark 2 none 1 20 D (vT5 cI cF cC cS cO) [.ref (q 0), .int x1] (wR q cI u) (vQv D (wR q cI u0)) :=
  vM_of hE (by decide +kernel) (Nat.le_of_ble_eq_true rfl) (fun p e s m args below meth c A C hr => kX8_mark_e C (vi_retv C hr) h)
-- ---- X8_digit
def fX8_digit_31 (x1 : Int32) (x2 : Int32) (u : vS) : Option (Int32 × vS) := if x2 = 0 ∨ x2 = 1 then bd (up2 u 0 22 x2) fun u1 => (if u1 0 22 = 0 then bd (up2 u1 0 19 ((u1 0 19) + (1 : Int32))) fun u4 => some (x1 - (48 : Int32), u4) else bd (up2 u1 0 19 ((u1 0 19) + (0 : Int32))) fun u5 => some (x1 - (48 : Int32), u5)) else none
set_option maxRecDepth 100000 in
set_option maxHeartbeats 4000000 in
theorem kX8_digit_31 {E : (Nat → Prop) → State → Heap → Prop} {p : Program} {l : Launch} {e : Env} {s : State} {m : MethodId} {args : Array Value} {below : List Frame} {meth : Method} {c : Code} {A : Nat → Prop} {D : va_G} {cI cF cC cS cO : ClassId} {Q : State → Prop} {q : Nat → Nat} (C : vC E p l s m args meth c A D (vT5 cI cF cC cS cO) cX8_digit 2 RX8) {r0 : Int32} {u0 : vS} (RET : ∀ (pc : Nat) (lv : List (Nat × Value)), decode cX8_digit pc = .ok (.ireturn, 1) → vV p l e { frames := 1, cells := 0, slots := 0, locals := 22 } s m args below meth c A D 2 0 0 Q (wR q cI u0) pc lv [.int r0]) : ∀ (x1 : Int32) (x2 : Int32) (u : vS), fX8_digit_31 x1 x2 u = some (r0, u0) → vV p l e { frames := 1, cells := 0, slots := 0, locals := 22 } s m args below meth c A D 2 0 0 Q (wR q cI u) 31 [(0, .ref (q 0)), (1, .int x1)] [.int x2, .ref (q 0)] := by
  intro x1 x2 u h
  rw [fX8_digit_31] at h
  obtain ⟨hz2, h⟩ := ob_ok h
  obtain ⟨u1, eu1, h⟩ := ob_nm h
  refine pR_22 C dX8_digit_31 hz2 eu1.symm ?_
  refine vi_aload_n C 0 dX8_digit_34 rfl ?_
  refine vi_dup C dX8_digit_35 rfl ?_
  refine gR_19 C dX8_digit_36 ?_
  refine vi_aload_n C 0 dX8_digit_39 rfl ?_
  refine gR_22 C dX8_digit_40 ?_
  refine vi_if_eq (tgt := 50) C dX8_digit_43 (by decide) (fun hc3 => ?_) (fun hc3 => ?_)
  · have h := ob_t h hc3
    refine vi_iconst (v := 1) C dX8_digit_50 (by decide) ?_
    refine vi_iadd C dX8_digit_51 ?_
    obtain ⟨u4, eu4, h⟩ := ob_nm h
    refine pR_19 C dX8_digit_52 eu4.symm ?_
    refine vi_iload_n C 1 dX8_digit_55 rfl ?_
    refine vi_bipush (v := 48) C dX8_digit_56 (by decide) ?_
    refine vi_isub C dX8_digit_58 ?_
    exact vi_donei (W := wR q cI) RET h dX8_digit_59
  · have h := ob_f h hc3
    refine vi_iconst (v := 0) C dX8_digit_46 (by decide) ?_
    refine vi_goto (tgt := 51) C dX8_digit_47 (by decide) ?_
    refine vi_iadd C dX8_digit_51 ?_
    obtain ⟨u5, eu5, h⟩ := ob_nm h
    refine pR_19 C dX8_digit_52 eu5.symm ?_
    refine vi_iload_n C 1 dX8_digit_55 rfl ?_
    refine vi_bipush (v := 48) C dX8_digit_56 (by decide) ?_
    refine vi_isub C dX8_digit_58 ?_
    exact vi_donei (W := wR q cI) RET h dX8_digit_59
def fX8_digit (u : vS) : Option (Int32 × vS) := (if u 0 22 = 0 then obp (fX8_sign u) fun y3 u2 => (fX8_isIn y3 (48 : Int32) (57 : Int32)).bind fun y4 => (if y4 = 0 then fX8_digit_31 y3 (1 : Int32) u2 else fX8_digit_31 y3 (0 : Int32) u2) else some ((0 : Int32), u))
set_option maxRecDepth 100000 in
set_option maxHeartbeats 4000000 in
theorem kX8_digit_e {E : (Nat → Prop) → State → Heap → Prop} {p : Program} {l : Launch} {e : Env} {s : State} {m : MethodId} {args : Array Value} {below : List Frame} {meth : Method} {c : Code} {A : Nat → Prop} {D : va_G} {cI cF cC cS cO : ClassId} {Q : State → Prop} {q : Nat → Nat} (C : vC E p l s m args meth c A D (vT5 cI cF cC cS cO) cX8_digit 2 RX8) {r0 : Int32} {u0 : vS} (RET : ∀ (pc : Nat) (lv : List (Nat × Value)), decode cX8_digit pc = .ok (.ireturn, 1) → vV p l e { frames := 1, cells := 0, slots := 0, locals := 22 } s m args below meth c A D 2 0 0 Q (wR q cI u0) pc lv [.int r0]) {u : vS} (h : fX8_digit u = some (r0, u0)) : vV p l e { frames := 1, cells := 0, slots := 0, locals := 22 } s m args below meth c A D 2 0 0 Q (wR q cI u) 0 [(0, .ref (q 0))] [] := by
  rw [fX8_digit] at h
  refine vi_aload_n C 0 dX8_digit_0 rfl ?_
  refine gR_22 C dX8_digit_1 ?_
  refine vi_if_eq (tgt := 9) C dX8_digit_4 (by decide) (fun hc1 => ?_) (fun hc1 => ?_)
  · have h := ob_t h hc1
    refine vi_aload_n C 0 dX8_digit_9 rfl ?_
    obtain ⟨y3, u2, hgu2, h⟩ := ob_p h
    refine vR_calli (As := []) (rest := []) C (mX8_sign C.2.2.2.2.2.2.2.2.1 hgu2) 0 rfl tcX8_sign tlX8_219 tiX8_sign tsX8_sign rfl tnX8 tdX8_sign ⟨Nat.le_of_ble_eq_true rfl, Nat.le_of_ble_eq_true rfl⟩ rfl (Nat.le_of_ble_eq_true rfl) dX8_digit_10 ?_
    refine vi_istore_n (lv' := [(1, .int y3), (0, .ref (q 0))]) C dX8_digit_13 rfl (by decide) rfl ?_
    refine vi_aload_n C 1 dX8_digit_14 rfl ?_
    refine vi_iload_n C 0 dX8_digit_15 rfl ?_
    refine vi_bipush (v := 48) C dX8_digit_16 (by decide) ?_
    refine vi_bipush (v := 57) C dX8_digit_18 (by decide) ?_
    obtain ⟨y4, hgy4, h⟩ := ob_bd h
    refine vi_callS0i (As := [.int y3, .int (48 : Int32), .int (57 : Int32)]) (rest := [.ref (q 0)]) C (mX8_isIn C.2.2.2.2.2.2.2.2.1 hgy4) 3 rfl tcX8_isIn tlX8_68 ttX8_isIn tnX8 tdX8_isIn ⟨Nat.le_of_ble_eq_true rfl, Nat.le_of_ble_eq_true rfl⟩ rfl (Nat.le_of_ble_eq_true rfl) dX8_digit_20 ?_
    refine vi_if_ne (tgt := 30) C dX8_digit_23 (by decide) (fun hc5 => ?_) (fun hc5 => ?_)
    · have h := ob_f h hc5
      refine vi_iconst (v := 0) C dX8_digit_30 (by decide) ?_
      refine vi_sub C [1, 0] rfl ?_
      exact kX8_digit_31 C RET   _ _ _ h
    · have h := ob_t h hc5
      refine vi_iconst (v := 1) C dX8_digit_26 (by decide) ?_
      refine vi_goto (tgt := 31) C dX8_digit_27 (by decide) ?_
      refine vi_sub C [1, 0] rfl ?_
      exact kX8_digit_31 C RET   _ _ _ h
  · have h := ob_f h hc1
    refine vi_iconst (v := 0) C dX8_digit_7 (by decide) ?_
    exact vi_donei (W := wR q cI) RET h dX8_digit_8
theorem mX8_digit {E : (Nat → Prop) → State → Heap → Prop} (hE : vEok E) {l : Launch} {D : va_G} {cI cF cC cS cO : ClassId} {q : Nat → Nat} {r0 : Int32} {u0 : vS}  {u : vS} (h : fX8_digit u = some (r0, u0)) : vM E l yX8_digit cX8_digit 2 (some .int) 1 22 D (vT5 cI cF cC cS cO) [.ref (q 0)] (wR q cI u) (vQi D (wR q cI u0) r0) :=
  vM_of hE (by decide +kernel) (Nat.le_of_ble_eq_true rfl) (fun p e s m args below meth c A C hr => kX8_digit_e C (vi_reti C hr) h)
-- ---- X8_hexes
def fX8_hexes_94 (rec_4 : Int32 → Int32 → vS → Option (Int32 × vS)) (x1 : Int32) (x2 : Int32) (x3 : Int32) (x4 : Int32) (x5 : Int32) (u : vS) : Option (Int32 × vS) := bd (up2 u 0 19 (x5 + x4)) fun u1 => bd ((((16 : Int32) * x1) + x3 : Int32)) fun y2 => bd ((x2 + 1 : Int32)) fun y3 => rec_4 y2 y3 u1
set_option maxRecDepth 100000 in
set_option maxHeartbeats 4000000 in
theorem kX8_hexes_94 {E : (Nat → Prop) → State → Heap → Prop} {p : Program} {l : Launch} {e : Env} {s : State} {m : MethodId} {args : Array Value} {below : List Frame} {meth : Method} {c : Code} {A : Nat → Prop} {D : va_G} {cI cF cC cS cO : ClassId} {Q : State → Prop} {q : Nat → Nat} (C : vC E p l s m args meth c A D (vT5 cI cF cC cS cO) cX8_hexes 5 RX8) {r0 : Int32} {u0 : vS} (RET : ∀ (pc : Nat) (lv : List (Nat × Value)), decode cX8_hexes pc = .ok (.ireturn, 1) → vV p l e { frames := 1, cells := 0, slots := 0, locals := 22 } s m args below meth c A D 5 0 0 Q (wR q cI u0) pc lv [.int r0]) {rec_4 : Int32 → Int32 → vS → Option (Int32 × vS)} (REC_4 : ∀ (x1 : Int32) (x2 : Int32) (u : vS), rec_4 x1 x2 u = some (r0, u0) → vV p l e { frames := 1, cells := 0, slots := 0, locals := 22 } s m args below meth c A D 5 0 0 Q (wR q cI u) 4 [(0, .ref (q 0)), (1, .int x1), (2, .int x2)] []) : ∀ (x1 : Int32) (x2 : Int32) (x3 : Int32) (x4 : Int32) (x5 : Int32) (u : vS), fX8_hexes_94 rec_4 x1 x2 x3 x4 x5 u = some (r0, u0) → vV p l e { frames := 1, cells := 0, slots := 0, locals := 22 } s m args below meth c A D 5 0 0 Q (wR q cI u) 94 [(0, .ref (q 0)), (1, .int x1), (2, .int x2), (4, .int x3)] [.int x4, .int x5, .ref (q 0)] := by
  intro x1 x2 x3 x4 x5 u h
  rw [fX8_hexes_94] at h
  refine vi_iadd C dX8_hexes_94 ?_
  obtain ⟨u1, eu1, h⟩ := ob_nm h
  refine pR_19 C dX8_hexes_95 eu1.symm ?_
  refine vi_bipush (v := 16) C dX8_hexes_98 (by decide) ?_
  refine vi_iload_n C 1 dX8_hexes_100 rfl ?_
  refine vi_imul C dX8_hexes_101 ?_
  refine vi_iload C 3 dX8_hexes_102 rfl ?_
  refine vi_iadd C dX8_hexes_104 ?_
  obtain ⟨y2, ey2, h⟩ := ob_nm h
  refine vi_nmi ey2 ?_
  refine vi_istore_n (lv' := [(1, .int y2), (0, .ref (q 0)), (2, .int x2), (4, .int x3)]) C dX8_hexes_105 rfl (by decide) rfl ?_
  obtain ⟨y3, ey3, h⟩ := ob_nm h
  refine vi_iinc (v := y3) (lv' := [(2, .int y3), (1, .int y2), (0, .ref (q 0)), (4, .int x3)]) C 2 dX8_hexes_106 rfl (by rw [ey3]; rfl) (by decide) rfl ?_
  refine vi_goto (tgt := 4) C dX8_hexes_109 (by decide) ?_
  refine vi_sub C [2, 1, 0] rfl ?_
  exact REC_4 _ _ _ h
def fX8_hexes_74 (rec_4 : Int32 → Int32 → vS → Option (Int32 × vS)) (x1 : Int32) (x2 : Int32) (x3 : Int32) (x4 : Int32) (u : vS) : Option (Int32 × vS) := if x4 = 0 ∨ x4 = 1 then bd (up2 u 0 22 x4) fun u1 => (if u1 0 22 = 0 then fX8_hexes_94 rec_4 x1 x2 x3 (1 : Int32) (u1 0 19) u1 else fX8_hexes_94 rec_4 x1 x2 x3 (0 : Int32) (u1 0 19) u1) else none
set_option maxRecDepth 100000 in
set_option maxHeartbeats 4000000 in
theorem kX8_hexes_74 {E : (Nat → Prop) → State → Heap → Prop} {p : Program} {l : Launch} {e : Env} {s : State} {m : MethodId} {args : Array Value} {below : List Frame} {meth : Method} {c : Code} {A : Nat → Prop} {D : va_G} {cI cF cC cS cO : ClassId} {Q : State → Prop} {q : Nat → Nat} (C : vC E p l s m args meth c A D (vT5 cI cF cC cS cO) cX8_hexes 5 RX8) {r0 : Int32} {u0 : vS} (RET : ∀ (pc : Nat) (lv : List (Nat × Value)), decode cX8_hexes pc = .ok (.ireturn, 1) → vV p l e { frames := 1, cells := 0, slots := 0, locals := 22 } s m args below meth c A D 5 0 0 Q (wR q cI u0) pc lv [.int r0]) {rec_4 : Int32 → Int32 → vS → Option (Int32 × vS)} (REC_4 : ∀ (x1 : Int32) (x2 : Int32) (u : vS), rec_4 x1 x2 u = some (r0, u0) → vV p l e { frames := 1, cells := 0, slots := 0, locals := 22 } s m args below meth c A D 5 0 0 Q (wR q cI u) 4 [(0, .ref (q 0)), (1, .int x1), (2, .int x2)] []) : ∀ (x1 : Int32) (x2 : Int32) (x3 : Int32) (x4 : Int32) (u : vS), fX8_hexes_74 rec_4 x1 x2 x3 x4 u = some (r0, u0) → vV p l e { frames := 1, cells := 0, slots := 0, locals := 22 } s m args below meth c A D 5 0 0 Q (wR q cI u) 74 [(0, .ref (q 0)), (1, .int x1), (2, .int x2), (4, .int x3)] [.int x4, .ref (q 0)] := by
  intro x1 x2 x3 x4 u h
  rw [fX8_hexes_74] at h
  obtain ⟨hz2, h⟩ := ob_ok h
  obtain ⟨u1, eu1, h⟩ := ob_nm h
  refine pR_22 C dX8_hexes_74 hz2 eu1.symm ?_
  refine vi_aload_n C 0 dX8_hexes_77 rfl ?_
  refine vi_dup C dX8_hexes_78 rfl ?_
  refine gR_19 C dX8_hexes_79 ?_
  refine vi_aload_n C 0 dX8_hexes_82 rfl ?_
  refine gR_22 C dX8_hexes_83 ?_
  refine vi_if_eq (tgt := 93) C dX8_hexes_86 (by decide) (fun hc3 => ?_) (fun hc3 => ?_)
  · have h := ob_t h hc3
    refine vi_iconst (v := 1) C dX8_hexes_93 (by decide) ?_
    refine vi_sub C [0, 1, 2, 3] rfl ?_
    exact kX8_hexes_94 C RET REC_4  _ _ _ _ _ _ h
  · have h := ob_f h hc3
    refine vi_iconst (v := 0) C dX8_hexes_89 (by decide) ?_
    refine vi_goto (tgt := 94) C dX8_hexes_90 (by decide) ?_
    refine vi_sub C [0, 1, 2, 3] rfl ?_
    exact kX8_hexes_94 C RET REC_4  _ _ _ _ _ _ h
def fX8_hexes_4 : Nat → Int32 → Int32 → vS → Option (Int32 × vS)
  | 0, _, _, _ => none
  | n + 1, x1, x2, u => (if (4 : Int32) ≤ x2 then some (x1, u) else (if u 0 22 = 0 then obp (fX8_sign u) fun y4 u3 => (fX8_isIn y4 (48 : Int32) (57 : Int32)).bind fun y5 => (if y5 = 0 then (fX8_isIn y4 (97 : Int32) (102 : Int32)).bind fun y7 => (if y7 = 0 then (if 0 ≤ (-1 : Int32) then fX8_hexes_74 (fun a0 a1 a2 => fX8_hexes_4 n  a0 a1 a2) x1 x2 (-1 : Int32) (0 : Int32) u3 else fX8_hexes_74 (fun a0 a1 a2 => fX8_hexes_4 n  a0 a1 a2) x1 x2 (-1 : Int32) (1 : Int32) u3) else bd (((y4 - (97 : Int32)) + (10 : Int32) : Int32)) fun y10 => (if 0 ≤ y10 then fX8_hexes_74 (fun a0 a1 a2 => fX8_hexes_4 n  a0 a1 a2) x1 x2 y10 (0 : Int32) u3 else fX8_hexes_74 (fun a0 a1 a2 => fX8_hexes_4 n  a0 a1 a2) x1 x2 y10 (1 : Int32) u3)) else bd ((y4 - (48 : Int32) : Int32)) fun y12 => (if 0 ≤ y12 then fX8_hexes_74 (fun a0 a1 a2 => fX8_hexes_4 n  a0 a1 a2) x1 x2 y12 (0 : Int32) u3 else fX8_hexes_74 (fun a0 a1 a2 => fX8_hexes_4 n  a0 a1 a2) x1 x2 y12 (1 : Int32) u3)) else some (x1, u)))
set_option maxRecDepth 100000 in
set_option maxHeartbeats 4000000 in
theorem kX8_hexes_4 {E : (Nat → Prop) → State → Heap → Prop} {p : Program} {l : Launch} {e : Env} {s : State} {m : MethodId} {args : Array Value} {below : List Frame} {meth : Method} {c : Code} {A : Nat → Prop} {D : va_G} {cI cF cC cS cO : ClassId} {Q : State → Prop} {q : Nat → Nat} (C : vC E p l s m args meth c A D (vT5 cI cF cC cS cO) cX8_hexes 5 RX8) {r0 : Int32} {u0 : vS} (RET : ∀ (pc : Nat) (lv : List (Nat × Value)), decode cX8_hexes pc = .ok (.ireturn, 1) → vV p l e { frames := 1, cells := 0, slots := 0, locals := 22 } s m args below meth c A D 5 0 0 Q (wR q cI u0) pc lv [.int r0]) : ∀ (n : Nat) (x1 : Int32) (x2 : Int32) (u : vS), fX8_hexes_4 n x1 x2 u = some (r0, u0) → vV p l e { frames := 1, cells := 0, slots := 0, locals := 22 } s m args below meth c A D 5 0 0 Q (wR q cI u) 4 [(0, .ref (q 0)), (1, .int x1), (2, .int x2)] [] := by
  intro n
  induction n with
  | zero => intro x1 x2 u h; rw [fX8_hexes_4] at h; cases h
  | succ n ih =>
    intro x1 x2 u h
    rw [fX8_hexes_4] at h
    refine vi_iload_n C 2 dX8_hexes_4 rfl ?_
    refine vi_iconst (v := 4) C dX8_hexes_5 (by decide) ?_
    refine vi_icmp_ge (tgt := 112) C dX8_hexes_6 (by decide) (fun hc1 => ?_) (fun hc1 => ?_)
    · have h := ob_t h hc1
      refine vi_iload_n C 1 dX8_hexes_112 rfl ?_
      exact vi_donei (W := wR q cI) RET h dX8_hexes_113
    · have h := ob_f h hc1
      refine vi_aload_n C 0 dX8_hexes_9 rfl ?_
      refine gR_22 C dX8_hexes_10 ?_
      refine vi_if_ne (tgt := 112) C dX8_hexes_13 (by decide) (fun hc2 => ?_) (fun hc2 => ?_)
      · have h := ob_f h hc2
        refine vi_iload_n C 1 dX8_hexes_112 rfl ?_
        exact vi_donei (W := wR q cI) RET h dX8_hexes_113
      · have h := ob_t h hc2
        refine vi_aload_n C 0 dX8_hexes_16 rfl ?_
        obtain ⟨y4, u3, hgu3, h⟩ := ob_p h
        refine vR_calli (As := []) (rest := []) C (mX8_sign C.2.2.2.2.2.2.2.2.1 hgu3) 0 rfl tcX8_sign tlX8_219 tiX8_sign tsX8_sign rfl tnX8 tdX8_sign ⟨Nat.le_of_ble_eq_true rfl, Nat.le_of_ble_eq_true rfl⟩ rfl (Nat.le_of_ble_eq_true rfl) dX8_hexes_17 ?_
        refine vi_istore_n (lv' := [(3, .int y4), (0, .ref (q 0)), (1, .int x1), (2, .int x2)]) C dX8_hexes_20 rfl (by decide) rfl ?_
        refine vi_iload_n C 0 dX8_hexes_21 rfl ?_
        refine vi_bipush (v := 48) C dX8_hexes_22 (by decide) ?_
        refine vi_bipush (v := 57) C dX8_hexes_24 (by decide) ?_
        obtain ⟨y5, hgy5, h⟩ := ob_bd h
        refine vi_callS0i (As := [.int y4, .int (48 : Int32), .int (57 : Int32)]) (rest := []) C (mX8_isIn C.2.2.2.2.2.2.2.2.1 hgy5) 3 rfl tcX8_isIn tlX8_68 ttX8_isIn tnX8 tdX8_isIn ⟨Nat.le_of_ble_eq_true rfl, Nat.le_of_ble_eq_true rfl⟩ rfl (Nat.le_of_ble_eq_true rfl) dX8_hexes_26 ?_
        refine vi_if_eq (tgt := 39) C dX8_hexes_29 (by decide) (fun hc6 => ?_) (fun hc6 => ?_)
        · have h := ob_t h hc6
          refine vi_iload_n C 0 dX8_hexes_39 rfl ?_
          refine vi_bipush (v := 97) C dX8_hexes_40 (by decide) ?_
          refine vi_bipush (v := 102) C dX8_hexes_42 (by decide) ?_
          obtain ⟨y7, hgy7, h⟩ := ob_bd h
          refine vi_callS0i (As := [.int y4, .int (97 : Int32), .int (102 : Int32)]) (rest := []) C (mX8_isIn C.2.2.2.2.2.2.2.2.1 hgy7) 3 rfl tcX8_isIn tlX8_68 ttX8_isIn tnX8 tdX8_isIn ⟨Nat.le_of_ble_eq_true rfl, Nat.le_of_ble_eq_true rfl⟩ rfl (Nat.le_of_ble_eq_true rfl) dX8_hexes_44 ?_
          refine vi_if_eq (tgt := 60) C dX8_hexes_47 (by decide) (fun hc8 => ?_) (fun hc8 => ?_)
          · have h := ob_t h hc8
            refine vi_iconst (v := (-1)) C dX8_hexes_60 (by decide) ?_
            refine vi_istore (lv' := [(4, .int (-1 : Int32)), (3, .int y4), (0, .ref (q 0)), (1, .int x1), (2, .int x2)]) C dX8_hexes_61 (by decide) rfl ?_
            refine vi_aload_n C 2 dX8_hexes_63 rfl ?_
            refine vi_iload C 0 dX8_hexes_64 rfl ?_
            refine vi_if_ge (tgt := 73) C dX8_hexes_66 (by decide) (fun hc9 => ?_) (fun hc9 => ?_)
            · have h := ob_t h hc9
              refine vi_iconst (v := 0) C dX8_hexes_73 (by decide) ?_
              refine vi_sub C [2, 3, 4, 0] rfl ?_
              exact kX8_hexes_74 C RET ih  _ _ _ _ _ h
            · have h := ob_f h hc9
              refine vi_iconst (v := 1) C dX8_hexes_69 (by decide) ?_
              refine vi_goto (tgt := 74) C dX8_hexes_70 (by decide) ?_
              refine vi_sub C [2, 3, 4, 0] rfl ?_
              exact kX8_hexes_74 C RET ih  _ _ _ _ _ h
          · have h := ob_f h hc8
            refine vi_iload_n C 0 dX8_hexes_50 rfl ?_
            refine vi_bipush (v := 97) C dX8_hexes_51 (by decide) ?_
            refine vi_isub C dX8_hexes_53 ?_
            refine vi_bipush (v := 10) C dX8_hexes_54 (by decide) ?_
            refine vi_iadd C dX8_hexes_56 ?_
            refine vi_goto (tgt := 61) C dX8_hexes_57 (by decide) ?_
            obtain ⟨y10, ey10, h⟩ := ob_nm h
            refine vi_nmi ey10 ?_
            refine vi_istore (lv' := [(4, .int y10), (3, .int y4), (0, .ref (q 0)), (1, .int x1), (2, .int x2)]) C dX8_hexes_61 (by decide) rfl ?_
            refine vi_aload_n C 2 dX8_hexes_63 rfl ?_
            refine vi_iload C 0 dX8_hexes_64 rfl ?_
            refine vi_if_ge (tgt := 73) C dX8_hexes_66 (by decide) (fun hc11 => ?_) (fun hc11 => ?_)
            · have h := ob_t h hc11
              refine vi_iconst (v := 0) C dX8_hexes_73 (by decide) ?_
              refine vi_sub C [2, 3, 4, 0] rfl ?_
              exact kX8_hexes_74 C RET ih  _ _ _ _ _ h
            · have h := ob_f h hc11
              refine vi_iconst (v := 1) C dX8_hexes_69 (by decide) ?_
              refine vi_goto (tgt := 74) C dX8_hexes_70 (by decide) ?_
              refine vi_sub C [2, 3, 4, 0] rfl ?_
              exact kX8_hexes_74 C RET ih  _ _ _ _ _ h
        · have h := ob_f h hc6
          refine vi_iload_n C 0 dX8_hexes_32 rfl ?_
          refine vi_bipush (v := 48) C dX8_hexes_33 (by decide) ?_
          refine vi_isub C dX8_hexes_35 ?_
          refine vi_goto (tgt := 61) C dX8_hexes_36 (by decide) ?_
          obtain ⟨y12, ey12, h⟩ := ob_nm h
          refine vi_nmi ey12 ?_
          refine vi_istore (lv' := [(4, .int y12), (3, .int y4), (0, .ref (q 0)), (1, .int x1), (2, .int x2)]) C dX8_hexes_61 (by decide) rfl ?_
          refine vi_aload_n C 2 dX8_hexes_63 rfl ?_
          refine vi_iload C 0 dX8_hexes_64 rfl ?_
          refine vi_if_ge (tgt := 73) C dX8_hexes_66 (by decide) (fun hc13 => ?_) (fun hc13 => ?_)
          · have h := ob_t h hc13
            refine vi_iconst (v := 0) C dX8_hexes_73 (by decide) ?_
            refine vi_sub C [2, 3, 4, 0] rfl ?_
            exact kX8_hexes_74 C RET ih  _ _ _ _ _ h
          · have h := ob_f h hc13
            refine vi_iconst (v := 1) C dX8_hexes_69 (by decide) ?_
            refine vi_goto (tgt := 74) C dX8_hexes_70 (by decide) ?_
            refine vi_sub C [2, 3, 4, 0] rfl ?_
            exact kX8_hexes_74 C RET ih  _ _ _ _ _ h
def fX8_hexes (u : vS) : Option (Int32 × vS) := fX8_hexes_4 vF (0 : Int32) (0 : Int32) u
set_option maxRecDepth 100000 in
set_option maxHeartbeats 4000000 in
theorem kX8_hexes_e {E : (Nat → Prop) → State → Heap → Prop} {p : Program} {l : Launch} {e : Env} {s : State} {m : MethodId} {args : Array Value} {below : List Frame} {meth : Method} {c : Code} {A : Nat → Prop} {D : va_G} {cI cF cC cS cO : ClassId} {Q : State → Prop} {q : Nat → Nat} (C : vC E p l s m args meth c A D (vT5 cI cF cC cS cO) cX8_hexes 5 RX8) {r0 : Int32} {u0 : vS} (RET : ∀ (pc : Nat) (lv : List (Nat × Value)), decode cX8_hexes pc = .ok (.ireturn, 1) → vV p l e { frames := 1, cells := 0, slots := 0, locals := 22 } s m args below meth c A D 5 0 0 Q (wR q cI u0) pc lv [.int r0]) {u : vS} (h : fX8_hexes u = some (r0, u0)) : vV p l e { frames := 1, cells := 0, slots := 0, locals := 22 } s m args below meth c A D 5 0 0 Q (wR q cI u) 0 [(0, .ref (q 0))] [] := by
  rw [fX8_hexes] at h
  refine vi_iconst (v := 0) C dX8_hexes_0 (by decide) ?_
  refine vi_istore_n (lv' := [(1, .int (0 : Int32)), (0, .ref (q 0))]) C dX8_hexes_1 rfl (by decide) rfl ?_
  refine vi_iconst (v := 0) C dX8_hexes_2 (by decide) ?_
  refine vi_istore_n (lv' := [(2, .int (0 : Int32)), (1, .int (0 : Int32)), (0, .ref (q 0))]) C dX8_hexes_3 rfl (by decide) rfl ?_
  refine vi_sub C [2, 1, 0] rfl ?_
  exact kX8_hexes_4 C RET  vF _ _ _ h
theorem mX8_hexes {E : (Nat → Prop) → State → Heap → Prop} (hE : vEok E) {l : Launch} {D : va_G} {cI cF cC cS cO : ClassId} {q : Nat → Nat} {r0 : Int32} {u0 : vS}  {u : vS} (h : fX8_hexes u = some (r0, u0)) : vM E l yX8_hexes cX8_hexes 5 (some .int) 1 22 D (vT5 cI cF cC cS cO) [.ref (q 0)] (wR q cI u) (vQi D (wR q cI u0) r0) :=
  vM_of hE (by decide +kernel) (Nat.le_of_ble_eq_true rfl) (fun p e s m args below meth c A C hr => kX8_hexes_e C (vi_reti C hr) h)
-- ---- X8_word
def fX8_word_167 : Nat → (Int32 → Int32 → vS → Option (Int32 × vS)) → Int32 → Int32 → Int32 → vS → Option (Int32 × vS)
  | 0, _, _, _, _, _ => none
  | n + 1, rec_25, x1, x2, x3, u => (if (9 : Int32) ≤ x3 then rec_25 x1 x2 u else if x3 < 0 ∨ 9 ≤ Int32.toNatClampNeg x3 then none else (if u 8 (Int32.toNatClampNeg x3) = (1 : Int32) then if x3 < 0 ∨ 10 ≤ Int32.toNatClampNeg x3 then none else if x3 + (1 : Int32) < 0 ∨ 10 ≤ Int32.toNatClampNeg (x3 + (1 : Int32)) then none else (if (u 10 (Int32.toNatClampNeg x3)) + x1 = u 10 (Int32.toNatClampNeg (x3 + (1 : Int32))) then bd ((x3 + 1 : Int32)) fun y9 => fX8_word_167 n rec_25 x1 x3 y9 u else bd ((x3 + 1 : Int32)) fun y8 => fX8_word_167 n rec_25 x1 x2 y8 u) else bd ((x3 + 1 : Int32)) fun y4 => fX8_word_167 n rec_25 x1 x2 y4 u))
set_option maxRecDepth 100000 in
set_option maxHeartbeats 4000000 in
theorem kX8_word_167 {E : (Nat → Prop) → State → Heap → Prop} {p : Program} {l : Launch} {e : Env} {s : State} {m : MethodId} {args : Array Value} {below : List Frame} {meth : Method} {c : Code} {A : Nat → Prop} {D : va_G} {cI cF cC cS cO : ClassId} {Q : State → Prop} {q : Nat → Nat} (C : vC E p l s m args meth c A D (vT5 cI cF cC cS cO) cX8_word 5 RX8) {r0 : Int32} {u0 : vS} (RET : ∀ (pc : Nat) (lv : List (Nat × Value)), decode cX8_word pc = .ok (.ireturn, 1) → vV p l e { frames := 1, cells := 0, slots := 0, locals := 20 } s m args below meth c A D 5 0 0 Q (wR q cI u0) pc lv [.int r0]) {rec_25 : Int32 → Int32 → vS → Option (Int32 × vS)} (REC_25 : ∀ (x1 : Int32) (x2 : Int32) (u : vS), rec_25 x1 x2 u = some (r0, u0) → vV p l e { frames := 1, cells := 0, slots := 0, locals := 20 } s m args below meth c A D 5 0 0 Q (wR q cI u) 25 [(0, .ref (q 0)), (1, .int x1), (2, .int x2)] []) : ∀ (n : Nat) (x1 : Int32) (x2 : Int32) (x3 : Int32) (u : vS), fX8_word_167 n rec_25 x1 x2 x3 u = some (r0, u0) → vV p l e { frames := 1, cells := 0, slots := 0, locals := 20 } s m args below meth c A D 5 0 0 Q (wR q cI u) 167 [(0, .ref (q 0)), (1, .int x1), (2, .int x2), (4, .int x3)] [] := by
  intro n
  induction n with
  | zero => intro x1 x2 x3 u h; rw [fX8_word_167] at h; cases h
  | succ n ih =>
    intro x1 x2 x3 u h
    rw [fX8_word_167] at h
    refine vi_iload C 3 dX8_word_167 rfl ?_
    refine vi_bipush (v := 9) C dX8_word_169 (by decide) ?_
    refine vi_icmp_ge (tgt := 219) C dX8_word_171 (by decide) (fun hc1 => ?_) (fun hc1 => ?_)
    · have h := ob_t h hc1
      refine vi_goto (tgt := 25) C dX8_word_219 (by decide) ?_
      refine vi_sub C [0, 1, 2] rfl ?_
      exact REC_25 _ _ _ h
    · have h := ob_f h hc1
      refine vi_aload_n C 0 dX8_word_174 rfl ?_
      refine gR_15 C dX8_word_175 ?_
      refine vi_iload C 3 dX8_word_178 rfl ?_
      obtain ⟨hz2, h⟩ := ob_if h
      refine lR_8 (n := (Int32.toNatClampNeg x3)) C hz2 rfl dX8_word_180 ?_
      refine vi_iconst (v := 1) C dX8_word_181 (by decide) ?_
      refine vi_icmp_ne (tgt := 211) C dX8_word_182 (by decide) (fun hc3 => ?_) (fun hc3 => ?_)
      · have h := ob_f h hc3
        refine vi_iload_n C 2 dX8_word_211 rfl ?_
        refine vi_istore_n (lv' := [(2, .int x2), (0, .ref (q 0)), (1, .int x1), (4, .int x3)]) C dX8_word_212 rfl (by decide) rfl ?_
        obtain ⟨y4, ey4, h⟩ := ob_nm h
        refine vi_iinc (v := y4) (lv' := [(4, .int y4), (2, .int x2), (0, .ref (q 0)), (1, .int x1)]) C 3 dX8_word_213 rfl (by rw [ey4]; rfl) (by decide) rfl ?_
        refine vi_goto (tgt := 167) C dX8_word_216 (by decide) ?_
        refine vi_sub C [2, 3, 1, 0] rfl ?_
        exact ih _ _ _ _ h
      · have h := ob_t h hc3
        refine vi_aload_n C 0 dX8_word_185 rfl ?_
        refine gR_17 C dX8_word_186 ?_
        refine vi_iload C 3 dX8_word_189 rfl ?_
        obtain ⟨hz5, h⟩ := ob_if h
        refine lR_10 (n := (Int32.toNatClampNeg x3)) C hz5 rfl dX8_word_191 ?_
        refine vi_iload_n C 1 dX8_word_192 rfl ?_
        refine vi_iadd C dX8_word_193 ?_
        refine vi_aload_n C 0 dX8_word_194 rfl ?_
        refine gR_17 C dX8_word_195 ?_
        refine vi_iload C 3 dX8_word_198 rfl ?_
        refine vi_iconst (v := 1) C dX8_word_200 (by decide) ?_
        refine vi_iadd C dX8_word_201 ?_
        obtain ⟨hz6, h⟩ := ob_if h
        refine lR_10 (n := (Int32.toNatClampNeg (x3 + (1 : Int32)))) C hz6 rfl dX8_word_202 ?_
        refine vi_icmp_ne (tgt := 211) C dX8_word_203 (by decide) (fun hc7 => ?_) (fun hc7 => ?_)
        · have h := ob_f h hc7
          refine vi_iload_n C 2 dX8_word_211 rfl ?_
          refine vi_istore_n (lv' := [(2, .int x2), (0, .ref (q 0)), (1, .int x1), (4, .int x3)]) C dX8_word_212 rfl (by decide) rfl ?_
          obtain ⟨y8, ey8, h⟩ := ob_nm h
          refine vi_iinc (v := y8) (lv' := [(4, .int y8), (2, .int x2), (0, .ref (q 0)), (1, .int x1)]) C 3 dX8_word_213 rfl (by rw [ey8]; rfl) (by decide) rfl ?_
          refine vi_goto (tgt := 167) C dX8_word_216 (by decide) ?_
          refine vi_sub C [2, 3, 1, 0] rfl ?_
          exact ih _ _ _ _ h
        · have h := ob_t h hc7
          refine vi_iload C 3 dX8_word_206 rfl ?_
          refine vi_goto (tgt := 212) C dX8_word_208 (by decide) ?_
          refine vi_istore_n (lv' := [(2, .int x3), (0, .ref (q 0)), (1, .int x1), (4, .int x3)]) C dX8_word_212 rfl (by decide) rfl ?_
          obtain ⟨y9, ey9, h⟩ := ob_nm h
          refine vi_iinc (v := y9) (lv' := [(4, .int y9), (2, .int x3), (0, .ref (q 0)), (1, .int x1)]) C 3 dX8_word_213 rfl (by rw [ey9]; rfl) (by decide) rfl ?_
          refine vi_goto (tgt := 167) C dX8_word_216 (by decide) ?_
          refine vi_sub C [2, 3, 1, 0] rfl ?_
          exact ih _ _ _ _ h
def fX8_word_140 (rec_25 : Int32 → Int32 → vS → Option (Int32 × vS)) (x1 : Int32) (x2 : Int32) (x3 : Int32) (x4 : Int32) (u : vS) : Option (Int32 × vS) := if x4 = 0 ∨ x4 = 1 then bd (up2 u 0 22 x4) fun u1 => (if x3 = 0 then bd (up2 u1 0 19 ((u1 0 19) + (0 : Int32))) fun u4 => bd ((x1 + 1 : Int32)) fun y5 => fX8_word_167 vF rec_25 y5 x2 (0 : Int32) u4 else bd (up2 u1 0 19 ((u1 0 19) + (1 : Int32))) fun u6 => bd ((x1 + 1 : Int32)) fun y7 => fX8_word_167 vF rec_25 y7 x2 (0 : Int32) u6) else none
set_option maxRecDepth 100000 in
set_option maxHeartbeats 4000000 in
theorem kX8_word_140 {E : (Nat → Prop) → State → Heap → Prop} {p : Program} {l : Launch} {e : Env} {s : State} {m : MethodId} {args : Array Value} {below : List Frame} {meth : Method} {c : Code} {A : Nat → Prop} {D : va_G} {cI cF cC cS cO : ClassId} {Q : State → Prop} {q : Nat → Nat} (C : vC E p l s m args meth c A D (vT5 cI cF cC cS cO) cX8_word 5 RX8) {r0 : Int32} {u0 : vS} (RET : ∀ (pc : Nat) (lv : List (Nat × Value)), decode cX8_word pc = .ok (.ireturn, 1) → vV p l e { frames := 1, cells := 0, slots := 0, locals := 20 } s m args below meth c A D 5 0 0 Q (wR q cI u0) pc lv [.int r0]) {rec_25 : Int32 → Int32 → vS → Option (Int32 × vS)} (REC_25 : ∀ (x1 : Int32) (x2 : Int32) (u : vS), rec_25 x1 x2 u = some (r0, u0) → vV p l e { frames := 1, cells := 0, slots := 0, locals := 20 } s m args below meth c A D 5 0 0 Q (wR q cI u) 25 [(0, .ref (q 0)), (1, .int x1), (2, .int x2)] []) : ∀ (x1 : Int32) (x2 : Int32) (x3 : Int32) (x4 : Int32) (u : vS), fX8_word_140 rec_25 x1 x2 x3 x4 u = some (r0, u0) → vV p l e { frames := 1, cells := 0, slots := 0, locals := 20 } s m args below meth c A D 5 0 0 Q (wR q cI u) 140 [(0, .ref (q 0)), (1, .int x1), (2, .int x2), (3, .int x3)] [.int x4, .ref (q 0)] := by
  intro x1 x2 x3 x4 u h
  rw [fX8_word_140] at h
  obtain ⟨hz2, h⟩ := ob_ok h
  obtain ⟨u1, eu1, h⟩ := ob_nm h
  refine pR_22 C dX8_word_140 hz2 eu1.symm ?_
  refine vi_aload_n C 0 dX8_word_143 rfl ?_
  refine vi_dup C dX8_word_144 rfl ?_
  refine gR_19 C dX8_word_145 ?_
  refine vi_iload_n C 3 dX8_word_148 rfl ?_
  refine vi_if_eq (tgt := 156) C dX8_word_149 (by decide) (fun hc3 => ?_) (fun hc3 => ?_)
  · have h := ob_t h hc3
    refine vi_iconst (v := 0) C dX8_word_156 (by decide) ?_
    refine vi_iadd C dX8_word_157 ?_
    obtain ⟨u4, eu4, h⟩ := ob_nm h
    refine pR_19 C dX8_word_158 eu4.symm ?_
    obtain ⟨y5, ey5, h⟩ := ob_nm h
    refine vi_iinc (v := y5) (lv' := [(1, .int y5), (0, .ref (q 0)), (2, .int x2), (3, .int x3)]) C 1 dX8_word_161 rfl (by rw [ey5]; rfl) (by decide) rfl ?_
    refine vi_iconst (v := 0) C dX8_word_164 (by decide) ?_
    refine vi_istore (lv' := [(4, .int (0 : Int32)), (1, .int y5), (0, .ref (q 0)), (2, .int x2), (3, .int x3)]) C dX8_word_165 (by decide) rfl ?_
    refine vi_sub C [2, 1, 3, 0] rfl ?_
    exact kX8_word_167 C RET REC_25 vF _ _ _ _ h
  · have h := ob_f h hc3
    refine vi_iconst (v := 1) C dX8_word_152 (by decide) ?_
    refine vi_goto (tgt := 157) C dX8_word_153 (by decide) ?_
    refine vi_iadd C dX8_word_157 ?_
    obtain ⟨u6, eu6, h⟩ := ob_nm h
    refine pR_19 C dX8_word_158 eu6.symm ?_
    obtain ⟨y7, ey7, h⟩ := ob_nm h
    refine vi_iinc (v := y7) (lv' := [(1, .int y7), (0, .ref (q 0)), (2, .int x2), (3, .int x3)]) C 1 dX8_word_161 rfl (by rw [ey7]; rfl) (by decide) rfl ?_
    refine vi_iconst (v := 0) C dX8_word_164 (by decide) ?_
    refine vi_istore (lv' := [(4, .int (0 : Int32)), (1, .int y7), (0, .ref (q 0)), (2, .int x2), (3, .int x3)]) C dX8_word_165 (by decide) rfl ?_
    refine vi_sub C [2, 1, 3, 0] rfl ?_
    exact kX8_word_167 C RET REC_25 vF _ _ _ _ h
def fX8_word_103 (rec_25 : Int32 → Int32 → vS → Option (Int32 × vS)) (rec_41 : Int32 → Int32 → Int32 → Int32 → vS → Option (Int32 × vS)) (x1 : Int32) (x2 : Int32) (x3 : Int32) (x4 : Int32) (x5 : Int32) (x6 : Int32) (x7 : Int32) (u : vS) : Option (Int32 × vS) := if x7 < 0 ∨ 9 ≤ Int32.toNatClampNeg x7 then none else bd (up2 u 8 (Int32.toNatClampNeg x7) (x6 &&& x5)) fun u2 => if x4 < 0 ∨ 9 ≤ Int32.toNatClampNeg x4 then none else (if u2 8 (Int32.toNatClampNeg x4) = (1 : Int32) then bd ((x3 ||| (1 : Int32) : Int32)) fun y7 => bd ((x4 + 1 : Int32)) fun y8 => rec_41 x1 x2 y7 y8 u2 else bd ((x3 ||| (0 : Int32) : Int32)) fun y5 => bd ((x4 + 1 : Int32)) fun y6 => rec_41 x1 x2 y5 y6 u2)
set_option maxRecDepth 100000 in
set_option maxHeartbeats 4000000 in
theorem kX8_word_103 {E : (Nat → Prop) → State → Heap → Prop} {p : Program} {l : Launch} {e : Env} {s : State} {m : MethodId} {args : Array Value} {below : List Frame} {meth : Method} {c : Code} {A : Nat → Prop} {D : va_G} {cI cF cC cS cO : ClassId} {Q : State → Prop} {q : Nat → Nat} (C : vC E p l s m args meth c A D (vT5 cI cF cC cS cO) cX8_word 5 RX8) {r0 : Int32} {u0 : vS} (RET : ∀ (pc : Nat) (lv : List (Nat × Value)), decode cX8_word pc = .ok (.ireturn, 1) → vV p l e { frames := 1, cells := 0, slots := 0, locals := 20 } s m args below meth c A D 5 0 0 Q (wR q cI u0) pc lv [.int r0]) {rec_25 : Int32 → Int32 → vS → Option (Int32 × vS)} (REC_25 : ∀ (x1 : Int32) (x2 : Int32) (u : vS), rec_25 x1 x2 u = some (r0, u0) → vV p l e { frames := 1, cells := 0, slots := 0, locals := 20 } s m args below meth c A D 5 0 0 Q (wR q cI u) 25 [(0, .ref (q 0)), (1, .int x1), (2, .int x2)] []) {rec_41 : Int32 → Int32 → Int32 → Int32 → vS → Option (Int32 × vS)} (REC_41 : ∀ (x1 : Int32) (x2 : Int32) (x3 : Int32) (x4 : Int32) (u : vS), rec_41 x1 x2 x3 x4 u = some (r0, u0) → vV p l e { frames := 1, cells := 0, slots := 0, locals := 20 } s m args below meth c A D 5 0 0 Q (wR q cI u) 41 [(0, .ref (q 0)), (1, .int x1), (2, .int x2), (3, .int x3), (4, .int x4)] []) : ∀ (x1 : Int32) (x2 : Int32) (x3 : Int32) (x4 : Int32) (x5 : Int32) (x6 : Int32) (x7 : Int32) (u : vS), fX8_word_103 rec_25 rec_41 x1 x2 x3 x4 x5 x6 x7 u = some (r0, u0) → vV p l e { frames := 1, cells := 0, slots := 0, locals := 20 } s m args below meth c A D 5 0 0 Q (wR q cI u) 103 [(0, .ref (q 0)), (1, .int x1), (2, .int x2), (3, .int x3), (4, .int x4)] [.int x5, .int x6, .int x7, .ref (q 8)] := by
  intro x1 x2 x3 x4 x5 x6 x7 u h
  rw [fX8_word_103] at h
  refine vi_iand C dX8_word_103 ?_
  obtain ⟨hz1, h⟩ := ob_if h
  obtain ⟨u2, eu2, h⟩ := ob_nm h
  refine sR_8 (n := (Int32.toNatClampNeg x7)) C hz1 rfl dX8_word_104 eu2.symm ?_
  refine vi_iload_n C 3 dX8_word_105 rfl ?_
  refine vi_aload_n C 0 dX8_word_106 rfl ?_
  refine gR_15 C dX8_word_107 ?_
  refine vi_iload C 4 dX8_word_110 rfl ?_
  obtain ⟨hz3, h⟩ := ob_if h
  refine lR_8 (n := (Int32.toNatClampNeg x4)) C hz3 rfl dX8_word_112 ?_
  refine vi_iconst (v := 1) C dX8_word_113 (by decide) ?_
  refine vi_icmp_ne (tgt := 121) C dX8_word_114 (by decide) (fun hc4 => ?_) (fun hc4 => ?_)
  · have h := ob_f h hc4
    refine vi_iconst (v := 0) C dX8_word_121 (by decide) ?_
    refine vi_ior C dX8_word_122 ?_
    obtain ⟨y5, ey5, h⟩ := ob_nm h
    refine vi_nmi ey5 ?_
    refine vi_istore_n (lv' := [(3, .int y5), (0, .ref (q 0)), (1, .int x1), (2, .int x2), (4, .int x4)]) C dX8_word_123 rfl (by decide) rfl ?_
    obtain ⟨y6, ey6, h⟩ := ob_nm h
    refine vi_iinc (v := y6) (lv' := [(4, .int y6), (3, .int y5), (0, .ref (q 0)), (1, .int x1), (2, .int x2)]) C 4 dX8_word_124 rfl (by rw [ey6]; rfl) (by decide) rfl ?_
    refine vi_goto (tgt := 41) C dX8_word_127 (by decide) ?_
    refine vi_sub C [2, 3, 4, 1, 0] rfl ?_
    exact REC_41 _ _ _ _ _ h
  · have h := ob_t h hc4
    refine vi_iconst (v := 1) C dX8_word_117 (by decide) ?_
    refine vi_goto (tgt := 122) C dX8_word_118 (by decide) ?_
    refine vi_ior C dX8_word_122 ?_
    obtain ⟨y7, ey7, h⟩ := ob_nm h
    refine vi_nmi ey7 ?_
    refine vi_istore_n (lv' := [(3, .int y7), (0, .ref (q 0)), (1, .int x1), (2, .int x2), (4, .int x4)]) C dX8_word_123 rfl (by decide) rfl ?_
    obtain ⟨y8, ey8, h⟩ := ob_nm h
    refine vi_iinc (v := y8) (lv' := [(4, .int y8), (3, .int y7), (0, .ref (q 0)), (1, .int x1), (2, .int x2)]) C 4 dX8_word_124 rfl (by rw [ey8]; rfl) (by decide) rfl ?_
    refine vi_goto (tgt := 41) C dX8_word_127 (by decide) ?_
    refine vi_sub C [2, 3, 4, 1, 0] rfl ?_
    exact REC_41 _ _ _ _ _ h
def fX8_word_41 : Nat → (Int32 → Int32 → vS → Option (Int32 × vS)) → Int32 → Int32 → Int32 → Int32 → vS → Option (Int32 × vS)
  | 0, _, _, _, _, _, _ => none
  | n + 1, rec_25, x1, x2, x3, x4, u => (if (9 : Int32) ≤ x4 then (if x3 = 0 then fX8_word_140 rec_25 x1 x2 x3 (1 : Int32) u else fX8_word_140 rec_25 x1 x2 x3 (0 : Int32) u) else if x4 < 0 ∨ 9 ≤ Int32.toNatClampNeg x4 then none else if x4 < 0 ∨ 10 ≤ Int32.toNatClampNeg x4 then none else if x4 + (1 : Int32) < 0 ∨ 10 ≤ Int32.toNatClampNeg (x4 + (1 : Int32)) then none else (if u 10 (Int32.toNatClampNeg (x4 + (1 : Int32))) ≤ (u 10 (Int32.toNatClampNeg x4)) + x1 then fX8_word_103 rec_25 (fun a0 a1 a2 a3 a4 => fX8_word_41 n rec_25 a0 a1 a2 a3 a4) x1 x2 x3 x4 (0 : Int32) (u 8 (Int32.toNatClampNeg x4)) x4 u else if x4 < 0 ∨ 10 ≤ Int32.toNatClampNeg x4 then none else if (u 10 (Int32.toNatClampNeg x4)) + x1 < 0 ∨ 50 ≤ Int32.toNatClampNeg ((u 10 (Int32.toNatClampNeg x4)) + x1) then none else obp (fX8_sign u) fun y10 u9 => (if u 9 (Int32.toNatClampNeg ((u 10 (Int32.toNatClampNeg x4)) + x1)) = y10 then fX8_word_103 rec_25 (fun a0 a1 a2 a3 a4 => fX8_word_41 n rec_25 a0 a1 a2 a3 a4) x1 x2 x3 x4 (1 : Int32) (u 8 (Int32.toNatClampNeg x4)) x4 u9 else fX8_word_103 rec_25 (fun a0 a1 a2 a3 a4 => fX8_word_41 n rec_25 a0 a1 a2 a3 a4) x1 x2 x3 x4 (0 : Int32) (u 8 (Int32.toNatClampNeg x4)) x4 u9)))
set_option maxRecDepth 100000 in
set_option maxHeartbeats 4000000 in
theorem kX8_word_41 {E : (Nat → Prop) → State → Heap → Prop} {p : Program} {l : Launch} {e : Env} {s : State} {m : MethodId} {args : Array Value} {below : List Frame} {meth : Method} {c : Code} {A : Nat → Prop} {D : va_G} {cI cF cC cS cO : ClassId} {Q : State → Prop} {q : Nat → Nat} (C : vC E p l s m args meth c A D (vT5 cI cF cC cS cO) cX8_word 5 RX8) {r0 : Int32} {u0 : vS} (RET : ∀ (pc : Nat) (lv : List (Nat × Value)), decode cX8_word pc = .ok (.ireturn, 1) → vV p l e { frames := 1, cells := 0, slots := 0, locals := 20 } s m args below meth c A D 5 0 0 Q (wR q cI u0) pc lv [.int r0]) {rec_25 : Int32 → Int32 → vS → Option (Int32 × vS)} (REC_25 : ∀ (x1 : Int32) (x2 : Int32) (u : vS), rec_25 x1 x2 u = some (r0, u0) → vV p l e { frames := 1, cells := 0, slots := 0, locals := 20 } s m args below meth c A D 5 0 0 Q (wR q cI u) 25 [(0, .ref (q 0)), (1, .int x1), (2, .int x2)] []) : ∀ (n : Nat) (x1 : Int32) (x2 : Int32) (x3 : Int32) (x4 : Int32) (u : vS), fX8_word_41 n rec_25 x1 x2 x3 x4 u = some (r0, u0) → vV p l e { frames := 1, cells := 0, slots := 0, locals := 20 } s m args below meth c A D 5 0 0 Q (wR q cI u) 41 [(0, .ref (q 0)), (1, .int x1), (2, .int x2), (3, .int x3), (4, .int x4)] [] := by
  intro n
  induction n with
  | zero => intro x1 x2 x3 x4 u h; rw [fX8_word_41] at h; cases h
  | succ n ih =>
    intro x1 x2 x3 x4 u h
    rw [fX8_word_41] at h
    refine vi_iload C 4 dX8_word_41 rfl ?_
    refine vi_bipush (v := 9) C dX8_word_43 (by decide) ?_
    refine vi_icmp_ge (tgt := 130) C dX8_word_45 (by decide) (fun hc1 => ?_) (fun hc1 => ?_)
    · have h := ob_t h hc1
      refine vi_aload_n C 0 dX8_word_130 rfl ?_
      refine vi_iload_n C 3 dX8_word_131 rfl ?_
      refine vi_if_ne (tgt := 139) C dX8_word_132 (by decide) (fun hc2 => ?_) (fun hc2 => ?_)
      · have h := ob_f h hc2
        refine vi_iconst (v := 0) C dX8_word_139 (by decide) ?_
        refine vi_sub C [0, 1, 2, 3] rfl ?_
        exact kX8_word_140 C RET REC_25  _ _ _ _ _ h
      · have h := ob_t h hc2
        refine vi_iconst (v := 1) C dX8_word_135 (by decide) ?_
        refine vi_goto (tgt := 140) C dX8_word_136 (by decide) ?_
        refine vi_sub C [0, 1, 2, 3] rfl ?_
        exact kX8_word_140 C RET REC_25  _ _ _ _ _ h
    · have h := ob_f h hc1
      refine vi_aload_n C 0 dX8_word_48 rfl ?_
      refine gR_15 C dX8_word_49 ?_
      refine vi_iload C 4 dX8_word_52 rfl ?_
      refine vi_dup2 C dX8_word_54 rfl rfl ?_
      obtain ⟨hz3, h⟩ := ob_if h
      refine lR_8 (n := (Int32.toNatClampNeg x4)) C hz3 rfl dX8_word_55 ?_
      refine vi_aload_n C 0 dX8_word_56 rfl ?_
      refine gR_17 C dX8_word_57 ?_
      refine vi_iload C 4 dX8_word_60 rfl ?_
      obtain ⟨hz4, h⟩ := ob_if h
      refine lR_10 (n := (Int32.toNatClampNeg x4)) C hz4 rfl dX8_word_62 ?_
      refine vi_iload_n C 1 dX8_word_63 rfl ?_
      refine vi_iadd C dX8_word_64 ?_
      refine vi_aload_n C 0 dX8_word_65 rfl ?_
      refine gR_17 C dX8_word_66 ?_
      refine vi_iload C 4 dX8_word_69 rfl ?_
      refine vi_iconst (v := 1) C dX8_word_71 (by decide) ?_
      refine vi_iadd C dX8_word_72 ?_
      obtain ⟨hz5, h⟩ := ob_if h
      refine lR_10 (n := (Int32.toNatClampNeg (x4 + (1 : Int32)))) C hz5 rfl dX8_word_73 ?_
      refine vi_icmp_ge (tgt := 102) C dX8_word_74 (by decide) (fun hc6 => ?_) (fun hc6 => ?_)
      · have h := ob_t h hc6
        refine vi_iconst (v := 0) C dX8_word_102 (by decide) ?_
        refine vi_sub C [0, 1, 2, 3, 4] rfl ?_
        exact kX8_word_103 C RET REC_25 ih  _ _ _ _ _ _ _ _ h
      · have h := ob_f h hc6
        refine vi_aload_n C 0 dX8_word_77 rfl ?_
        refine gR_16 C dX8_word_78 ?_
        refine vi_aload_n C 0 dX8_word_81 rfl ?_
        refine gR_17 C dX8_word_82 ?_
        refine vi_iload C 4 dX8_word_85 rfl ?_
        obtain ⟨hz7, h⟩ := ob_if h
        refine lR_10 (n := (Int32.toNatClampNeg x4)) C hz7 rfl dX8_word_87 ?_
        refine vi_iload_n C 1 dX8_word_88 rfl ?_
        refine vi_iadd C dX8_word_89 ?_
        obtain ⟨hz8, h⟩ := ob_if h
        refine lR_9 (n := (Int32.toNatClampNeg ((u 10 (Int32.toNatClampNeg x4)) + x1))) C hz8 rfl dX8_word_90 ?_
        refine vi_aload_n C 0 dX8_word_91 rfl ?_
        obtain ⟨y10, u9, hgu9, h⟩ := ob_p h
        refine vR_calli (As := []) (rest := [.int (u 9 (Int32.toNatClampNeg ((u 10 (Int32.toNatClampNeg x4)) + x1))), .int (u 8 (Int32.toNatClampNeg x4)), .int x4, .ref (q 8)]) C (mX8_sign C.2.2.2.2.2.2.2.2.1 hgu9) 0 rfl tcX8_sign tlX8_219 tiX8_sign tsX8_sign rfl tnX8 tdX8_sign ⟨Nat.le_of_ble_eq_true rfl, Nat.le_of_ble_eq_true rfl⟩ rfl (Nat.le_of_ble_eq_true rfl) dX8_word_92 ?_
        refine vi_icmp_ne (tgt := 102) C dX8_word_95 (by decide) (fun hc11 => ?_) (fun hc11 => ?_)
        · have h := ob_f h hc11
          refine vi_iconst (v := 0) C dX8_word_102 (by decide) ?_
          refine vi_sub C [0, 1, 2, 3, 4] rfl ?_
          exact kX8_word_103 C RET REC_25 ih  _ _ _ _ _ _ _ _ h
        · have h := ob_t h hc11
          refine vi_iconst (v := 1) C dX8_word_98 (by decide) ?_
          refine vi_goto (tgt := 103) C dX8_word_99 (by decide) ?_
          refine vi_sub C [0, 1, 2, 3, 4] rfl ?_
          exact kX8_word_103 C RET REC_25 ih  _ _ _ _ _ _ _ _ h
def fX8_word_25 : Nat → Int32 → Int32 → vS → Option (Int32 × vS)
  | 0, _, _, _ => none
  | n + 1, x1, x2, u => (if 0 ≤ x2 then some (x2, u) else (if u 0 22 = 0 then fX8_word_41 vF (fun a0 a1 a2 => fX8_word_25 n  a0 a1 a2) x1 x2 (0 : Int32) (0 : Int32) u else some (x2, u)))
set_option maxRecDepth 100000 in
set_option maxHeartbeats 4000000 in
theorem kX8_word_25 {E : (Nat → Prop) → State → Heap → Prop} {p : Program} {l : Launch} {e : Env} {s : State} {m : MethodId} {args : Array Value} {below : List Frame} {meth : Method} {c : Code} {A : Nat → Prop} {D : va_G} {cI cF cC cS cO : ClassId} {Q : State → Prop} {q : Nat → Nat} (C : vC E p l s m args meth c A D (vT5 cI cF cC cS cO) cX8_word 5 RX8) {r0 : Int32} {u0 : vS} (RET : ∀ (pc : Nat) (lv : List (Nat × Value)), decode cX8_word pc = .ok (.ireturn, 1) → vV p l e { frames := 1, cells := 0, slots := 0, locals := 20 } s m args below meth c A D 5 0 0 Q (wR q cI u0) pc lv [.int r0]) : ∀ (n : Nat) (x1 : Int32) (x2 : Int32) (u : vS), fX8_word_25 n x1 x2 u = some (r0, u0) → vV p l e { frames := 1, cells := 0, slots := 0, locals := 20 } s m args below meth c A D 5 0 0 Q (wR q cI u) 25 [(0, .ref (q 0)), (1, .int x1), (2, .int x2)] [] := by
  intro n
  induction n with
  | zero => intro x1 x2 u h; rw [fX8_word_25] at h; cases h
  | succ n ih =>
    intro x1 x2 u h
    rw [fX8_word_25] at h
    refine vi_iload_n C 2 dX8_word_25 rfl ?_
    refine vi_if_ge (tgt := 222) C dX8_word_26 (by decide) (fun hc1 => ?_) (fun hc1 => ?_)
    · have h := ob_t h hc1
      refine vi_iload_n C 2 dX8_word_222 rfl ?_
      exact vi_donei (W := wR q cI) RET h dX8_word_223
    · have h := ob_f h hc1
      refine vi_aload_n C 0 dX8_word_29 rfl ?_
      refine gR_22 C dX8_word_30 ?_
      refine vi_if_ne (tgt := 222) C dX8_word_33 (by decide) (fun hc2 => ?_) (fun hc2 => ?_)
      · have h := ob_f h hc2
        refine vi_iload_n C 2 dX8_word_222 rfl ?_
        exact vi_donei (W := wR q cI) RET h dX8_word_223
      · have h := ob_t h hc2
        refine vi_iconst (v := 0) C dX8_word_36 (by decide) ?_
        refine vi_istore_n (lv' := [(3, .int (0 : Int32)), (0, .ref (q 0)), (1, .int x1), (2, .int x2)]) C dX8_word_37 rfl (by decide) rfl ?_
        refine vi_iconst (v := 0) C dX8_word_38 (by decide) ?_
        refine vi_istore (lv' := [(4, .int (0 : Int32)), (3, .int (0 : Int32)), (0, .ref (q 0)), (1, .int x1), (2, .int x2)]) C dX8_word_39 (by decide) rfl ?_
        refine vi_sub C [2, 3, 4, 1, 0] rfl ?_
        exact kX8_word_41 C RET ih vF _ _ _ _ _ h
def fX8_word_2 : Nat → Int32 → vS → Option (Int32 × vS)
  | 0, _, _ => none
  | n + 1, x1, u => (if (9 : Int32) ≤ x1 then fX8_word_25 vF (0 : Int32) (-1 : Int32) u else if x1 < 0 ∨ 9 ≤ Int32.toNatClampNeg x1 then none else bd (up2 u 8 (Int32.toNatClampNeg x1) (1 : Int32)) fun u3 => bd ((x1 + 1 : Int32)) fun y4 => fX8_word_2 n y4 u3)
set_option maxRecDepth 100000 in
set_option maxHeartbeats 4000000 in
theorem kX8_word_2 {E : (Nat → Prop) → State → Heap → Prop} {p : Program} {l : Launch} {e : Env} {s : State} {m : MethodId} {args : Array Value} {below : List Frame} {meth : Method} {c : Code} {A : Nat → Prop} {D : va_G} {cI cF cC cS cO : ClassId} {Q : State → Prop} {q : Nat → Nat} (C : vC E p l s m args meth c A D (vT5 cI cF cC cS cO) cX8_word 5 RX8) {r0 : Int32} {u0 : vS} (RET : ∀ (pc : Nat) (lv : List (Nat × Value)), decode cX8_word pc = .ok (.ireturn, 1) → vV p l e { frames := 1, cells := 0, slots := 0, locals := 20 } s m args below meth c A D 5 0 0 Q (wR q cI u0) pc lv [.int r0]) : ∀ (n : Nat) (x1 : Int32) (u : vS), fX8_word_2 n x1 u = some (r0, u0) → vV p l e { frames := 1, cells := 0, slots := 0, locals := 20 } s m args below meth c A D 5 0 0 Q (wR q cI u) 2 [(0, .ref (q 0)), (1, .int x1)] [] := by
  intro n
  induction n with
  | zero => intro x1 u h; rw [fX8_word_2] at h; cases h
  | succ n ih =>
    intro x1 u h
    rw [fX8_word_2] at h
    refine vi_iload_n C 1 dX8_word_2 rfl ?_
    refine vi_bipush (v := 9) C dX8_word_3 (by decide) ?_
    refine vi_icmp_ge (tgt := 21) C dX8_word_5 (by decide) (fun hc1 => ?_) (fun hc1 => ?_)
    · have h := ob_t h hc1
      refine vi_iconst (v := 0) C dX8_word_21 (by decide) ?_
      refine vi_istore_n (lv' := [(1, .int (0 : Int32)), (0, .ref (q 0))]) C dX8_word_22 rfl (by decide) rfl ?_
      refine vi_iconst (v := (-1)) C dX8_word_23 (by decide) ?_
      refine vi_istore_n (lv' := [(2, .int (-1 : Int32)), (1, .int (0 : Int32)), (0, .ref (q 0))]) C dX8_word_24 rfl (by decide) rfl ?_
      refine vi_sub C [2, 1, 0] rfl ?_
      exact kX8_word_25 C RET  vF _ _ _ h
    · have h := ob_f h hc1
      refine vi_aload_n C 0 dX8_word_8 rfl ?_
      refine gR_15 C dX8_word_9 ?_
      refine vi_iload_n C 1 dX8_word_12 rfl ?_
      refine vi_iconst (v := 1) C dX8_word_13 (by decide) ?_
      obtain ⟨hz2, h⟩ := ob_if h
      obtain ⟨u3, eu3, h⟩ := ob_nm h
      refine sR_8 (n := (Int32.toNatClampNeg x1)) C hz2 rfl dX8_word_14 eu3.symm ?_
      obtain ⟨y4, ey4, h⟩ := ob_nm h
      refine vi_iinc (v := y4) (lv' := [(1, .int y4), (0, .ref (q 0))]) C 1 dX8_word_15 rfl (by rw [ey4]; rfl) (by decide) rfl ?_
      refine vi_goto (tgt := 2) C dX8_word_18 (by decide) ?_
      refine vi_sub C [1, 0] rfl ?_
      exact ih _ _ h
def fX8_word (u : vS) : Option (Int32 × vS) := fX8_word_2 vF (0 : Int32) u
set_option maxRecDepth 100000 in
set_option maxHeartbeats 4000000 in
theorem kX8_word_e {E : (Nat → Prop) → State → Heap → Prop} {p : Program} {l : Launch} {e : Env} {s : State} {m : MethodId} {args : Array Value} {below : List Frame} {meth : Method} {c : Code} {A : Nat → Prop} {D : va_G} {cI cF cC cS cO : ClassId} {Q : State → Prop} {q : Nat → Nat} (C : vC E p l s m args meth c A D (vT5 cI cF cC cS cO) cX8_word 5 RX8) {r0 : Int32} {u0 : vS} (RET : ∀ (pc : Nat) (lv : List (Nat × Value)), decode cX8_word pc = .ok (.ireturn, 1) → vV p l e { frames := 1, cells := 0, slots := 0, locals := 20 } s m args below meth c A D 5 0 0 Q (wR q cI u0) pc lv [.int r0]) {u : vS} (h : fX8_word u = some (r0, u0)) : vV p l e { frames := 1, cells := 0, slots := 0, locals := 20 } s m args below meth c A D 5 0 0 Q (wR q cI u) 0 [(0, .ref (q 0))] [] := by
  rw [fX8_word] at h
  refine vi_iconst (v := 0) C dX8_word_0 (by decide) ?_
  refine vi_istore_n (lv' := [(1, .int (0 : Int32)), (0, .ref (q 0))]) C dX8_word_1 rfl (by decide) rfl ?_
  refine vi_sub C [1, 0] rfl ?_
  exact kX8_word_2 C RET  vF _ _ h
theorem mX8_word {E : (Nat → Prop) → State → Heap → Prop} (hE : vEok E) {l : Launch} {D : va_G} {cI cF cC cS cO : ClassId} {q : Nat → Nat} {r0 : Int32} {u0 : vS}  {u : vS} (h : fX8_word u = some (r0, u0)) : vM E l yX8_word cX8_word 5 (some .int) 1 20 D (vT5 cI cF cC cS cO) [.ref (q 0)] (wR q cI u) (vQi D (wR q cI u0) r0) :=
  vM_of hE (by decide +kernel) (Nat.le_of_ble_eq_true rfl) (fun p e s m args below meth c A C hr => kX8_word_e C (vi_reti C hr) h)
