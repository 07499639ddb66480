-- ---- X8_passes
def fX8_passes_40 (rec_12 : Int32 → vS → Option (Int32 × vS)) (x1 : Int32) (x2 : Int32) (u : vS) : Option (Int32 × vS) := (fX8_at x1 (0 : Int32)).bind fun y1 => (fX8_at x1 (0 : Int32)).bind fun y2 => if y2 < 0 ∨ 66 ≤ Int32.toNatClampNeg y2 then none else (fX8_turned (u 1 (Int32.toNatClampNeg y2))).bind fun y4 => if y1 < 0 ∨ 66 ≤ Int32.toNatClampNeg y1 then none else bd (up2 u 1 (Int32.toNatClampNeg y1) y4) fun u6 => (fX8_at x1 (1 : Int32)).bind fun y7 => if y7 < 0 ∨ 66 ≤ Int32.toNatClampNeg y7 then none else if y7 < 0 ∨ 66 ≤ Int32.toNatClampNeg y7 then none else bd (up2 u6 1 (Int32.toNatClampNeg y7) ((u6 1 (Int32.toNatClampNeg y7)) - x2)) fun u10 => bd (up2 u10 1 6 ((u10 1 6) + x2)) fun u11 => (if (u11 1 1) - (u11 1 1) / (4 : Int32) * (4 : Int32) = 0 then (fX8_at x1 (2 : Int32)).bind fun y14 => (fX8_at x1 (2 : Int32)).bind fun y15 => if y15 < 0 ∨ 66 ≤ Int32.toNatClampNeg y15 then none else if y14 < 0 ∨ 66 ≤ Int32.toNatClampNeg y14 then none else bd (up2 u11 1 (Int32.toNatClampNeg y14) (((u11 1 (Int32.toNatClampNeg y15)) + (1 : Int32)) - ((u11 1 (Int32.toNatClampNeg y15)) + (1 : Int32)) / (4 : Int32) * (4 : Int32))) fun u18 => bd ((x1 + 1 : Int32)) fun y19 => rec_12 y19 u18 else bd ((x1 + 1 : Int32)) fun y13 => rec_12 y13 u11)
set_option maxRecDepth 100000 in
set_option maxHeartbeats 4000000 in
theorem kX8_passes_40 {E : (Nat → Prop) → State → Heap → Prop} {p : Program} {l : Launch} {e : Env} {s : State} {m : MethodId} {args : Array Value} {below : List Frame} {meth : Method} {c : Code} {A : Nat → Prop} {D : va_G} {cI cF cC cS cO : ClassId} {Q : State → Prop} {q : Nat → Nat} (C : vC E p l s m args meth c A D (vT5 cI cF cC cS cO) cX8_passes 3 RX8) {r0 : Int32} {u0 : vS} (RET : ∀ (pc : Nat) (lv : List (Nat × Value)), decode cX8_passes pc = .ok (.ireturn, 1) → vV p l e { frames := 2, cells := 0, slots := 0, locals := 43 } s m args below meth c A D 3 0 0 Q (wR q cI u0) pc lv [.int r0]) {rec_12 : Int32 → vS → Option (Int32 × vS)} (REC_12 : ∀ (x1 : Int32) (u : vS), rec_12 x1 u = some (r0, u0) → vV p l e { frames := 2, cells := 0, slots := 0, locals := 43 } s m args below meth c A D 3 0 0 Q (wR q cI u) 12 [(0, .ref (q 0)), (1, .int x1)] []) : ∀ (x1 : Int32) (x2 : Int32) (u : vS), fX8_passes_40 rec_12 x1 x2 u = some (r0, u0) → vV p l e { frames := 2, cells := 0, slots := 0, locals := 43 } s m args below meth c A D 3 0 0 Q (wR q cI u) 40 [(0, .ref (q 0)), (1, .int x1)] [.int x2] := by
  intro x1 x2 u h
  rw [fX8_passes_40] at h
  refine vi_istore_n (lv' := [(2, .int x2), (0, .ref (q 0)), (1, .int x1)]) C dX8_passes_40 rfl (by decide) rfl ?_
  refine vi_aload_n C 1 dX8_passes_41 rfl ?_
  refine gR_8 C dX8_passes_42 ?_
  refine vi_iload_n C 2 dX8_passes_45 rfl ?_
  refine vi_iconst (v := 0) C dX8_passes_46 (by decide) ?_
  obtain ⟨y1, hgy1, h⟩ := ob_bd h
  refine vi_callS0i (As := [.int x1, .int (0 : Int32)]) (rest := [.ref (q 1)]) C (mX8_at C.2.2.2.2.2.2.2.2.1 hgy1) 2 rfl tcX8_at tlX8_73 ttX8_at tnX8 tdX8_at ⟨Nat.le_of_ble_eq_true rfl, Nat.le_of_ble_eq_true rfl⟩ rfl (Nat.le_of_ble_eq_true rfl) dX8_passes_47 ?_
  refine vi_aload_n C 1 dX8_passes_50 rfl ?_
  refine gR_8 C dX8_passes_51 ?_
  refine vi_iload_n C 2 dX8_passes_54 rfl ?_
  refine vi_iconst (v := 0) C dX8_passes_55 (by decide) ?_
  obtain ⟨y2, hgy2, h⟩ := ob_bd h
  refine vi_callS0i (As := [.int x1, .int (0 : Int32)]) (rest := [.ref (q 1), .int y1, .ref (q 1)]) C (mX8_at C.2.2.2.2.2.2.2.2.1 hgy2) 2 rfl tcX8_at tlX8_73 ttX8_at tnX8 tdX8_at ⟨Nat.le_of_ble_eq_true rfl, Nat.le_of_ble_eq_true rfl⟩ rfl (Nat.le_of_ble_eq_true rfl) dX8_passes_56 ?_
  obtain ⟨hz3, h⟩ := ob_if h
  refine lR_1 (n := (Int32.toNatClampNeg y2)) C hz3 rfl dX8_passes_59 ?_
  obtain ⟨y4, hgy4, h⟩ := ob_bd h
  refine vi_callS0i (As := [.int (u 1 (Int32.toNatClampNeg y2))]) (rest := [.int y1, .ref (q 1)]) C (mX8_turned C.2.2.2.2.2.2.2.2.1 hgy4) 1 rfl tcX8_turned tlX8_153 ttX8_turned tnX8 tdX8_turned ⟨Nat.le_of_ble_eq_true rfl, Nat.le_of_ble_eq_true rfl⟩ rfl (Nat.le_of_ble_eq_true rfl) dX8_passes_60 ?_
  obtain ⟨hz5, h⟩ := ob_if h
  obtain ⟨u6, eu6, h⟩ := ob_nm h
  refine sR_1 (n := (Int32.toNatClampNeg y1)) C hz5 rfl dX8_passes_63 eu6.symm ?_
  refine vi_aload_n C 1 dX8_passes_64 rfl ?_
  refine gR_8 C dX8_passes_65 ?_
  refine vi_iload_n C 2 dX8_passes_68 rfl ?_
  refine vi_iconst (v := 1) C dX8_passes_69 (by decide) ?_
  obtain ⟨y7, hgy7, h⟩ := ob_bd h
  refine vi_callS0i (As := [.int x1, .int (1 : Int32)]) (rest := [.ref (q 1)]) C (mX8_at C.2.2.2.2.2.2.2.2.1 hgy7) 2 rfl tcX8_at tlX8_73 ttX8_at tnX8 tdX8_at ⟨Nat.le_of_ble_eq_true rfl, Nat.le_of_ble_eq_true rfl⟩ rfl (Nat.le_of_ble_eq_true rfl) dX8_passes_70 ?_
  refine vi_dup2 C dX8_passes_73 rfl rfl ?_
  obtain ⟨hz8, h⟩ := ob_if h
  refine lR_1 (n := (Int32.toNatClampNeg y7)) C hz8 rfl dX8_passes_74 ?_
  refine vi_iload_n C 0 dX8_passes_75 rfl ?_
  refine vi_isub C dX8_passes_76 ?_
  obtain ⟨hz9, h⟩ := ob_if h
  obtain ⟨u10, eu10, h⟩ := ob_nm h
  refine sR_1 (n := (Int32.toNatClampNeg y7)) C hz9 rfl dX8_passes_77 eu10.symm ?_
  refine vi_aload_n C 1 dX8_passes_78 rfl ?_
  refine gR_8 C dX8_passes_79 ?_
  refine vi_bipush (v := 6) C dX8_passes_82 (by decide) ?_
  refine vi_dup2 C dX8_passes_84 rfl rfl ?_
  refine lR_1 (n := 6) C (by decide) rfl dX8_passes_85 ?_
  refine vi_iload_n C 0 dX8_passes_86 rfl ?_
  refine vi_iadd C dX8_passes_87 ?_
  obtain ⟨u11, eu11, h⟩ := ob_nm h
  refine sR_1 (n := 6) C (by decide) rfl dX8_passes_88 eu11.symm ?_
  refine vi_aload_n C 1 dX8_passes_89 rfl ?_
  refine gR_8 C dX8_passes_90 ?_
  refine vi_iconst (v := 1) C dX8_passes_93 (by decide) ?_
  refine lR_1 (n := 1) C (by decide) rfl dX8_passes_94 ?_
  refine vi_iconst (v := 4) C dX8_passes_95 (by decide) ?_
  refine vi_irem C dX8_passes_96 (by decide) ?_
  refine vi_if_ne (tgt := 124) C dX8_passes_97 (by decide) (fun hc12 => ?_) (fun hc12 => ?_)
  · have h := ob_f h hc12
    obtain ⟨y13, ey13, h⟩ := ob_nm h
    refine vi_iinc (v := y13) (lv' := [(1, .int y13), (2, .int x2), (0, .ref (q 0))]) C 2 dX8_passes_124 rfl (by rw [ey13]; rfl) (by decide) rfl ?_
    refine vi_goto (tgt := 12) C dX8_passes_127 (by decide) ?_
    refine vi_sub C [2, 0] rfl ?_
    exact REC_12 _ _ h
  · have h := ob_t h hc12
    refine vi_aload_n C 1 dX8_passes_100 rfl ?_
    refine gR_8 C dX8_passes_101 ?_
    refine vi_iload_n C 2 dX8_passes_104 rfl ?_
    refine vi_iconst (v := 2) C dX8_passes_105 (by decide) ?_
    obtain ⟨y14, hgy14, h⟩ := ob_bd h
    refine vi_callS0i (As := [.int x1, .int (2 : Int32)]) (rest := [.ref (q 1)]) C (mX8_at C.2.2.2.2.2.2.2.2.1 hgy14) 2 rfl tcX8_at tlX8_73 ttX8_at tnX8 tdX8_at ⟨Nat.le_of_ble_eq_true rfl, Nat.le_of_ble_eq_true rfl⟩ rfl (Nat.le_of_ble_eq_true rfl) dX8_passes_106 ?_
    refine vi_aload_n C 1 dX8_passes_109 rfl ?_
    refine gR_8 C dX8_passes_110 ?_
    refine vi_iload_n C 2 dX8_passes_113 rfl ?_
    refine vi_iconst (v := 2) C dX8_passes_114 (by decide) ?_
    obtain ⟨y15, hgy15, h⟩ := ob_bd h
    refine vi_callS0i (As := [.int x1, .int (2 : Int32)]) (rest := [.ref (q 1), .int y14, .ref (q 1)]) C (mX8_at C.2.2.2.2.2.2.2.2.1 hgy15) 2 rfl tcX8_at tlX8_73 ttX8_at tnX8 tdX8_at ⟨Nat.le_of_ble_eq_true rfl, Nat.le_of_ble_eq_true rfl⟩ rfl (Nat.le_of_ble_eq_true rfl) dX8_passes_115 ?_
    obtain ⟨hz16, h⟩ := ob_if h
    refine lR_1 (n := (Int32.toNatClampNeg y15)) C hz16 rfl dX8_passes_118 ?_
    refine vi_iconst (v := 1) C dX8_passes_119 (by decide) ?_
    refine vi_iadd C dX8_passes_120 ?_
    refine vi_iconst (v := 4) C dX8_passes_121 (by decide) ?_
    refine vi_irem C dX8_passes_122 (by decide) ?_
    obtain ⟨hz17, h⟩ := ob_if h
    obtain ⟨u18, eu18, h⟩ := ob_nm h
    refine sR_1 (n := (Int32.toNatClampNeg y14)) C hz17 rfl dX8_passes_123 eu18.symm ?_
    obtain ⟨y19, ey19, h⟩ := ob_nm h
    refine vi_iinc (v := y19) (lv' := [(1, .int y19), (2, .int x2), (0, .ref (q 0))]) C 2 dX8_passes_124 rfl (by rw [ey19]; rfl) (by decide) rfl ?_
    refine vi_goto (tgt := 12) C dX8_passes_127 (by decide) ?_
    refine vi_sub C [2, 0] rfl ?_
    exact REC_12 _ _ h
def fX8_passes_12 : Nat → Int32 → vS → Option (Int32 × vS)
  | 0, _, _ => none
  | n + 1, x1, u => (if u 1 0 ≤ x1 then obp (fX8_allRum u) fun y3 u2 => some (y3, u2) else (fX8_at x1 (1 : Int32)).bind fun y4 => if y4 < 0 ∨ 66 ≤ Int32.toNatClampNeg y4 then none else (if u 1 (Int32.toNatClampNeg y4) ≤ 0 then fX8_passes_40 (fun a0 a1 => fX8_passes_12 n  a0 a1) x1 (0 : Int32) u else fX8_passes_40 (fun a0 a1 => fX8_passes_12 n  a0 a1) x1 (1 : Int32) u))
set_option maxRecDepth 100000 in
set_option maxHeartbeats 4000000 in
theorem kX8_passes_12 {E : (Nat → Prop) → State → Heap → Prop} {p : Program} {l : Launch} {e : Env} {s : State} {m : MethodId} {args : Array Value} {below : List Frame} {meth : Method} {c : Code} {A : Nat → Prop} {D : va_G} {cI cF cC cS cO : ClassId} {Q : State → Prop} {q : Nat → Nat} (C : vC E p l s m args meth c A D (vT5 cI cF cC cS cO) cX8_passes 3 RX8) {r0 : Int32} {u0 : vS} (RET : ∀ (pc : Nat) (lv : List (Nat × Value)), decode cX8_passes pc = .ok (.ireturn, 1) → vV p l e { frames := 2, cells := 0, slots := 0, locals := 43 } s m args below meth c A D 3 0 0 Q (wR q cI u0) pc lv [.int r0]) : ∀ (n : Nat) (x1 : Int32) (u : vS), fX8_passes_12 n x1 u = some (r0, u0) → vV p l e { frames := 2, cells := 0, slots := 0, locals := 43 } s m args below meth c A D 3 0 0 Q (wR q cI u) 12 [(0, .ref (q 0)), (1, .int x1)] [] := by
  intro n
  induction n with
  | zero => intro x1 u h; rw [fX8_passes_12] at h; cases h
  | succ n ih =>
    intro x1 u h
    rw [fX8_passes_12] at h
    refine vi_iload_n C 1 dX8_passes_12 rfl ?_
    refine vi_aload_n C 0 dX8_passes_13 rfl ?_
    refine gR_8 C dX8_passes_14 ?_
    refine vi_iconst (v := 0) C dX8_passes_17 (by decide) ?_
    refine lR_1 (n := 0) C (by decide) rfl dX8_passes_18 ?_
    refine vi_icmp_ge (tgt := 130) C dX8_passes_19 (by decide) (fun hc1 => ?_) (fun hc1 => ?_)
    · have h := ob_t h hc1
      refine vi_aload_n C 0 dX8_passes_130 rfl ?_
      obtain ⟨y3, u2, hgu2, h⟩ := ob_p h
      refine vR_calli (As := []) (rest := []) C (mX8_allRum C.2.2.2.2.2.2.2.2.1 hgu2) 0 rfl tcX8_allRum tlX8_156 tiX8_allRum tsX8_allRum rfl tnX8 tdX8_allRum ⟨Nat.le_of_ble_eq_true rfl, Nat.le_of_ble_eq_true rfl⟩ rfl (Nat.le_of_ble_eq_true rfl) dX8_passes_131 ?_
      exact vi_donei (W := wR q cI) RET h dX8_passes_134
    · have h := ob_f h hc1
      refine vi_aload_n C 0 dX8_passes_22 rfl ?_
      refine gR_8 C dX8_passes_23 ?_
      refine vi_iload_n C 1 dX8_passes_26 rfl ?_
      refine vi_iconst (v := 1) C dX8_passes_27 (by decide) ?_
      obtain ⟨y4, hgy4, h⟩ := ob_bd h
      refine vi_callS0i (As := [.int x1, .int (1 : Int32)]) (rest := [.ref (q 1)]) C (mX8_at C.2.2.2.2.2.2.2.2.1 hgy4) 2 rfl tcX8_at tlX8_73 ttX8_at tnX8 tdX8_at ⟨Nat.le_of_ble_eq_true rfl, Nat.le_of_ble_eq_true rfl⟩ rfl (Nat.le_of_ble_eq_true rfl) dX8_passes_28 ?_
      obtain ⟨hz5, h⟩ := ob_if h
      refine lR_1 (n := (Int32.toNatClampNeg y4)) C hz5 rfl dX8_passes_31 ?_
      refine vi_if_le (tgt := 39) C dX8_passes_32 (by decide) (fun hc6 => ?_) (fun hc6 => ?_)
      · have h := ob_t h hc6
        refine vi_iconst (v := 0) C dX8_passes_39 (by decide) ?_
        refine vi_sub C [0, 1] rfl ?_
        exact kX8_passes_40 C RET ih  _ _ _ h
      · have h := ob_f h hc6
        refine vi_iconst (v := 1) C dX8_passes_35 (by decide) ?_
        refine vi_goto (tgt := 40) C dX8_passes_36 (by decide) ?_
        refine vi_sub C [0, 1] rfl ?_
        exact kX8_passes_40 C RET ih  _ _ _ h
def fX8_passes (u : vS) : Option (Int32 × vS) := bd (up2 u 1 1 ((u 1 1) + (1 : Int32))) fun u1 => fX8_passes_12 vF (0 : Int32) u1
set_option maxRecDepth 100000 in
set_option maxHeartbeats 4000000 in
theorem kX8_passes_e {E : (Nat → Prop) → State → Heap → Prop} {p : Program} {l : Launch} {e : Env} {s : State} {m : MethodId} {args : Array Value} {below : List Frame} {meth : Method} {c : Code} {A : Nat → Prop} {D : va_G} {cI cF cC cS cO : ClassId} {Q : State → Prop} {q : Nat → Nat} (C : vC E p l s m args meth c A D (vT5 cI cF cC cS cO) cX8_passes 3 RX8) {r0 : Int32} {u0 : vS} (RET : ∀ (pc : Nat) (lv : List (Nat × Value)), decode cX8_passes pc = .ok (.ireturn, 1) → vV p l e { frames := 2, cells := 0, slots := 0, locals := 43 } s m args below meth c A D 3 0 0 Q (wR q cI u0) pc lv [.int r0]) {u : vS} (h : fX8_passes u = some (r0, u0)) : vV p l e { frames := 2, cells := 0, slots := 0, locals := 43 } s m args below meth c A D 3 0 0 Q (wR q cI u) 0 [(0, .ref (q 0))] [] := by
  rw [fX8_passes] at h
  refine vi_aload_n C 0 dX8_passes_0 rfl ?_
  refine gR_8 C dX8_passes_1 ?_
  refine vi_iconst (v := 1) C dX8_passes_4 (by decide) ?_
  refine vi_dup2 C dX8_passes_5 rfl rfl ?_
  refine lR_1 (n := 1) C (by decide) rfl dX8_passes_6 ?_
  refine vi_iconst (v := 1) C dX8_passes_7 (by decide) ?_
  refine vi_iadd C dX8_passes_8 ?_
  obtain ⟨u1, eu1, h⟩ := ob_nm h
  refine sR_1 (n := 1) C (by decide) rfl dX8_passes_9 eu1.symm ?_
  refine vi_iconst (v := 0) C dX8_passes_10 (by decide) ?_
  refine vi_istore_n (lv' := [(1, .int (0 : Int32)), (0, .ref (q 0))]) C dX8_passes_11 rfl (by decide) rfl ?_
  refine vi_sub C [1, 0] rfl ?_
  exact kX8_passes_12 C RET  vF _ _ h
theorem mX8_passes {E : (Nat → Prop) → State → Heap → Prop} (hE : vEok E) {l : Launch} {D : va_G} {cI cF cC cS cO : ClassId} {q : Nat → Nat} {r0 : Int32} {u0 : vS}  {u : vS} (h : fX8_passes u = some (r0, u0)) : vM E l yX8_passes cX8_passes 3 (some .int) 2 43 D (vT5 cI cF cC cS cO) [.ref (q 0)] (wR q cI u) (vQi D (wR q cI u0) r0) :=
  vM_of hE (by decide +kernel) (Nat.le_of_ble_eq_true rfl) (fun p e s m args below meth c A C hr => kX8_passes_e C (vi_reti C hr) h)
-- ---- X8_hour
def fX8_hour (u : vS) : Option (Int32 × vS) := (fX8_begins u).bind fun u1 => obp (fX8_passes u1) fun y3 u2 => obp (fX8_ends y3 u2) fun y5 u4 => some (y5, u4)
set_option maxRecDepth 100000 in
set_option maxHeartbeats 4000000 in
theorem kX8_hour_e {E : (Nat → Prop) → State → Heap → Prop} {p : Program} {l : Launch} {e : Env} {s : State} {m : MethodId} {args : Array Value} {below : List Frame} {meth : Method} {c : Code} {A : Nat → Prop} {D : va_G} {cI cF cC cS cO : ClassId} {Q : State → Prop} {q : Nat → Nat} (C : vC E p l s m args meth c A D (vT5 cI cF cC cS cO) cX8_hour 1 RX8) {r0 : Int32} {u0 : vS} (RET : ∀ (pc : Nat) (lv : List (Nat × Value)), decode cX8_hour pc = .ok (.ireturn, 1) → vV p l e { frames := 3, cells := 0, slots := 0, locals := 65 } s m args below meth c A D 1 0 0 Q (wR q cI u0) pc lv [.int r0]) {u : vS} (h : fX8_hour u = some (r0, u0)) : vV p l e { frames := 3, cells := 0, slots := 0, locals := 65 } s m args below meth c A D 1 0 0 Q (wR q cI u) 0 [(0, .ref (q 0))] [] := by
  rw [fX8_hour] at h
  refine vi_aload_n C 0 dX8_hour_0 rfl ?_
  obtain ⟨u1, hgu1, h⟩ := ob_bd h
  refine vR_callv (As := []) (rest := []) C (mX8_begins C.2.2.2.2.2.2.2.2.1 hgu1) 0 rfl tcX8_begins tlX8_99 tiX8_begins tsX8_begins rfl tnX8 tdX8_begins ⟨Nat.le_of_ble_eq_true rfl, Nat.le_of_ble_eq_true rfl⟩ rfl (Nat.le_of_ble_eq_true rfl) dX8_hour_1 ?_
  refine vi_aload_n C 0 dX8_hour_4 rfl ?_
  refine vi_aload_n C 0 dX8_hour_5 rfl ?_
  obtain ⟨y3, u2, hgu2, h⟩ := ob_p h
  refine vR_calli (As := []) (rest := [.ref (q 0)]) C (mX8_passes C.2.2.2.2.2.2.2.2.1 hgu2) 0 rfl tcX8_passes tlX8_160 tiX8_passes tsX8_passes rfl tnX8 tdX8_passes ⟨Nat.le_of_ble_eq_true rfl, Nat.le_of_ble_eq_true rfl⟩ rfl (Nat.le_of_ble_eq_true rfl) dX8_hour_6 ?_
  obtain ⟨y5, u4, hgu4, h⟩ := ob_p h
  refine vR_calli (As := [.int y3]) (rest := []) C (mX8_ends C.2.2.2.2.2.2.2.2.1 hgu4) 1 rfl tcX8_ends tlX8_105 tiX8_ends tsX8_ends rfl tnX8 tdX8_ends ⟨Nat.le_of_ble_eq_true rfl, Nat.le_of_ble_eq_true rfl⟩ rfl (Nat.le_of_ble_eq_true rfl) dX8_hour_9 ?_
  exact vi_donei (W := wR q cI) RET h dX8_hour_12
theorem mX8_hour {E : (Nat → Prop) → State → Heap → Prop} (hE : vEok E) {l : Launch} {D : va_G} {cI cF cC cS cO : ClassId} {q : Nat → Nat} {r0 : Int32} {u0 : vS}  {u : vS} (h : fX8_hour u = some (r0, u0)) : vM E l yX8_hour cX8_hour 1 (some .int) 3 65 D (vT5 cI cF cC cS cO) [.ref (q 0)] (wR q cI u) (vQi D (wR q cI u0) r0) :=
  vM_of hE (by decide +kernel) (Nat.le_of_ble_eq_true rfl) (fun p e s m args below meth c A C hr => kX8_hour_e C (vi_reti C hr) h)
-- ---- X8_sights
def fX8_sights_4 : Nat → Int32 → Int32 → Int32 → vS → Option (Int32 × vS)
  | 0, _, _, _, _ => none
  | n + 1, x1, x2, x3, u => (if u 1 3 ≤ x3 then some (x2, u) else if (36 : Int32) + ((3 : Int32) * x3) < 0 ∨ 66 ≤ Int32.toNatClampNeg ((36 : Int32) + ((3 : Int32) * x3)) then none else (if u 1 (Int32.toNatClampNeg ((36 : Int32) + ((3 : Int32) * x3))) = x1 then bd ((x2 + (1 : Int32) : Int32)) fun y6 => bd ((x3 + 1 : Int32)) fun y7 => fX8_sights_4 n x1 y6 y7 u else bd ((x2 + (0 : Int32) : Int32)) fun y4 => bd ((x3 + 1 : Int32)) fun y5 => fX8_sights_4 n x1 y4 y5 u))
set_option maxRecDepth 100000 in
set_option maxHeartbeats 4000000 in
theorem kX8_sights_4 {E : (Nat → Prop) → State → Heap → Prop} {p : Program} {l : Launch} {e : Env} {s : State} {m : MethodId} {args : Array Value} {below : List Frame} {meth : Method} {c : Code} {A : Nat → Prop} {D : va_G} {cI cF cC cS cO : ClassId} {Q : State → Prop} {q : Nat → Nat} (C : vC E p l s m args meth c A D (vT5 cI cF cC cS cO) cX8_sights 4 RX8) {r0 : Int32} {u0 : vS} (RET : ∀ (pc : Nat) (lv : List (Nat × Value)), decode cX8_sights pc = .ok (.ireturn, 1) → vV p l e { frames := 0, cells := 0, slots := 0, locals := 0 } s m args below meth c A D 4 0 0 Q (wR q cI u0) pc lv [.int r0]) : ∀ (n : Nat) (x1 : Int32) (x2 : Int32) (x3 : Int32) (u : vS), fX8_sights_4 n x1 x2 x3 u = some (r0, u0) → vV p l e { frames := 0, cells := 0, slots := 0, locals := 0 } s m args below meth c A D 4 0 0 Q (wR q cI u) 4 [(0, .ref (q 0)), (1, .int x1), (2, .int x2), (3, .int x3)] [] := by
  intro n
  induction n with
  | zero => intro x1 x2 x3 u h; rw [fX8_sights_4] at h; cases h
  | succ n ih =>
    intro x1 x2 x3 u h
    rw [fX8_sights_4] at h
    refine vi_iload_n C 3 dX8_sights_4 rfl ?_
    refine vi_aload_n C 0 dX8_sights_5 rfl ?_
    refine gR_8 C dX8_sights_6 ?_
    refine vi_iconst (v := 3) C dX8_sights_9 (by decide) ?_
    refine lR_1 (n := 3) C (by decide) rfl dX8_sights_10 ?_
    refine vi_icmp_ge (tgt := 43) C dX8_sights_11 (by decide) (fun hc1 => ?_) (fun hc1 => ?_)
    · have h := ob_t h hc1
      refine vi_iload_n C 2 dX8_sights_43 rfl ?_
      exact vi_donei (W := wR q cI) RET h dX8_sights_44
    · have h := ob_f h hc1
      refine vi_iload_n C 2 dX8_sights_14 rfl ?_
      refine vi_aload_n C 0 dX8_sights_15 rfl ?_
      refine gR_8 C dX8_sights_16 ?_
      refine vi_bipush (v := 36) C dX8_sights_19 (by decide) ?_
      refine vi_iconst (v := 3) C dX8_sights_21 (by decide) ?_
      refine vi_iload_n C 3 dX8_sights_22 rfl ?_
      refine vi_imul C dX8_sights_23 ?_
      refine vi_iadd C dX8_sights_24 ?_
      obtain ⟨hz2, h⟩ := ob_if h
      refine lR_1 (n := (Int32.toNatClampNeg ((36 : Int32) + ((3 : Int32) * x3)))) C hz2 rfl dX8_sights_25 ?_
      refine vi_iload_n C 1 dX8_sights_26 rfl ?_
      refine vi_icmp_ne (tgt := 34) C dX8_sights_27 (by decide) (fun hc3 => ?_) (fun hc3 => ?_)
      · have h := ob_f h hc3
        refine vi_iconst (v := 0) C dX8_sights_34 (by decide) ?_
        refine vi_iadd C dX8_sights_35 ?_
        obtain ⟨y4, ey4, h⟩ := ob_nm h
        refine vi_nmi ey4 ?_
        refine vi_istore_n (lv' := [(2, .int y4), (0, .ref (q 0)), (1, .int x1), (3, .int x3)]) C dX8_sights_36 rfl (by decide) rfl ?_
        obtain ⟨y5, ey5, h⟩ := ob_nm h
        refine vi_iinc (v := y5) (lv' := [(3, .int y5), (2, .int y4), (0, .ref (q 0)), (1, .int x1)]) C 3 dX8_sights_37 rfl (by rw [ey5]; rfl) (by decide) rfl ?_
        refine vi_goto (tgt := 4) C dX8_sights_40 (by decide) ?_
        refine vi_sub C [2, 3, 1, 0] rfl ?_
        exact ih _ _ _ _ h
      · have h := ob_t h hc3
        refine vi_iconst (v := 1) C dX8_sights_30 (by decide) ?_
        refine vi_goto (tgt := 35) C dX8_sights_31 (by decide) ?_
        refine vi_iadd C dX8_sights_35 ?_
        obtain ⟨y6, ey6, h⟩ := ob_nm h
        refine vi_nmi ey6 ?_
        refine vi_istore_n (lv' := [(2, .int y6), (0, .ref (q 0)), (1, .int x1), (3, .int x3)]) C dX8_sights_36 rfl (by decide) rfl ?_
        obtain ⟨y7, ey7, h⟩ := ob_nm h
        refine vi_iinc (v := y7) (lv' := [(3, .int y7), (2, .int y6), (0, .ref (q 0)), (1, .int x1)]) C 3 dX8_sights_37 rfl (by rw [ey7]; rfl) (by decide) rfl ?_
        refine vi_goto (tgt := 4) C dX8_sights_40 (by decide) ?_
        refine vi_sub C [2, 3, 1, 0] rfl ?_
        exact ih _ _ _ _ h
def fX8_sights (x1 : Int32) (u : vS) : Option (Int32 × vS) := fX8_sights_4 vF x1 (0 : Int32) (0 : Int32) u
set_option maxRecDepth 100000 in
set_option maxHeartbeats 4000000 in
theorem kX8_sights_e {E : (Nat → Prop) → State → Heap → Prop} {p : Program} {l : Launch} {e : Env} {s : State} {m : MethodId} {args : Array Value} {below : List Frame} {meth : Method} {c : Code} {A : Nat → Prop} {D : va_G} {cI cF cC cS cO : ClassId} {Q : State → Prop} {q : Nat → Nat} (C : vC E p l s m args meth c A D (vT5 cI cF cC cS cO) cX8_sights 4 RX8) {r0 : Int32} {u0 : vS} (RET : ∀ (pc : Nat) (lv : List (Nat × Value)), decode cX8_sights pc = .ok (.ireturn, 1) → vV p l e { frames := 0, cells := 0, slots := 0, locals := 0 } s m args below meth c A D 4 0 0 Q (wR q cI u0) pc lv [.int r0]) {x1 : Int32} {u : vS} (h : fX8_sights x1 u = some (r0, u0)) : vV p l e { frames := 0, cells := 0, slots := 0, locals := 0 } s m args below meth c A D 4 0 0 Q (wR q cI u) 0 [(0, .ref (q 0)), (1, .int x1)] [] := by
  rw [fX8_sights] at h
  refine vi_iconst (v := 0) C dX8_sights_0 (by decide) ?_
  refine vi_istore_n (lv' := [(2, .int (0 : Int32)), (0, .ref (q 0)), (1, .int x1)]) C dX8_sights_1 rfl (by decide) rfl ?_
  refine vi_iconst (v := 0) C dX8_sights_2 (by decide) ?_
  refine vi_istore_n (lv' := [(3, .int (0 : Int32)), (2, .int (0 : Int32)), (0, .ref (q 0)), (1, .int x1)]) C dX8_sights_3 rfl (by decide) rfl ?_
  refine vi_sub C [2, 3, 1, 0] rfl ?_
  exact kX8_sights_4 C RET  vF _ _ _ _ h
theorem mX8_sights {E : (Nat → Prop) → State → Heap → Prop} (hE : vEok E) {l : Launch} {D : va_G} {cI cF cC cS cO : ClassId} {q : Nat → Nat} {r0 : Int32} {u0 : vS}  {x1 : Int32} {u : vS} (h : fX8_sights x1 u = some (r0, u0)) : vM E l yX8_sights cX8_sights 4 (some .int) 0 0 D (vT5 cI cF cC cS cO) [.ref (q 0), .int x1] (wR q cI u) (vQi D (wR q cI u0) r0) :=
  vM_of hE (by decide +kernel) (Nat.le_of_ble_eq_true rfl) (fun p e s m args below meth c A C hr => kX8_sights_e C (vi_reti C hr) h)
-- ---- X8_differs
def fX8_differs (x1 : Int32) (x2 : Int32) (u : vS) : Option (Int32 × vS) := (fX8_at x1 (0 : Int32)).bind fun y1 => if y1 < 0 ∨ 66 ≤ Int32.toNatClampNeg y1 then none else (fX8_at x2 (0 : Int32)).bind fun y3 => if y3 < 0 ∨ 66 ≤ Int32.toNatClampNeg y3 then none else (fX8_bits ((u 1 (Int32.toNatClampNeg y1)) ^^^ (u 1 (Int32.toNatClampNeg y3)))).bind fun y5 => some (y5, u)
set_option maxRecDepth 100000 in
set_option maxHeartbeats 4000000 in
theorem kX8_differs_e {E : (Nat → Prop) → State → Heap → Prop} {p : Program} {l : Launch} {e : Env} {s : State} {m : MethodId} {args : Array Value} {below : List Frame} {meth : Method} {c : Code} {A : Nat → Prop} {D : va_G} {cI cF cC cS cO : ClassId} {Q : State → Prop} {q : Nat → Nat} (C : vC E p l s m args meth c A D (vT5 cI cF cC cS cO) cX8_differs 3 RX8) {r0 : Int32} {u0 : vS} (RET : ∀ (pc : Nat) (lv : List (Nat × Value)), decode cX8_differs pc = .ok (.ireturn, 1) → vV p l e { frames := 1, cells := 0, slots := 0, locals := 22 } s m args below meth c A D 3 0 0 Q (wR q cI u0) pc lv [.int r0]) {x1 : Int32} {x2 : Int32} {u : vS} (h : fX8_differs x1 x2 u = some (r0, u0)) : vV p l e { frames := 1, cells := 0, slots := 0, locals := 22 } s m args below meth c A D 3 0 0 Q (wR q cI u) 0 [(0, .ref (q 0)), (1, .int x1), (2, .int x2)] [] := by
  rw [fX8_differs] at h
  refine vi_aload_n C 0 dX8_differs_0 rfl ?_
  refine gR_8 C dX8_differs_1 ?_
  refine vi_iload_n C 1 dX8_differs_4 rfl ?_
  refine vi_iconst (v := 0) C dX8_differs_5 (by decide) ?_
  obtain ⟨y1, hgy1, h⟩ := ob_bd h
  refine vi_callS0i (As := [.int x1, .int (0 : Int32)]) (rest := [.ref (q 1)]) C (mX8_at C.2.2.2.2.2.2.2.2.1 hgy1) 2 rfl tcX8_at tlX8_73 ttX8_at tnX8 tdX8_at ⟨Nat.le_of_ble_eq_true rfl, Nat.le_of_ble_eq_true rfl⟩ rfl (Nat.le_of_ble_eq_true rfl) dX8_differs_6 ?_
  obtain ⟨hz2, h⟩ := ob_if h
  refine lR_1 (n := (Int32.toNatClampNeg y1)) C hz2 rfl dX8_differs_9 ?_
  refine vi_aload_n C 0 dX8_differs_10 rfl ?_
  refine gR_8 C dX8_differs_11 ?_
  refine vi_iload_n C 2 dX8_differs_14 rfl ?_
  refine vi_iconst (v := 0) C dX8_differs_15 (by decide) ?_
  obtain ⟨y3, hgy3, h⟩ := ob_bd h
  refine vi_callS0i (As := [.int x2, .int (0 : Int32)]) (rest := [.ref (q 1), .int (u 1 (Int32.toNatClampNeg y1))]) C (mX8_at C.2.2.2.2.2.2.2.2.1 hgy3) 2 rfl tcX8_at tlX8_73 ttX8_at tnX8 tdX8_at ⟨Nat.le_of_ble_eq_true rfl, Nat.le_of_ble_eq_true rfl⟩ rfl (Nat.le_of_ble_eq_true rfl) dX8_differs_16 ?_
  obtain ⟨hz4, h⟩ := ob_if h
  refine lR_1 (n := (Int32.toNatClampNeg y3)) C hz4 rfl dX8_differs_19 ?_
  refine vi_ixor C dX8_differs_20 ?_
  obtain ⟨y5, hgy5, h⟩ := ob_bd h
  refine vi_callS0i (As := [.int ((u 1 (Int32.toNatClampNeg y1)) ^^^ (u 1 (Int32.toNatClampNeg y3)))]) (rest := []) C (mX8_bits C.2.2.2.2.2.2.2.2.1 hgy5) 1 rfl tcX8_bits tlX8_77 ttX8_bits tnX8 tdX8_bits ⟨Nat.le_of_ble_eq_true rfl, Nat.le_of_ble_eq_true rfl⟩ rfl (Nat.le_of_ble_eq_true rfl) dX8_differs_21 ?_
  exact vi_donei (W := wR q cI) RET h dX8_differs_24
theorem mX8_differs {E : (Nat → Prop) → State → Heap → Prop} (hE : vEok E) {l : Launch} {D : va_G} {cI cF cC cS cO : ClassId} {q : Nat → Nat} {r0 : Int32} {u0 : vS}  {x1 : Int32} {x2 : Int32} {u : vS} (h : fX8_differs x1 x2 u = some (r0, u0)) : vM E l yX8_differs cX8_differs 3 (some .int) 1 22 D (vT5 cI cF cC cS cO) [.ref (q 0), .int x1, .int x2] (wR q cI u) (vQi D (wR q cI u0) r0) :=
  vM_of hE (by decide +kernel) (Nat.le_of_ble_eq_true rfl) (fun p e s m args below meth c A C hr => kX8_differs_e C (vi_reti C hr) h)
-- ---- X8_mates
def fX8_mates_4 : Nat → Int32 → Int32 → Int32 → vS → Option (Int32 × vS)
  | 0, _, _, _, _ => none
  | n + 1, x1, x2, x3, u => (if u 1 0 ≤ x3 then some (x2, u) else (if x3 = x1 then bd ((x2 ||| (0 : Int32) : Int32)) fun y3 => bd ((x3 + 1 : Int32)) fun y4 => fX8_mates_4 n x1 y3 y4 u else obp (fX8_differs x1 x3 u) fun y6 u5 => (if (4 : Int32) < y6 then bd ((x2 ||| (0 : Int32) : Int32)) fun y8 => bd ((x3 + 1 : Int32)) fun y9 => fX8_mates_4 n x1 y8 y9 u5 else bd ((x2 ||| ((1 : Int32) <<< (x3 &&& 31)) : Int32)) fun y10 => bd ((x3 + 1 : Int32)) fun y11 => fX8_mates_4 n x1 y10 y11 u5)))
set_option maxRecDepth 100000 in
set_option maxHeartbeats 4000000 in
theorem kX8_mates_4 {E : (Nat → Prop) → State → Heap → Prop} {p : Program} {l : Launch} {e : Env} {s : State} {m : MethodId} {args : Array Value} {below : List Frame} {meth : Method} {c : Code} {A : Nat → Prop} {D : va_G} {cI cF cC cS cO : ClassId} {Q : State → Prop} {q : Nat → Nat} (C : vC E p l s m args meth c A D (vT5 cI cF cC cS cO) cX8_mates 4 RX8) {r0 : Int32} {u0 : vS} (RET : ∀ (pc : Nat) (lv : List (Nat × Value)), decode cX8_mates pc = .ok (.ireturn, 1) → vV p l e { frames := 2, cells := 0, slots := 0, locals := 44 } s m args below meth c A D 4 0 0 Q (wR q cI u0) pc lv [.int r0]) : ∀ (n : Nat) (x1 : Int32) (x2 : Int32) (x3 : Int32) (u : vS), fX8_mates_4 n x1 x2 x3 u = some (r0, u0) → vV p l e { frames := 2, cells := 0, slots := 0, locals := 44 } s m args below meth c A D 4 0 0 Q (wR q cI u) 4 [(0, .ref (q 0)), (1, .int x1), (2, .int x2), (3, .int x3)] [] := by
  intro n
  induction n with
  | zero => intro x1 x2 x3 u h; rw [fX8_mates_4] at h; cases h
  | succ n ih =>
    intro x1 x2 x3 u h
    rw [fX8_mates_4] at h
    refine vi_iload_n C 3 dX8_mates_4 rfl ?_
    refine vi_aload_n C 0 dX8_mates_5 rfl ?_
    refine gR_8 C dX8_mates_6 ?_
    refine vi_iconst (v := 0) C dX8_mates_9 (by decide) ?_
    refine lR_1 (n := 0) C (by decide) rfl dX8_mates_10 ?_
    refine vi_icmp_ge (tgt := 45) C dX8_mates_11 (by decide) (fun hc1 => ?_) (fun hc1 => ?_)
    · have h := ob_t h hc1
      refine vi_iload_n C 2 dX8_mates_45 rfl ?_
      exact vi_donei (W := wR q cI) RET h dX8_mates_46
    · have h := ob_f h hc1
      refine vi_iload_n C 2 dX8_mates_14 rfl ?_
      refine vi_iload_n C 3 dX8_mates_15 rfl ?_
      refine vi_iload_n C 1 dX8_mates_16 rfl ?_
      refine vi_icmp_eq (tgt := 36) C dX8_mates_17 (by decide) (fun hc2 => ?_) (fun hc2 => ?_)
      · have h := ob_t h hc2
        refine vi_iconst (v := 0) C dX8_mates_36 (by decide) ?_
        refine vi_ior C dX8_mates_37 ?_
        obtain ⟨y3, ey3, h⟩ := ob_nm h
        refine vi_nmi ey3 ?_
        refine vi_istore_n (lv' := [(2, .int y3), (0, .ref (q 0)), (1, .int x1), (3, .int x3)]) C dX8_mates_38 rfl (by decide) rfl ?_
        obtain ⟨y4, ey4, h⟩ := ob_nm h
        refine vi_iinc (v := y4) (lv' := [(3, .int y4), (2, .int y3), (0, .ref (q 0)), (1, .int x1)]) C 3 dX8_mates_39 rfl (by rw [ey4]; rfl) (by decide) rfl ?_
        refine vi_goto (tgt := 4) C dX8_mates_42 (by decide) ?_
        refine vi_sub C [2, 3, 1, 0] rfl ?_
        exact ih _ _ _ _ h
      · have h := ob_f h hc2
        refine vi_aload_n C 0 dX8_mates_20 rfl ?_
        refine vi_iload_n C 1 dX8_mates_21 rfl ?_
        refine vi_iload_n C 3 dX8_mates_22 rfl ?_
        obtain ⟨y6, u5, hgu5, h⟩ := ob_p h
        refine vR_calli (As := [.int x1, .int x3]) (rest := [.int x2]) C (mX8_differs C.2.2.2.2.2.2.2.2.1 hgu5) 2 rfl tcX8_differs tlX8_163 tiX8_differs tsX8_differs rfl tnX8 tdX8_differs ⟨Nat.le_of_ble_eq_true rfl, Nat.le_of_ble_eq_true rfl⟩ rfl (Nat.le_of_ble_eq_true rfl) dX8_mates_23 ?_
        refine vi_iconst (v := 4) C dX8_mates_26 (by decide) ?_
        refine vi_icmp_gt (tgt := 36) C dX8_mates_27 (by decide) (fun hc7 => ?_) (fun hc7 => ?_)
        · have h := ob_t h hc7
          refine vi_iconst (v := 0) C dX8_mates_36 (by decide) ?_
          refine vi_ior C dX8_mates_37 ?_
          obtain ⟨y8, ey8, h⟩ := ob_nm h
          refine vi_nmi ey8 ?_
          refine vi_istore_n (lv' := [(2, .int y8), (0, .ref (q 0)), (1, .int x1), (3, .int x3)]) C dX8_mates_38 rfl (by decide) rfl ?_
          obtain ⟨y9, ey9, h⟩ := ob_nm h
          refine vi_iinc (v := y9) (lv' := [(3, .int y9), (2, .int y8), (0, .ref (q 0)), (1, .int x1)]) C 3 dX8_mates_39 rfl (by rw [ey9]; rfl) (by decide) rfl ?_
          refine vi_goto (tgt := 4) C dX8_mates_42 (by decide) ?_
          refine vi_sub C [2, 3, 1, 0] rfl ?_
          exact ih _ _ _ _ h
        · have h := ob_f h hc7
          refine vi_iconst (v := 1) C dX8_mates_30 (by decide) ?_
          refine vi_iload_n C 3 dX8_mates_31 rfl ?_
          refine vi_ishl C dX8_mates_32 ?_
          refine vi_goto (tgt := 37) C dX8_mates_33 (by decide) ?_
          refine vi_ior C dX8_mates_37 ?_
          obtain ⟨y10, ey10, h⟩ := ob_nm h
          refine vi_nmi ey10 ?_
          refine vi_istore_n (lv' := [(2, .int y10), (0, .ref (q 0)), (1, .int x1), (3, .int x3)]) C dX8_mates_38 rfl (by decide) rfl ?_
          obtain ⟨y11, ey11, h⟩ := ob_nm h
          refine vi_iinc (v := y11) (lv' := [(3, .int y11), (2, .int y10), (0, .ref (q 0)), (1, .int x1)]) C 3 dX8_mates_39 rfl (by rw [ey11]; rfl) (by decide) rfl ?_
          refine vi_goto (tgt := 4) C dX8_mates_42 (by decide) ?_
          refine vi_sub C [2, 3, 1, 0] rfl ?_
          exact ih _ _ _ _ h
def fX8_mates (x1 : Int32) (u : vS) : Option (Int32 × vS) := fX8_mates_4 vF x1 (0 : Int32) (0 : Int32) u
set_option maxRecDepth 100000 in
set_option maxHeartbeats 4000000 in
theorem kX8_mates_e {E : (Nat → Prop) → State → Heap → Prop} {p : Program} {l : Launch} {e : Env} {s : State} {m : MethodId} {args : Array Value} {below : List Frame} {meth : Method} {c : Code} {A : Nat → Prop} {D : va_G} {cI cF cC cS cO : ClassId} {Q : State → Prop} {q : Nat → Nat} (C : vC E p l s m args meth c A D (vT5 cI cF cC cS cO) cX8_mates 4 RX8) {r0 : Int32} {u0 : vS} (RET : ∀ (pc : Nat) (lv : List (Nat × Value)), decode cX8_mates pc = .ok (.ireturn, 1) → vV p l e { frames := 2, cells := 0, slots := 0, locals := 44 } s m args below meth c A D 4 0 0 Q (wR q cI u0) pc lv [.int r0]) {x1 : Int32} {u : vS} (h : fX8_mates x1 u = some (r0, u0)) : vV p l e { frames := 2, cells := 0, slots := 0, locals := 44 } s m args below meth c A D 4 0 0 Q (wR q cI u) 0 [(0, .ref (q 0)), (1, .int x1)] [] := by
  rw [fX8_mates] at h
  refine vi_iconst (v := 0) C dX8_mates_0 (by decide) ?_
  refine vi_istore_n (lv' := [(2, .int (0 : Int32)), (0, .ref (q 0)), (1, .int x1)]) C dX8_mates_1 rfl (by decide) rfl ?_
  refine vi_iconst (v := 0) C dX8_mates_2 (by decide) ?_
  refine vi_istore_n (lv' := [(3, .int (0 : Int32)), (2, .int (0 : Int32)), (0, .ref (q 0)), (1, .int x1)]) C dX8_mates_3 rfl (by decide) rfl ?_
  refine vi_sub C [2, 3, 1, 0] rfl ?_
  exact kX8_mates_4 C RET  vF _ _ _ _ h
theorem mX8_mates {E : (Nat → Prop) → State → Heap → Prop} (hE : vEok E) {l : Launch} {D : va_G} {cI cF cC cS cO : ClassId} {q : Nat → Nat} {r0 : Int32} {u0 : vS}  {x1 : Int32} {u : vS} (h : fX8_mates x1 u = some (r0, u0)) : vM E l yX8_mates cX8_mates 4 (some .int) 2 44 D (vT5 cI cF cC cS cO) [.ref (q 0), .int x1] (wR q cI u) (vQi D (wR q cI u0) r0) :=
  vM_of hE (by decide +kernel) (Nat.le_of_ble_eq_true rfl) (fun p e s m args below meth c A C hr => kX8_mates_e C (vi_reti C hr) h)
-- ---- X8_mess
def fX8_mess_16 : Nat → (Int32 → Int32 → vS → Option (Int32 × vS)) → Int32 → Int32 → Int32 → vS → Option (Int32 × vS)
  | 0, _, _, _, _, _ => none
  | n + 1, rec_6, x1, x2, x3, u => (if u 1 0 ≤ x3 then rec_6 x1 x2 u else (if (x2 >>> (x3 &&& 31)) &&& (1 : Int32) = (1 : Int32) then obp (fX8_mates x3 u) fun y5 u4 => bd ((x1 ||| y5 : Int32)) fun y6 => bd ((x3 + 1 : Int32)) fun y7 => fX8_mess_16 n rec_6 y6 x2 y7 u4 else bd ((x3 + 1 : Int32)) fun y3 => fX8_mess_16 n rec_6 x1 x2 y3 u))
set_option maxRecDepth 100000 in
set_option maxHeartbeats 4000000 in
theorem kX8_mess_16 {E : (Nat → Prop) → State → Heap → Prop} {p : Program} {l : Launch} {e : Env} {s : State} {m : MethodId} {args : Array Value} {below : List Frame} {meth : Method} {c : Code} {A : Nat → Prop} {D : va_G} {cI cF cC cS cO : ClassId} {Q : State → Prop} {q : Nat → Nat} (C : vC E p l s m args meth c A D (vT5 cI cF cC cS cO) cX8_mess 5 RX8) {r0 : Int32} {u0 : vS} (RET : ∀ (pc : Nat) (lv : List (Nat × Value)), decode cX8_mess pc = .ok (.ireturn, 1) → vV p l e { frames := 3, cells := 0, slots := 0, locals := 67 } s m args below meth c A D 5 0 0 Q (wR q cI u0) pc lv [.int r0]) {rec_6 : Int32 → Int32 → vS → Option (Int32 × vS)} (REC_6 : ∀ (x1 : Int32) (x2 : Int32) (u : vS), rec_6 x1 x2 u = some (r0, u0) → vV p l e { frames := 3, cells := 0, slots := 0, locals := 67 } s m args below meth c A D 5 0 0 Q (wR q cI u) 6 [(0, .ref (q 0)), (2, .int x1), (3, .int x2)] []) : ∀ (n : Nat) (x1 : Int32) (x2 : Int32) (x3 : Int32) (u : vS), fX8_mess_16 n rec_6 x1 x2 x3 u = some (r0, u0) → vV p l e { frames := 3, cells := 0, slots := 0, locals := 67 } s m args below meth c A D 5 0 0 Q (wR q cI u) 16 [(0, .ref (q 0)), (2, .int x1), (3, .int x2), (4, .int x3)] [] := by
  intro n
  induction n with
  | zero => intro x1 x2 x3 u h; rw [fX8_mess_16] at h; cases h
  | succ n ih =>
    intro x1 x2 x3 u h
    rw [fX8_mess_16] at h
    refine vi_iload C 3 dX8_mess_16 rfl ?_
    refine vi_aload_n C 0 dX8_mess_18 rfl ?_
    refine gR_8 C dX8_mess_19 ?_
    refine vi_iconst (v := 0) C dX8_mess_22 (by decide) ?_
    refine lR_1 (n := 0) C (by decide) rfl dX8_mess_23 ?_
    refine vi_icmp_ge (tgt := 52) C dX8_mess_24 (by decide) (fun hc1 => ?_) (fun hc1 => ?_)
    · have h := ob_t h hc1
      refine vi_goto (tgt := 6) C dX8_mess_52 (by decide) ?_
      refine vi_sub C [0, 1, 2] rfl ?_
      exact REC_6 _ _ _ h
    · have h := ob_f h hc1
      refine vi_iload_n C 2 dX8_mess_27 rfl ?_
      refine vi_iload C 3 dX8_mess_28 rfl ?_
      refine vi_ishr C dX8_mess_30 ?_
      refine vi_iconst (v := 1) C dX8_mess_31 (by decide) ?_
      refine vi_iand C dX8_mess_32 ?_
      refine vi_iconst (v := 1) C dX8_mess_33 (by decide) ?_
      refine vi_icmp_ne (tgt := 46) C dX8_mess_34 (by decide) (fun hc2 => ?_) (fun hc2 => ?_)
      · have h := ob_f h hc2
        obtain ⟨y3, ey3, h⟩ := ob_nm h
        refine vi_iinc (v := y3) (lv' := [(4, .int y3), (0, .ref (q 0)), (2, .int x1), (3, .int x2)]) C 3 dX8_mess_46 rfl (by rw [ey3]; rfl) (by decide) rfl ?_
        refine vi_goto (tgt := 16) C dX8_mess_49 (by decide) ?_
        refine vi_sub C [1, 2, 3, 0] rfl ?_
        exact ih _ _ _ _ h
      · have h := ob_t h hc2
        refine vi_iload_n C 1 dX8_mess_37 rfl ?_
        refine vi_aload_n C 0 dX8_mess_38 rfl ?_
        refine vi_iload C 3 dX8_mess_39 rfl ?_
        obtain ⟨y5, u4, hgu4, h⟩ := ob_p h
        refine vR_calli (As := [.int x3]) (rest := [.int x1]) C (mX8_mates C.2.2.2.2.2.2.2.2.1 hgu4) 1 rfl tcX8_mates tlX8_166 tiX8_mates tsX8_mates rfl tnX8 tdX8_mates ⟨Nat.le_of_ble_eq_true rfl, Nat.le_of_ble_eq_true rfl⟩ rfl (Nat.le_of_ble_eq_true rfl) dX8_mess_41 ?_
        refine vi_ior C dX8_mess_44 ?_
        obtain ⟨y6, ey6, h⟩ := ob_nm h
        refine vi_nmi ey6 ?_
        refine vi_istore_n (lv' := [(2, .int y6), (0, .ref (q 0)), (3, .int x2), (4, .int x3)]) C dX8_mess_45 rfl (by decide) rfl ?_
        obtain ⟨y7, ey7, h⟩ := ob_nm h
        refine vi_iinc (v := y7) (lv' := [(4, .int y7), (2, .int y6), (0, .ref (q 0)), (3, .int x2)]) C 3 dX8_mess_46 rfl (by rw [ey7]; rfl) (by decide) rfl ?_
        refine vi_goto (tgt := 16) C dX8_mess_49 (by decide) ?_
        refine vi_sub C [2, 1, 3, 0] rfl ?_
        exact ih _ _ _ _ h
def fX8_mess_6 : Nat → Int32 → Int32 → vS → Option (Int32 × vS)
  | 0, _, _, _ => none
  | n + 1, x1, x2, u => (if x1 = x2 then some (x1, u) else fX8_mess_16 vF (fun a0 a1 a2 => fX8_mess_6 n  a0 a1 a2) x1 x1 (0 : Int32) u)
set_option maxRecDepth 100000 in
set_option maxHeartbeats 4000000 in
theorem kX8_mess_6 {E : (Nat → Prop) → State → Heap → Prop} {p : Program} {l : Launch} {e : Env} {s : State} {m : MethodId} {args : Array Value} {below : List Frame} {meth : Method} {c : Code} {A : Nat → Prop} {D : va_G} {cI cF cC cS cO : ClassId} {Q : State → Prop} {q : Nat → Nat} (C : vC E p l s m args meth c A D (vT5 cI cF cC cS cO) cX8_mess 5 RX8) {r0 : Int32} {u0 : vS} (RET : ∀ (pc : Nat) (lv : List (Nat × Value)), decode cX8_mess pc = .ok (.ireturn, 1) → vV p l e { frames := 3, cells := 0, slots := 0, locals := 67 } s m args below meth c A D 5 0 0 Q (wR q cI u0) pc lv [.int r0]) : ∀ (n : Nat) (x1 : Int32) (x2 : Int32) (u : vS), fX8_mess_6 n x1 x2 u = some (r0, u0) → vV p l e { frames := 3, cells := 0, slots := 0, locals := 67 } s m args below meth c A D 5 0 0 Q (wR q cI u) 6 [(0, .ref (q 0)), (2, .int x1), (3, .int x2)] [] := by
  intro n
  induction n with
  | zero => intro x1 x2 u h; rw [fX8_mess_6] at h; cases h
  | succ n ih =>
    intro x1 x2 u h
    rw [fX8_mess_6] at h
    refine vi_iload_n C 1 dX8_mess_6 rfl ?_
    refine vi_iload_n C 2 dX8_mess_7 rfl ?_
    refine vi_icmp_eq (tgt := 55) C dX8_mess_8 (by decide) (fun hc1 => ?_) (fun hc1 => ?_)
    · have h := ob_t h hc1
      refine vi_iload_n C 1 dX8_mess_55 rfl ?_
      exact vi_donei (W := wR q cI) RET h dX8_mess_56
    · have h := ob_f h hc1
      refine vi_iload_n C 1 dX8_mess_11 rfl ?_
      refine vi_istore_n (lv' := [(3, .int x1), (0, .ref (q 0)), (2, .int x1)]) C dX8_mess_12 rfl (by decide) rfl ?_
      refine vi_iconst (v := 0) C dX8_mess_13 (by decide) ?_
      refine vi_istore (lv' := [(4, .int (0 : Int32)), (3, .int x1), (0, .ref (q 0)), (2, .int x1)]) C dX8_mess_14 (by decide) rfl ?_
      refine vi_sub C [2, 3, 1, 0] rfl ?_
      exact kX8_mess_16 C RET ih vF _ _ _ _ h
def fX8_mess (x1 : Int32) (u : vS) : Option (Int32 × vS) := bd (((1 : Int32) <<< (x1 &&& 31) : Int32)) fun y1 => fX8_mess_6 vF y1 (0 : Int32) u
set_option maxRecDepth 100000 in
set_option maxHeartbeats 4000000 in
theorem kX8_mess_e {E : (Nat → Prop) → State → Heap → Prop} {p : Program} {l : Launch} {e : Env} {s : State} {m : MethodId} {args : Array Value} {below : List Frame} {meth : Method} {c : Code} {A : Nat → Prop} {D : va_G} {cI cF cC cS cO : ClassId} {Q : State → Prop} {q : Nat → Nat} (C : vC E p l s m args meth c A D (vT5 cI cF cC cS cO) cX8_mess 5 RX8) {r0 : Int32} {u0 : vS} (RET : ∀ (pc : Nat) (lv : List (Nat × Value)), decode cX8_mess pc = .ok (.ireturn, 1) → vV p l e { frames := 3, cells := 0, slots := 0, locals := 67 } s m args below meth c A D 5 0 0 Q (wR q cI u0) pc lv [.int r0]) {x1 : Int32} {u : vS} (h : fX8_mess x1 u = some (r0, u0)) : vV p l e { frames := 3, cells := 0, slots := 0, locals := 67 } s m args below meth c A D 5 0 0 Q (wR q cI u) 0 [(0, .ref (q 0)), (1, .int x1)] [] := by
  rw [fX8_mess] at h
  refine vi_iconst (v := 1) C dX8_mess_0 (by decide) ?_
  refine vi_iload_n C 1 dX8_mess_1 rfl ?_
  refine vi_ishl C dX8_mess_2 ?_
  obtain ⟨y1, ey1, h⟩ := ob_nm h
  refine vi_nmi ey1 ?_
  refine vi_istore_n (lv' := [(2, .int y1), (0, .ref (q 0)), (1, .int x1)]) C dX8_mess_3 rfl (by decide) rfl ?_
  refine vi_iconst (v := 0) C dX8_mess_4 (by decide) ?_
  refine vi_istore_n (lv' := [(3, .int (0 : Int32)), (2, .int y1), (0, .ref (q 0)), (1, .int x1)]) C dX8_mess_5 rfl (by decide) rfl ?_
  refine vi_sub C [2, 1, 0] rfl ?_
  exact kX8_mess_6 C RET  vF _ _ _ h
theorem mX8_mess {E : (Nat → Prop) → State → Heap → Prop} (hE : vEok E) {l : Launch} {D : va_G} {cI cF cC cS cO : ClassId} {q : Nat → Nat} {r0 : Int32} {u0 : vS}  {x1 : Int32} {u : vS} (h : fX8_mess x1 u = some (r0, u0)) : vM E l yX8_mess cX8_mess 5 (some .int) 3 67 D (vT5 cI cF cC cS cO) [.ref (q 0), .int x1] (wR q cI u) (vQi D (wR q cI u0) r0) :=
  vM_of hE (by decide +kernel) (Nat.le_of_ble_eq_true rfl) (fun p e s m args below meth c A C hr => kX8_mess_e C (vi_reti C hr) h)
-- ---- X8_sailorOf
def fX8_sailorOf (x1 : Int32) (x2 : Int32) (u : vS) : Option (Int32 × vS) := obp (fX8_isSailor x1 u) fun y2 u1 => (if y2 = 0 then some ((-100001 : Int32), u1) else (if x2 = 0 then (fX8_at x1 x2).bind fun y4 => if y4 < 0 ∨ 66 ≤ Int32.toNatClampNeg y4 then none else some (u1 1 (Int32.toNatClampNeg y4), u1) else (if x2 = 1 then (fX8_at x1 x2).bind fun y7 => if y7 < 0 ∨ 66 ≤ Int32.toNatClampNeg y7 then none else some (u1 1 (Int32.toNatClampNeg y7), u1) else (if x2 = 2 then (fX8_at x1 x2).bind fun y10 => if y10 < 0 ∨ 66 ≤ Int32.toNatClampNeg y10 then none else some (u1 1 (Int32.toNatClampNeg y10), u1) else (if x2 = 3 then obp (fX8_cheer x1 u1) fun y14 u13 => some (y14, u13) else (if x2 = 4 then obp (fX8_dread x1 u1) fun y17 u16 => some (y17, u16) else (if x2 = 5 then obp (fX8_angled x1 u1) fun y20 u19 => some (y20, u19) else (if x2 = 6 then obp (fX8_sights x1 u1) fun y23 u22 => some (y23, u22) else (if x2 = 7 then obp (fX8_mates x1 u1) fun y26 u25 => (fX8_bits y26).bind fun y27 => some (y27, u25) else (if x2 = 8 then obp (fX8_mess x1 u1) fun y30 u29 => some (y30, u29) else some ((-100002 : Int32), u1)))))))))))
set_option maxRecDepth 100000 in
set_option maxHeartbeats 4000000 in
theorem kX8_sailorOf_e {E : (Nat → Prop) → State → Heap → Prop} {p : Program} {l : Launch} {e : Env} {s : State} {m : MethodId} {args : Array Value} {below : List Frame} {meth : Method} {c : Code} {A : Nat → Prop} {D : va_G} {cI cF cC cS cO : ClassId} {Q : State → Prop} {q : Nat → Nat} (C : vC E p l s m args meth c A D (vT5 cI cF cC cS cO) cX8_sailorOf 3 RX8) {r0 : Int32} {u0 : vS} (RET : ∀ (pc : Nat) (lv : List (Nat × Value)), decode cX8_sailorOf pc = .ok (.ireturn, 1) → vV p l e { frames := 4, cells := 0, slots := 0, locals := 91 } s m args below meth c A D 3 0 0 Q (wR q cI u0) pc lv [.int r0]) {x1 : Int32} {x2 : Int32} {u : vS} (h : fX8_sailorOf x1 x2 u = some (r0, u0)) : vV p l e { frames := 4, cells := 0, slots := 0, locals := 91 } s m args below meth c A D 3 0 0 Q (wR q cI u) 0 [(0, .ref (q 0)), (1, .int x1), (2, .int x2)] [] := by
  rw [fX8_sailorOf] at h
  refine vi_aload_n C 0 dX8_sailorOf_0 rfl ?_
  refine vi_iload_n C 1 dX8_sailorOf_1 rfl ?_
  obtain ⟨y2, u1, hgu1, h⟩ := ob_p h
  refine vR_calli (As := [.int x1]) (rest := []) C (mX8_isSailor C.2.2.2.2.2.2.2.2.1 hgu1) 1 rfl tcX8_isSailor tlX8_108 tiX8_isSailor tsX8_isSailor rfl tnX8 tdX8_isSailor ⟨Nat.le_of_ble_eq_true rfl, Nat.le_of_ble_eq_true rfl⟩ rfl (Nat.le_of_ble_eq_true rfl) dX8_sailorOf_2 ?_
  refine vi_if_ne (tgt := 11) C dX8_sailorOf_5 (by decide) (fun hc3 => ?_) (fun hc3 => ?_)
  · have h := ob_f h hc3
    refine vi_iload_n C 2 dX8_sailorOf_11 rfl ?_
    by_cases hc6 : x2 = 0
    · have h := ob_t h hc6
      refine vi_tswIn (off := 52) (tgt := 64) C dX8_sailorOf_12 (by rw [hc6]; decide) (by rw [hc6]; decide) (by rw [hc6]; rfl) (by decide) ?_
      refine vi_aload_n C 0 dX8_sailorOf_64 rfl ?_
      refine gR_8 C dX8_sailorOf_65 ?_
      refine vi_iload_n C 1 dX8_sailorOf_68 rfl ?_
      refine vi_iload_n C 2 dX8_sailorOf_69 rfl ?_
      obtain ⟨y4, hgy4, h⟩ := ob_bd h
      refine vi_callS0i (As := [.int x1, .int x2]) (rest := [.ref (q 1)]) C (mX8_at C.2.2.2.2.2.2.2.2.1 hgy4) 2 rfl tcX8_at tlX8_73 ttX8_at tnX8 tdX8_at ⟨Nat.le_of_ble_eq_true rfl, Nat.le_of_ble_eq_true rfl⟩ rfl (Nat.le_of_ble_eq_true rfl) dX8_sailorOf_70 ?_
      obtain ⟨hz5, h⟩ := ob_if h
      refine lR_1 (n := (Int32.toNatClampNeg y4)) C hz5 rfl dX8_sailorOf_73 ?_
      exact vi_donei (W := wR q cI) RET h dX8_sailorOf_74
    · replace h := ob_f h hc6
      by_cases hc9 : x2 = 1
      · have h := ob_t h hc9
        refine vi_tswIn (off := 52) (tgt := 64) C dX8_sailorOf_12 (by rw [hc9]; decide) (by rw [hc9]; decide) (by rw [hc9]; rfl) (by decide) ?_
        refine vi_aload_n C 0 dX8_sailorOf_64 rfl ?_
        refine gR_8 C dX8_sailorOf_65 ?_
        refine vi_iload_n C 1 dX8_sailorOf_68 rfl ?_
        refine vi_iload_n C 2 dX8_sailorOf_69 rfl ?_
        obtain ⟨y7, hgy7, h⟩ := ob_bd h
        refine vi_callS0i (As := [.int x1, .int x2]) (rest := [.ref (q 1)]) C (mX8_at C.2.2.2.2.2.2.2.2.1 hgy7) 2 rfl tcX8_at tlX8_73 ttX8_at tnX8 tdX8_at ⟨Nat.le_of_ble_eq_true rfl, Nat.le_of_ble_eq_true rfl⟩ rfl (Nat.le_of_ble_eq_true rfl) dX8_sailorOf_70 ?_
        obtain ⟨hz8, h⟩ := ob_if h
        refine lR_1 (n := (Int32.toNatClampNeg y7)) C hz8 rfl dX8_sailorOf_73 ?_
        exact vi_donei (W := wR q cI) RET h dX8_sailorOf_74
      · replace h := ob_f h hc9
        by_cases hc12 : x2 = 2
        · have h := ob_t h hc12
          refine vi_tswIn (off := 52) (tgt := 64) C dX8_sailorOf_12 (by rw [hc12]; decide) (by rw [hc12]; decide) (by rw [hc12]; rfl) (by decide) ?_
          refine vi_aload_n C 0 dX8_sailorOf_64 rfl ?_
          refine gR_8 C dX8_sailorOf_65 ?_
          refine vi_iload_n C 1 dX8_sailorOf_68 rfl ?_
          refine vi_iload_n C 2 dX8_sailorOf_69 rfl ?_
          obtain ⟨y10, hgy10, h⟩ := ob_bd h
          refine vi_callS0i (As := [.int x1, .int x2]) (rest := [.ref (q 1)]) C (mX8_at C.2.2.2.2.2.2.2.2.1 hgy10) 2 rfl tcX8_at tlX8_73 ttX8_at tnX8 tdX8_at ⟨Nat.le_of_ble_eq_true rfl, Nat.le_of_ble_eq_true rfl⟩ rfl (Nat.le_of_ble_eq_true rfl) dX8_sailorOf_70 ?_
          obtain ⟨hz11, h⟩ := ob_if h
          refine lR_1 (n := (Int32.toNatClampNeg y10)) C hz11 rfl dX8_sailorOf_73 ?_
          exact vi_donei (W := wR q cI) RET h dX8_sailorOf_74
        · replace h := ob_f h hc12
          by_cases hc15 : x2 = 3
          · have h := ob_t h hc15
            refine vi_tswIn (off := 63) (tgt := 75) C dX8_sailorOf_12 (by rw [hc15]; decide) (by rw [hc15]; decide) (by rw [hc15]; rfl) (by decide) ?_
            refine vi_aload_n C 0 dX8_sailorOf_75 rfl ?_
            refine vi_iload_n C 1 dX8_sailorOf_76 rfl ?_
            obtain ⟨y14, u13, hgu13, h⟩ := ob_p h
            refine vR_calli (As := [.int x1]) (rest := []) C (mX8_cheer C.2.2.2.2.2.2.2.2.1 hgu13) 1 rfl tcX8_cheer tlX8_80 tiX8_cheer tsX8_cheer rfl tnX8 tdX8_cheer ⟨Nat.le_of_ble_eq_true rfl, Nat.le_of_ble_eq_true rfl⟩ rfl (Nat.le_of_ble_eq_true rfl) dX8_sailorOf_77 ?_
            exact vi_donei (W := wR q cI) RET h dX8_sailorOf_80
          · replace h := ob_f h hc15
            by_cases hc18 : x2 = 4
            · have h := ob_t h hc18
              refine vi_tswIn (off := 69) (tgt := 81) C dX8_sailorOf_12 (by rw [hc18]; decide) (by rw [hc18]; decide) (by rw [hc18]; rfl) (by decide) ?_
              refine vi_aload_n C 0 dX8_sailorOf_81 rfl ?_
              refine vi_iload_n C 1 dX8_sailorOf_82 rfl ?_
              obtain ⟨y17, u16, hgu16, h⟩ := ob_p h
              refine vR_calli (As := [.int x1]) (rest := []) C (mX8_dread C.2.2.2.2.2.2.2.2.1 hgu16) 1 rfl tcX8_dread tlX8_83 tiX8_dread tsX8_dread rfl tnX8 tdX8_dread ⟨Nat.le_of_ble_eq_true rfl, Nat.le_of_ble_eq_true rfl⟩ rfl (Nat.le_of_ble_eq_true rfl) dX8_sailorOf_83 ?_
              exact vi_donei (W := wR q cI) RET h dX8_sailorOf_86
            · replace h := ob_f h hc18
              by_cases hc21 : x2 = 5
              · have h := ob_t h hc21
                refine vi_tswIn (off := 75) (tgt := 87) C dX8_sailorOf_12 (by rw [hc21]; decide) (by rw [hc21]; decide) (by rw [hc21]; rfl) (by decide) ?_
                refine vi_aload_n C 0 dX8_sailorOf_87 rfl ?_
                refine vi_iload_n C 1 dX8_sailorOf_88 rfl ?_
                obtain ⟨y20, u19, hgu19, h⟩ := ob_p h
                refine vR_calli (As := [.int x1]) (rest := []) C (mX8_angled C.2.2.2.2.2.2.2.2.1 hgu19) 1 rfl tcX8_angled tlX8_86 tiX8_angled tsX8_angled rfl tnX8 tdX8_angled ⟨Nat.le_of_ble_eq_true rfl, Nat.le_of_ble_eq_true rfl⟩ rfl (Nat.le_of_ble_eq_true rfl) dX8_sailorOf_89 ?_
                exact vi_donei (W := wR q cI) RET h dX8_sailorOf_92
              · replace h := ob_f h hc21
                by_cases hc24 : x2 = 6
                · have h := ob_t h hc24
                  refine vi_tswIn (off := 81) (tgt := 93) C dX8_sailorOf_12 (by rw [hc24]; decide) (by rw [hc24]; decide) (by rw [hc24]; rfl) (by decide) ?_
                  refine vi_aload_n C 0 dX8_sailorOf_93 rfl ?_
                  refine vi_iload_n C 1 dX8_sailorOf_94 rfl ?_
                  obtain ⟨y23, u22, hgu22, h⟩ := ob_p h
                  refine vR_calli (As := [.int x1]) (rest := []) C (mX8_sights C.2.2.2.2.2.2.2.2.1 hgu22) 1 rfl tcX8_sights tlX8_169 tiX8_sights tsX8_sights rfl tnX8 tdX8_sights ⟨Nat.le_of_ble_eq_true rfl, Nat.le_of_ble_eq_true rfl⟩ rfl (Nat.le_of_ble_eq_true rfl) dX8_sailorOf_95 ?_
                  exact vi_donei (W := wR q cI) RET h dX8_sailorOf_98
                · replace h := ob_f h hc24
                  by_cases hc28 : x2 = 7
                  · have h := ob_t h hc28
                    refine vi_tswIn (off := 87) (tgt := 99) C dX8_sailorOf_12 (by rw [hc28]; decide) (by rw [hc28]; decide) (by rw [hc28]; rfl) (by decide) ?_
                    refine vi_aload_n C 0 dX8_sailorOf_99 rfl ?_
                    refine vi_iload_n C 1 dX8_sailorOf_100 rfl ?_
                    obtain ⟨y26, u25, hgu25, h⟩ := ob_p h
                    refine vR_calli (As := [.int x1]) (rest := []) C (mX8_mates C.2.2.2.2.2.2.2.2.1 hgu25) 1 rfl tcX8_mates tlX8_166 tiX8_mates tsX8_mates rfl tnX8 tdX8_mates ⟨Nat.le_of_ble_eq_true rfl, Nat.le_of_ble_eq_true rfl⟩ rfl (Nat.le_of_ble_eq_true rfl) dX8_sailorOf_101 ?_
                    obtain ⟨y27, hgy27, h⟩ := ob_bd h
                    refine vi_callS0i (As := [.int y26]) (rest := []) C (mX8_bits C.2.2.2.2.2.2.2.2.1 hgy27) 1 rfl tcX8_bits tlX8_77 ttX8_bits tnX8 tdX8_bits ⟨Nat.le_of_ble_eq_true rfl, Nat.le_of_ble_eq_true rfl⟩ rfl (Nat.le_of_ble_eq_true rfl) dX8_sailorOf_104 ?_
                    exact vi_donei (W := wR q cI) RET h dX8_sailorOf_107
                  · replace h := ob_f h hc28
                    by_cases hc31 : x2 = 8
                    · have h := ob_t h hc31
                      refine vi_tswIn (off := 96) (tgt := 108) C dX8_sailorOf_12 (by rw [hc31]; decide) (by rw [hc31]; decide) (by rw [hc31]; rfl) (by decide) ?_
                      refine vi_aload_n C 0 dX8_sailorOf_108 rfl ?_
                      refine vi_iload_n C 1 dX8_sailorOf_109 rfl ?_
                      obtain ⟨y30, u29, hgu29, h⟩ := ob_p h
                      refine vR_calli (As := [.int x1]) (rest := []) C (mX8_mess C.2.2.2.2.2.2.2.2.1 hgu29) 1 rfl tcX8_mess tlX8_172 tiX8_mess tsX8_mess rfl tnX8 tdX8_mess ⟨Nat.le_of_ble_eq_true rfl, Nat.le_of_ble_eq_true rfl⟩ rfl (Nat.le_of_ble_eq_true rfl) dX8_sailorOf_110 ?_
                      exact vi_donei (W := wR q cI) RET h dX8_sailorOf_113
                    · replace h := ob_f h hc31
                      refine vi_tswOut (tgt := 114) C dX8_sailorOf_12 (by have thc6 := lv_neT hc6 (a := 0) (by decide); have thc9 := lv_neT hc9 (a := 1) (by decide); have thc12 := lv_neT hc12 (a := 2) (by decide); have thc15 := lv_neT hc15 (a := 3) (by decide); have thc18 := lv_neT hc18 (a := 4) (by decide); have thc21 := lv_neT hc21 (a := 5) (by decide); have thc24 := lv_neT hc24 (a := 6) (by decide); have thc28 := lv_neT hc28 (a := 7) (by decide); have thc31 := lv_neT hc31 (a := 8) (by decide); omega) (by decide) ?_
                      refine vi_ldc (v := (-100002)) C dX8_sailorOf_114 tkX8_95 ?_
                      exact vi_donei (W := wR q cI) RET h dX8_sailorOf_116
  · have h := ob_t h hc3
    refine vi_ldc (v := (-100001)) C dX8_sailorOf_8 tkX8_111 ?_
    exact vi_donei (W := wR q cI) RET h dX8_sailorOf_10
theorem mX8_sailorOf {E : (Nat → Prop) → State → Heap → Prop} (hE : vEok E) {l : Launch} {D : va_G} {cI cF cC cS cO : ClassId} {q : Nat → Nat} {r0 : Int32} {u0 : vS}  {x1 : Int32} {x2 : Int32} {u : vS} (h : fX8_sailorOf x1 x2 u = some (r0, u0)) : vM E l yX8_sailorOf cX8_sailorOf 3 (some .int) 4 91 D (vT5 cI cF cC cS cO) [.ref (q 0), .int x1, .int x2] (wR q cI u) (vQi D (wR q cI u0) r0) :=
  vM_of hE (by decide +kernel) (Nat.le_of_ble_eq_true rfl) (fun p e s m args below meth c A C hr => kX8_sailorOf_e C (vi_reti C hr) h)
-- ---- X8_watchOf
def fX8_watchOf_27 : Nat → Int32 → Int32 → Int32 → Int32 → vS → Option (Int32 × vS)
  | 0, _, _, _, _, _ => none
  | n + 1, x1, x2, x3, x4, u => (if u 1 0 ≤ x4 then (if x2 = 0 then if (8 : Int32) + x1 < 0 ∨ 66 ≤ Int32.toNatClampNeg ((8 : Int32) + x1) then none else some (u 1 (Int32.toNatClampNeg ((8 : Int32) + x1)), u) else some (x3, u)) else (fX8_at x4 (2 : Int32)).bind fun y4 => if y4 < 0 ∨ 66 ≤ Int32.toNatClampNeg y4 then none else (if u 1 (Int32.toNatClampNeg y4) = x1 then (if x2 = (1 : Int32) then bd ((x3 + (1 : Int32) : Int32)) fun y18 => bd ((x4 + 1 : Int32)) fun y19 => fX8_watchOf_27 n x1 x2 y18 y19 u else (if x2 = (2 : Int32) then obp (fX8_cheer x4 u) fun y15 u14 => bd ((x3 + y15 : Int32)) fun y16 => bd ((x4 + 1 : Int32)) fun y17 => fX8_watchOf_27 n x1 x2 y16 y17 u14 else obp (fX8_dread x4 u) fun y11 u10 => bd ((x3 + y11 : Int32)) fun y12 => bd ((x4 + 1 : Int32)) fun y13 => fX8_watchOf_27 n x1 x2 y12 y13 u10)) else bd ((x4 + 1 : Int32)) fun y7 => fX8_watchOf_27 n x1 x2 x3 y7 u))
set_option maxRecDepth 100000 in
set_option maxHeartbeats 4000000 in
theorem kX8_watchOf_27 {E : (Nat → Prop) → State → Heap → Prop} {p : Program} {l : Launch} {e : Env} {s : State} {m : MethodId} {args : Array Value} {below : List Frame} {meth : Method} {c : Code} {A : Nat → Prop} {D : va_G} {cI cF cC cS cO : ClassId} {Q : State → Prop} {q : Nat → Nat} (C : vC E p l s m args meth c A D (vT5 cI cF cC cS cO) cX8_watchOf 5 RX8) {r0 : Int32} {u0 : vS} (RET : ∀ (pc : Nat) (lv : List (Nat × Value)), decode cX8_watchOf pc = .ok (.ireturn, 1) → vV p l e { frames := 2, cells := 0, slots := 0, locals := 43 } s m args below meth c A D 5 0 0 Q (wR q cI u0) pc lv [.int r0]) : ∀ (n : Nat) (x1 : Int32) (x2 : Int32) (x3 : Int32) (x4 : Int32) (u : vS), fX8_watchOf_27 n x1 x2 x3 x4 u = some (r0, u0) → vV p l e { frames := 2, cells := 0, slots := 0, locals := 43 } s m args below meth c A D 5 0 0 Q (wR q cI u) 27 [(0, .ref (q 0)), (1, .int x1), (2, .int x2), (3, .int x3), (4, .int x4)] [] := by
  intro n
  induction n with
  | zero => intro x1 x2 x3 x4 u h; rw [fX8_watchOf_27] at h; cases h
  | succ n ih =>
    intro x1 x2 x3 x4 u h
    rw [fX8_watchOf_27] at h
    refine vi_iload C 4 dX8_watchOf_27 rfl ?_
    refine vi_aload_n C 0 dX8_watchOf_29 rfl ?_
    refine gR_8 C dX8_watchOf_30 ?_
    refine vi_iconst (v := 0) C dX8_watchOf_33 (by decide) ?_
    refine lR_1 (n := 0) C (by decide) rfl dX8_watchOf_34 ?_
    refine vi_icmp_ge (tgt := 91) C dX8_watchOf_35 (by decide) (fun hc1 => ?_) (fun hc1 => ?_)
    · have h := ob_t h hc1
      refine vi_iload_n C 2 dX8_watchOf_91 rfl ?_
      refine vi_if_ne (tgt := 107) C dX8_watchOf_92 (by decide) (fun hc2 => ?_) (fun hc2 => ?_)
      · have h := ob_f h hc2
        refine vi_iload_n C 3 dX8_watchOf_107 rfl ?_
        exact vi_donei (W := wR q cI) RET h dX8_watchOf_108
      · have h := ob_t h hc2
        refine vi_aload_n C 0 dX8_watchOf_95 rfl ?_
        refine gR_8 C dX8_watchOf_96 ?_
        refine vi_bipush (v := 8) C dX8_watchOf_99 (by decide) ?_
        refine vi_iload_n C 1 dX8_watchOf_101 rfl ?_
        refine vi_iadd C dX8_watchOf_102 ?_
        obtain ⟨hz3, h⟩ := ob_if h
        refine lR_1 (n := (Int32.toNatClampNeg ((8 : Int32) + x1))) C hz3 rfl dX8_watchOf_103 ?_
        refine vi_goto (tgt := 108) C dX8_watchOf_104 (by decide) ?_
        exact vi_donei (W := wR q cI) RET h dX8_watchOf_108
    · have h := ob_f h hc1
      refine vi_aload_n C 0 dX8_watchOf_38 rfl ?_
      refine gR_8 C dX8_watchOf_39 ?_
      refine vi_iload C 4 dX8_watchOf_42 rfl ?_
      refine vi_iconst (v := 2) C dX8_watchOf_44 (by decide) ?_
      obtain ⟨y4, hgy4, h⟩ := ob_bd h
      refine vi_callS0i (As := [.int x4, .int (2 : Int32)]) (rest := [.ref (q 1)]) C (mX8_at C.2.2.2.2.2.2.2.2.1 hgy4) 2 rfl tcX8_at tlX8_73 ttX8_at tnX8 tdX8_at ⟨Nat.le_of_ble_eq_true rfl, Nat.le_of_ble_eq_true rfl⟩ rfl (Nat.le_of_ble_eq_true rfl) dX8_watchOf_45 ?_
      obtain ⟨hz5, h⟩ := ob_if h
      refine lR_1 (n := (Int32.toNatClampNeg y4)) C hz5 rfl dX8_watchOf_48 ?_
      refine vi_iload_n C 1 dX8_watchOf_49 rfl ?_
      refine vi_icmp_ne (tgt := 85) C dX8_watchOf_50 (by decide) (fun hc6 => ?_) (fun hc6 => ?_)
      · have h := ob_f h hc6
        obtain ⟨y7, ey7, h⟩ := ob_nm h
        refine vi_iinc (v := y7) (lv' := [(4, .int y7), (0, .ref (q 0)), (1, .int x1), (2, .int x2), (3, .int x3)]) C 4 dX8_watchOf_85 rfl (by rw [ey7]; rfl) (by decide) rfl ?_
        refine vi_goto (tgt := 27) C dX8_watchOf_88 (by decide) ?_
        refine vi_sub C [1, 2, 3, 4, 0] rfl ?_
        exact ih _ _ _ _ _ h
      · have h := ob_t h hc6
        refine vi_iload_n C 3 dX8_watchOf_53 rfl ?_
        refine vi_iload_n C 2 dX8_watchOf_54 rfl ?_
        refine vi_iconst (v := 1) C dX8_watchOf_55 (by decide) ?_
        refine vi_icmp_ne (tgt := 63) C dX8_watchOf_56 (by decide) (fun hc8 => ?_) (fun hc8 => ?_)
        · have h := ob_f h hc8
          refine vi_iload_n C 2 dX8_watchOf_63 rfl ?_
          refine vi_iconst (v := 2) C dX8_watchOf_64 (by decide) ?_
          refine vi_icmp_ne (tgt := 77) C dX8_watchOf_65 (by decide) (fun hc9 => ?_) (fun hc9 => ?_)
          · have h := ob_f h hc9
            refine vi_aload_n C 0 dX8_watchOf_77 rfl ?_
            refine vi_iload C 4 dX8_watchOf_78 rfl ?_
            obtain ⟨y11, u10, hgu10, h⟩ := ob_p h
            refine vR_calli (As := [.int x4]) (rest := [.int x3]) C (mX8_dread C.2.2.2.2.2.2.2.2.1 hgu10) 1 rfl tcX8_dread tlX8_83 tiX8_dread tsX8_dread rfl tnX8 tdX8_dread ⟨Nat.le_of_ble_eq_true rfl, Nat.le_of_ble_eq_true rfl⟩ rfl (Nat.le_of_ble_eq_true rfl) dX8_watchOf_80 ?_
            refine vi_iadd C dX8_watchOf_83 ?_
            obtain ⟨y12, ey12, h⟩ := ob_nm h
            refine vi_nmi ey12 ?_
            refine vi_istore_n (lv' := [(3, .int y12), (0, .ref (q 0)), (1, .int x1), (2, .int x2), (4, .int x4)]) C dX8_watchOf_84 rfl (by decide) rfl ?_
            obtain ⟨y13, ey13, h⟩ := ob_nm h
            refine vi_iinc (v := y13) (lv' := [(4, .int y13), (3, .int y12), (0, .ref (q 0)), (1, .int x1), (2, .int x2)]) C 4 dX8_watchOf_85 rfl (by rw [ey13]; rfl) (by decide) rfl ?_
            refine vi_goto (tgt := 27) C dX8_watchOf_88 (by decide) ?_
            refine vi_sub C [2, 3, 4, 1, 0] rfl ?_
            exact ih _ _ _ _ _ h
          · have h := ob_t h hc9
            refine vi_aload_n C 0 dX8_watchOf_68 rfl ?_
            refine vi_iload C 4 dX8_watchOf_69 rfl ?_
            obtain ⟨y15, u14, hgu14, h⟩ := ob_p h
            refine vR_calli (As := [.int x4]) (rest := [.int x3]) C (mX8_cheer C.2.2.2.2.2.2.2.2.1 hgu14) 1 rfl tcX8_cheer tlX8_80 tiX8_cheer tsX8_cheer rfl tnX8 tdX8_cheer ⟨Nat.le_of_ble_eq_true rfl, Nat.le_of_ble_eq_true rfl⟩ rfl (Nat.le_of_ble_eq_true rfl) dX8_watchOf_71 ?_
            refine vi_goto (tgt := 83) C dX8_watchOf_74 (by decide) ?_
            refine vi_iadd C dX8_watchOf_83 ?_
            obtain ⟨y16, ey16, h⟩ := ob_nm h
            refine vi_nmi ey16 ?_
            refine vi_istore_n (lv' := [(3, .int y16), (0, .ref (q 0)), (1, .int x1), (2, .int x2), (4, .int x4)]) C dX8_watchOf_84 rfl (by decide) rfl ?_
            obtain ⟨y17, ey17, h⟩ := ob_nm h
            refine vi_iinc (v := y17) (lv' := [(4, .int y17), (3, .int y16), (0, .ref (q 0)), (1, .int x1), (2, .int x2)]) C 4 dX8_watchOf_85 rfl (by rw [ey17]; rfl) (by decide) rfl ?_
            refine vi_goto (tgt := 27) C dX8_watchOf_88 (by decide) ?_
            refine vi_sub C [2, 3, 4, 1, 0] rfl ?_
            exact ih _ _ _ _ _ h
        · have h := ob_t h hc8
          refine vi_iconst (v := 1) C dX8_watchOf_59 (by decide) ?_
          refine vi_goto (tgt := 83) C dX8_watchOf_60 (by decide) ?_
          refine vi_iadd C dX8_watchOf_83 ?_
          obtain ⟨y18, ey18, h⟩ := ob_nm h
          refine vi_nmi ey18 ?_
          refine vi_istore_n (lv' := [(3, .int y18), (0, .ref (q 0)), (1, .int x1), (2, .int x2), (4, .int x4)]) C dX8_watchOf_84 rfl (by decide) rfl ?_
          obtain ⟨y19, ey19, h⟩ := ob_nm h
          refine vi_iinc (v := y19) (lv' := [(4, .int y19), (3, .int y18), (0, .ref (q 0)), (1, .int x1), (2, .int x2)]) C 4 dX8_watchOf_85 rfl (by rw [ey19]; rfl) (by decide) rfl ?_
          refine vi_goto (tgt := 27) C dX8_watchOf_88 (by decide) ?_
          refine vi_sub C [2, 3, 4, 1, 0] rfl ?_
          exact ih _ _ _ _ _ h
def fX8_watchOf (x1 : Int32) (x2 : Int32) (u : vS) : Option (Int32 × vS) := (fX8_isWatch x1).bind fun y1 => (if y1 = 0 then some ((-100001 : Int32), u) else (fX8_isIn x2 (0 : Int32) (3 : Int32)).bind fun y3 => (if y3 = 0 then some ((-100002 : Int32), u) else fX8_watchOf_27 vF x1 x2 (0 : Int32) (0 : Int32) u))
set_option maxRecDepth 100000 in
set_option maxHeartbeats 4000000 in
theorem kX8_watchOf_e {E : (Nat → Prop) → State → Heap → Prop} {p : Program} {l : Launch} {e : Env} {s : State} {m : MethodId} {args : Array Value} {below : List Frame} {meth : Method} {c : Code} {A : Nat → Prop} {D : va_G} {cI cF cC cS cO : ClassId} {Q : State → Prop} {q : Nat → Nat} (C : vC E p l s m args meth c A D (vT5 cI cF cC cS cO) cX8_watchOf 5 RX8) {r0 : Int32} {u0 : vS} (RET : ∀ (pc : Nat) (lv : List (Nat × Value)), decode cX8_watchOf pc = .ok (.ireturn, 1) → vV p l e { frames := 2, cells := 0, slots := 0, locals := 43 } s m args below meth c A D 5 0 0 Q (wR q cI u0) pc lv [.int r0]) {x1 : Int32} {x2 : Int32} {u : vS} (h : fX8_watchOf x1 x2 u = some (r0, u0)) : vV p l e { frames := 2, cells := 0, slots := 0, locals := 43 } s m args below meth c A D 5 0 0 Q (wR q cI u) 0 [(0, .ref (q 0)), (1, .int x1), (2, .int x2)] [] := by
  rw [fX8_watchOf] at h
  refine vi_iload_n C 1 dX8_watchOf_0 rfl ?_
  obtain ⟨y1, hgy1, h⟩ := ob_bd h
  refine vi_callS0i (As := [.int x1]) (rest := []) C (mX8_isWatch C.2.2.2.2.2.2.2.2.1 hgy1) 1 rfl tcX8_isWatch tlX8_128 ttX8_isWatch tnX8 tdX8_isWatch ⟨Nat.le_of_ble_eq_true rfl, Nat.le_of_ble_eq_true rfl⟩ rfl (Nat.le_of_ble_eq_true rfl) dX8_watchOf_1 ?_
  refine vi_if_ne (tgt := 10) C dX8_watchOf_4 (by decide) (fun hc2 => ?_) (fun hc2 => ?_)
  · have h := ob_f h hc2
    refine vi_iload_n C 2 dX8_watchOf_10 rfl ?_
    refine vi_iconst (v := 0) C dX8_watchOf_11 (by decide) ?_
    refine vi_iconst (v := 3) C dX8_watchOf_12 (by decide) ?_
    obtain ⟨y3, hgy3, h⟩ := ob_bd h
    refine vi_callS0i (As := [.int x2, .int (0 : Int32), .int (3 : Int32)]) (rest := []) C (mX8_isIn C.2.2.2.2.2.2.2.2.1 hgy3) 3 rfl tcX8_isIn tlX8_68 ttX8_isIn tnX8 tdX8_isIn ⟨Nat.le_of_ble_eq_true rfl, Nat.le_of_ble_eq_true rfl⟩ rfl (Nat.le_of_ble_eq_true rfl) dX8_watchOf_13 ?_
    refine vi_if_ne (tgt := 22) C dX8_watchOf_16 (by decide) (fun hc4 => ?_) (fun hc4 => ?_)
    · have h := ob_f h hc4
      refine vi_iconst (v := 0) C dX8_watchOf_22 (by decide) ?_
      refine vi_istore_n (lv' := [(3, .int (0 : Int32)), (0, .ref (q 0)), (1, .int x1), (2, .int x2)]) C dX8_watchOf_23 rfl (by decide) rfl ?_
      refine vi_iconst (v := 0) C dX8_watchOf_24 (by decide) ?_
      refine vi_istore (lv' := [(4, .int (0 : Int32)), (3, .int (0 : Int32)), (0, .ref (q 0)), (1, .int x1), (2, .int x2)]) C dX8_watchOf_25 (by decide) rfl ?_
      refine vi_sub C [2, 3, 4, 1, 0] rfl ?_
      exact kX8_watchOf_27 C RET  vF _ _ _ _ _ h
    · have h := ob_t h hc4
      refine vi_ldc (v := (-100002)) C dX8_watchOf_19 tkX8_95 ?_
      exact vi_donei (W := wR q cI) RET h dX8_watchOf_21
  · have h := ob_t h hc2
    refine vi_ldc (v := (-100001)) C dX8_watchOf_7 tkX8_111 ?_
    exact vi_donei (W := wR q cI) RET h dX8_watchOf_9
theorem mX8_watchOf {E : (Nat → Prop) → State → Heap → Prop} (hE : vEok E) {l : Launch} {D : va_G} {cI cF cC cS cO : ClassId} {q : Nat → Nat} {r0 : Int32} {u0 : vS}  {x1 : Int32} {x2 : Int32} {u : vS} (h : fX8_watchOf x1 x2 u = some (r0, u0)) : vM E l yX8_watchOf cX8_watchOf 5 (some .int) 2 43 D (vT5 cI cF cC cS cO) [.ref (q 0), .int x1, .int x2] (wR q cI u) (vQi D (wR q cI u0) r0) :=
  vM_of hE (by decide +kernel) (Nat.le_of_ble_eq_true rfl) (fun p e s m args below meth c A C hr => kX8_watchOf_e C (vi_reti C hr) h)
-- ---- X8_sightOf
def fX8_sightOf (x1 : Int32) (x2 : Int32) (u : vS) : Option (Int32 × vS) := (fX8_isIn x1 (0 : Int32) ((u 1 3) - (1 : Int32))).bind fun y1 => (if y1 = 0 then some ((-100001 : Int32), u) else (fX8_isIn x2 (0 : Int32) (2 : Int32)).bind fun y3 => (if y3 = 0 then some ((-100002 : Int32), u) else if ((36 : Int32) + ((3 : Int32) * x1)) + x2 < 0 ∨ 66 ≤ Int32.toNatClampNeg (((36 : Int32) + ((3 : Int32) * x1)) + x2) then none else some (u 1 (Int32.toNatClampNeg (((36 : Int32) + ((3 : Int32) * x1)) + x2)), u)))
set_option maxRecDepth 100000 in
set_option maxHeartbeats 4000000 in
theorem kX8_sightOf_e {E : (Nat → Prop) → State → Heap → Prop} {p : Program} {l : Launch} {e : Env} {s : State} {m : MethodId} {args : Array Value} {below : List Frame} {meth : Method} {c : Code} {A : Nat → Prop} {D : va_G} {cI cF cC cS cO : ClassId} {Q : State → Prop} {q : Nat → Nat} (C : vC E p l s m args meth c A D (vT5 cI cF cC cS cO) cX8_sightOf 3 RX8) {r0 : Int32} {u0 : vS} (RET : ∀ (pc : Nat) (lv : List (Nat × Value)), decode cX8_sightOf pc = .ok (.ireturn, 1) → vV p l e { frames := 1, cells := 0, slots := 0, locals := 22 } s m args below meth c A D 3 0 0 Q (wR q cI u0) pc lv [.int r0]) {x1 : Int32} {x2 : Int32} {u : vS} (h : fX8_sightOf x1 x2 u = some (r0, u0)) : vV p l e { frames := 1, cells := 0, slots := 0, locals := 22 } s m args below meth c A D 3 0 0 Q (wR q cI u) 0 [(0, .ref (q 0)), (1, .int x1), (2, .int x2)] [] := by
  rw [fX8_sightOf] at h
  refine vi_iload_n C 1 dX8_sightOf_0 rfl ?_
  refine vi_iconst (v := 0) C dX8_sightOf_1 (by decide) ?_
  refine vi_aload_n C 0 dX8_sightOf_2 rfl ?_
  refine gR_8 C dX8_sightOf_3 ?_
  refine vi_iconst (v := 3) C dX8_sightOf_6 (by decide) ?_
  refine lR_1 (n := 3) C (by decide) rfl dX8_sightOf_7 ?_
  refine vi_iconst (v := 1) C dX8_sightOf_8 (by decide) ?_
  refine vi_isub C dX8_sightOf_9 ?_
  obtain ⟨y1, hgy1, h⟩ := ob_bd h
  refine vi_callS0i (As := [.int x1, .int (0 : Int32), .int ((u 1 3) - (1 : Int32))]) (rest := []) C (mX8_isIn C.2.2.2.2.2.2.2.2.1 hgy1) 3 rfl tcX8_isIn tlX8_68 ttX8_isIn tnX8 tdX8_isIn ⟨Nat.le_of_ble_eq_true rfl, Nat.le_of_ble_eq_true rfl⟩ rfl (Nat.le_of_ble_eq_true rfl) dX8_sightOf_10 ?_
  refine vi_if_ne (tgt := 19) C dX8_sightOf_13 (by decide) (fun hc2 => ?_) (fun hc2 => ?_)
  · have h := ob_f h hc2
    refine vi_iload_n C 2 dX8_sightOf_19 rfl ?_
    refine vi_iconst (v := 0) C dX8_sightOf_20 (by decide) ?_
    refine vi_iconst (v := 2) C dX8_sightOf_21 (by decide) ?_
    obtain ⟨y3, hgy3, h⟩ := ob_bd h
    refine vi_callS0i (As := [.int x2, .int (0 : Int32), .int (2 : Int32)]) (rest := []) C (mX8_isIn C.2.2.2.2.2.2.2.2.1 hgy3) 3 rfl tcX8_isIn tlX8_68 ttX8_isIn tnX8 tdX8_isIn ⟨Nat.le_of_ble_eq_true rfl, Nat.le_of_ble_eq_true rfl⟩ rfl (Nat.le_of_ble_eq_true rfl) dX8_sightOf_22 ?_
    refine vi_if_eq (tgt := 44) C dX8_sightOf_25 (by decide) (fun hc4 => ?_) (fun hc4 => ?_)
    · have h := ob_t h hc4
      refine vi_ldc (v := (-100002)) C dX8_sightOf_44 tkX8_95 ?_
      exact vi_donei (W := wR q cI) RET h dX8_sightOf_46
    · have h := ob_f h hc4
      refine vi_aload_n C 0 dX8_sightOf_28 rfl ?_
      refine gR_8 C dX8_sightOf_29 ?_
      refine vi_bipush (v := 36) C dX8_sightOf_32 (by decide) ?_
      refine vi_iconst (v := 3) C dX8_sightOf_34 (by decide) ?_
      refine vi_iload_n C 1 dX8_sightOf_35 rfl ?_
      refine vi_imul C dX8_sightOf_36 ?_
      refine vi_iadd C dX8_sightOf_37 ?_
      refine vi_iload_n C 2 dX8_sightOf_38 rfl ?_
      refine vi_iadd C dX8_sightOf_39 ?_
      obtain ⟨hz5, h⟩ := ob_if h
      refine lR_1 (n := (Int32.toNatClampNeg (((36 : Int32) + ((3 : Int32) * x1)) + x2))) C hz5 rfl dX8_sightOf_40 ?_
      refine vi_goto (tgt := 46) C dX8_sightOf_41 (by decide) ?_
      exact vi_donei (W := wR q cI) RET h dX8_sightOf_46
  · have h := ob_t h hc2
    refine vi_ldc (v := (-100001)) C dX8_sightOf_16 tkX8_111 ?_
    exact vi_donei (W := wR q cI) RET h dX8_sightOf_18
theorem mX8_sightOf {E : (Nat → Prop) → State → Heap → Prop} (hE : vEok E) {l : Launch} {D : va_G} {cI cF cC cS cO : ClassId} {q : Nat → Nat} {r0 : Int32} {u0 : vS}  {x1 : Int32} {x2 : Int32} {u : vS} (h : fX8_sightOf x1 x2 u = some (r0, u0)) : vM E l yX8_sightOf cX8_sightOf 3 (some .int) 1 22 D (vT5 cI cF cC cS cO) [.ref (q 0), .int x1, .int x2] (wR q cI u) (vQi D (wR q cI u0) r0) :=
  vM_of hE (by decide +kernel) (Nat.le_of_ble_eq_true rfl) (fun p e s m args below meth c A C hr => kX8_sightOf_e C (vi_reti C hr) h)
