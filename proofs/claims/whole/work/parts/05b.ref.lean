-- ---- X8_shore
def fX8_shore (x1 : Int32) (u : vS) : Option (Int32 × vS) := (fX8_begins u).bind fun u1 => obp (fX8_goes x1 u1) fun y3 u2 => obp (fX8_ends y3 u2) fun y5 u4 => some (y5, u4)
set_option maxRecDepth 100000 in
set_option maxHeartbeats 4000000 in
theorem kX8_shore_e {E : (Nat → Prop) → State → Heap → Prop} {p : Program} {l : Launch} {e : Env} {s : State} {m : MethodId} {args : Array Value} {below : List Frame} {meth : Method} {c : Code} {A : Nat → Prop} {D : va_G} {cI cF cC cS cO : ClassId} {Q : State → Prop} {q : Nat → Nat} (C : vC E p l s m args meth c A D (vT5 cI cF cC cS cO) cX8_shore 2 RX8) {r0 : Int32} {u0 : vS} (RET : ∀ (pc : Nat) (lv : List (Nat × Value)), decode cX8_shore pc = .ok (.ireturn, 1) → vV p l e { frames := 3, cells := 0, slots := 0, locals := 66 } s m args below meth c A D 2 0 0 Q (wR q cI u0) pc lv [.int r0]) {x1 : Int32} {u : vS} (h : fX8_shore x1 u = some (r0, u0)) : vV p l e { frames := 3, cells := 0, slots := 0, locals := 66 } s m args below meth c A D 2 0 0 Q (wR q cI u) 0 [(0, .ref (q 0)), (1, .int x1)] [] := by
  rw [fX8_shore] at h
  refine vi_aload_n C 0 dX8_shore_0 rfl ?_
  obtain ⟨u1, hgu1, h⟩ := ob_bd h
  refine vR_callv (As := []) (rest := []) C (mX8_begins C.2.2.2.2.2.2.2.2.1 hgu1) 0 rfl tcX8_begins tlX8_99 tiX8_begins tsX8_begins rfl tnX8 tdX8_begins ⟨Nat.le_of_ble_eq_true rfl, Nat.le_of_ble_eq_true rfl⟩ rfl (Nat.le_of_ble_eq_true rfl) dX8_shore_1 ?_
  refine vi_aload_n C 0 dX8_shore_4 rfl ?_
  refine vi_aload_n C 0 dX8_shore_5 rfl ?_
  refine vi_iload_n C 1 dX8_shore_6 rfl ?_
  obtain ⟨y3, u2, hgu2, h⟩ := ob_p h
  refine vR_calli (As := [.int x1]) (rest := [.ref (q 0)]) C (mX8_goes C.2.2.2.2.2.2.2.2.1 hgu2) 1 rfl tcX8_goes tlX8_116 tiX8_goes tsX8_goes rfl tnX8 tdX8_goes ⟨Nat.le_of_ble_eq_true rfl, Nat.le_of_ble_eq_true rfl⟩ rfl (Nat.le_of_ble_eq_true rfl) dX8_shore_7 ?_
  obtain ⟨y5, u4, hgu4, h⟩ := ob_p h
  refine vR_calli (As := [.int y3]) (rest := []) C (mX8_ends C.2.2.2.2.2.2.2.2.1 hgu4) 1 rfl tcX8_ends tlX8_105 tiX8_ends tsX8_ends rfl tnX8 tdX8_ends ⟨Nat.le_of_ble_eq_true rfl, Nat.le_of_ble_eq_true rfl⟩ rfl (Nat.le_of_ble_eq_true rfl) dX8_shore_10 ?_
  exact vi_donei (W := wR q cI) RET h dX8_shore_13
theorem mX8_shore {E : (Nat → Prop) → State → Heap → Prop} (hE : vEok E) {l : Launch} {D : va_G} {cI cF cC cS cO : ClassId} {q : Nat → Nat} {r0 : Int32} {u0 : vS}  {x1 : Int32} {u : vS} (h : fX8_shore x1 u = some (r0, u0)) : vM E l yX8_shore cX8_shore 2 (some .int) 3 66 D (vT5 cI cF cC cS cO) [.ref (q 0), .int x1] (wR q cI u) (vQi D (wR q cI u0) r0) :=
  vM_of hE (by decide +kernel) (Nat.le_of_ble_eq_true rfl) (fun p e s m args below meth c A C hr => kX8_shore_e C (vi_reti C hr) h)
-- ---- X8_sets
def fX8_sets (x1 : Int32) (x2 : Int32) (u : vS) : Option (Int32 × vS) := if x1 < 0 ∨ 66 ≤ Int32.toNatClampNeg x1 then none else bd ((u 1 (Int32.toNatClampNeg x1) : Int32)) fun y2 => (if y2 = x2 then obp (fX8_refuses (2 : Int32) x2 u) fun y7 u6 => some (y7, u6) else if x1 < 0 ∨ 66 ≤ Int32.toNatClampNeg x1 then none else bd (up2 u 1 (Int32.toNatClampNeg x1) x2) fun u5 => some (y2, u5))
set_option maxRecDepth 100000 in
set_option maxHeartbeats 4000000 in
theorem kX8_sets_e {E : (Nat → Prop) → State → Heap → Prop} {p : Program} {l : Launch} {e : Env} {s : State} {m : MethodId} {args : Array Value} {below : List Frame} {meth : Method} {c : Code} {A : Nat → Prop} {D : va_G} {cI cF cC cS cO : ClassId} {Q : State → Prop} {q : Nat → Nat} (C : vC E p l s m args meth c A D (vT5 cI cF cC cS cO) cX8_sets 4 RX8) {r0 : Int32} {u0 : vS} (RET : ∀ (pc : Nat) (lv : List (Nat × Value)), decode cX8_sets pc = .ok (.ireturn, 1) → vV p l e { frames := 2, cells := 0, slots := 0, locals := 43 } s m args below meth c A D 4 0 0 Q (wR q cI u0) pc lv [.int r0]) {x1 : Int32} {x2 : Int32} {u : vS} (h : fX8_sets x1 x2 u = some (r0, u0)) : vV p l e { frames := 2, cells := 0, slots := 0, locals := 43 } s m args below meth c A D 4 0 0 Q (wR q cI u) 0 [(0, .ref (q 0)), (1, .int x1), (2, .int x2)] [] := by
  rw [fX8_sets] at h
  refine vi_aload_n C 0 dX8_sets_0 rfl ?_
  refine gR_8 C dX8_sets_1 ?_
  refine vi_iload_n C 1 dX8_sets_4 rfl ?_
  obtain ⟨hz1, h⟩ := ob_if h
  refine lR_1 (n := (Int32.toNatClampNeg x1)) C hz1 rfl dX8_sets_5 ?_
  obtain ⟨y2, ey2, h⟩ := ob_nm h
  refine vi_nmi ey2 ?_
  refine vi_istore_n (lv' := [(3, .int y2), (0, .ref (q 0)), (1, .int x1), (2, .int x2)]) C dX8_sets_6 rfl (by decide) rfl ?_
  refine vi_iload_n C 0 dX8_sets_7 rfl ?_
  refine vi_iload_n C 3 dX8_sets_8 rfl ?_
  refine vi_icmp_ne (tgt := 19) C dX8_sets_9 (by decide) (fun hc3 => ?_) (fun hc3 => ?_)
  · have h := ob_f h hc3
    refine vi_aload_n C 1 dX8_sets_19 rfl ?_
    refine gR_8 C dX8_sets_20 ?_
    refine vi_iload_n C 2 dX8_sets_23 rfl ?_
    refine vi_iload_n C 3 dX8_sets_24 rfl ?_
    obtain ⟨hz4, h⟩ := ob_if h
    obtain ⟨u5, eu5, h⟩ := ob_nm h
    refine sR_1 (n := (Int32.toNatClampNeg x1)) C hz4 rfl dX8_sets_25 eu5.symm ?_
    refine vi_iload_n C 0 dX8_sets_26 rfl ?_
    exact vi_donei (W := wR q cI) RET h dX8_sets_27
  · have h := ob_t h hc3
    refine vi_aload_n C 1 dX8_sets_12 rfl ?_
    refine vi_iconst (v := 2) C dX8_sets_13 (by decide) ?_
    refine vi_iload_n C 3 dX8_sets_14 rfl ?_
    obtain ⟨y7, u6, hgu6, h⟩ := ob_p h
    refine vR_calli (As := [.int (2 : Int32), .int x2]) (rest := []) C (mX8_refuses C.2.2.2.2.2.2.2.2.1 hgu6) 2 rfl tcX8_refuses tlX8_96 tiX8_refuses tsX8_refuses rfl tnX8 tdX8_refuses ⟨Nat.le_of_ble_eq_true rfl, Nat.le_of_ble_eq_true rfl⟩ rfl (Nat.le_of_ble_eq_true rfl) dX8_sets_15 ?_
    exact vi_donei (W := wR q cI) RET h dX8_sets_18
theorem mX8_sets {E : (Nat → Prop) → State → Heap → Prop} (hE : vEok E) {l : Launch} {D : va_G} {cI cF cC cS cO : ClassId} {q : Nat → Nat} {r0 : Int32} {u0 : vS}  {x1 : Int32} {x2 : Int32} {u : vS} (h : fX8_sets x1 x2 u = some (r0, u0)) : vM E l yX8_sets cX8_sets 4 (some .int) 2 43 D (vT5 cI cF cC cS cO) [.ref (q 0), .int x1, .int x2] (wR q cI u) (vQi D (wR q cI u0) r0) :=
  vM_of hE (by decide +kernel) (Nat.le_of_ble_eq_true rfl) (fun p e s m args below meth c A C hr => kX8_sets_e C (vi_reti C hr) h)
-- ---- X8_moods
def fX8_moods (x1 : Int32) (x2 : Int32) (u : vS) : Option (Int32 × vS) := obp (fX8_isSailor x1 u) fun y2 u1 => (if y2 = 0 then obp (fX8_fail (-100001 : Int32) u1) fun y12 u11 => some (y12, u11) else (fX8_isMood x2).bind fun y4 => (if y4 = 0 then obp (fX8_fail (-100002 : Int32) u1) fun y7 u6 => some (y7, u6) else (fX8_at x1 (0 : Int32)).bind fun y8 => obp (fX8_sets y8 x2 u1) fun y10 u9 => some (y10, u9)))
set_option maxRecDepth 100000 in
set_option maxHeartbeats 4000000 in
theorem kX8_moods_e {E : (Nat → Prop) → State → Heap → Prop} {p : Program} {l : Launch} {e : Env} {s : State} {m : MethodId} {args : Array Value} {below : List Frame} {meth : Method} {c : Code} {A : Nat → Prop} {D : va_G} {cI cF cC cS cO : ClassId} {Q : State → Prop} {q : Nat → Nat} (C : vC E p l s m args meth c A D (vT5 cI cF cC cS cO) cX8_moods 3 RX8) {r0 : Int32} {u0 : vS} (RET : ∀ (pc : Nat) (lv : List (Nat × Value)), decode cX8_moods pc = .ok (.ireturn, 1) → vV p l e { frames := 3, cells := 0, slots := 0, locals := 66 } s m args below meth c A D 3 0 0 Q (wR q cI u0) pc lv [.int r0]) {x1 : Int32} {x2 : Int32} {u : vS} (h : fX8_moods x1 x2 u = some (r0, u0)) : vV p l e { frames := 3, cells := 0, slots := 0, locals := 66 } s m args below meth c A D 3 0 0 Q (wR q cI u) 0 [(0, .ref (q 0)), (1, .int x1), (2, .int x2)] [] := by
  rw [fX8_moods] at h
  refine vi_aload_n C 0 dX8_moods_0 rfl ?_
  refine vi_iload_n C 1 dX8_moods_1 rfl ?_
  obtain ⟨y2, u1, hgu1, h⟩ := ob_p h
  refine vR_calli (As := [.int x1]) (rest := []) C (mX8_isSailor C.2.2.2.2.2.2.2.2.1 hgu1) 1 rfl tcX8_isSailor tlX8_108 tiX8_isSailor tsX8_isSailor rfl tnX8 tdX8_isSailor ⟨Nat.le_of_ble_eq_true rfl, Nat.le_of_ble_eq_true rfl⟩ rfl (Nat.le_of_ble_eq_true rfl) dX8_moods_2 ?_
  refine vi_if_ne (tgt := 17) C dX8_moods_5 (by decide) (fun hc3 => ?_) (fun hc3 => ?_)
  · have h := ob_f h hc3
    refine vi_iload_n C 2 dX8_moods_17 rfl ?_
    obtain ⟨y4, hgy4, h⟩ := ob_bd h
    refine vi_callS0i (As := [.int x2]) (rest := []) C (mX8_isMood C.2.2.2.2.2.2.2.2.1 hgy4) 1 rfl tcX8_isMood tlX8_91 ttX8_isMood tnX8 tdX8_isMood ⟨Nat.le_of_ble_eq_true rfl, Nat.le_of_ble_eq_true rfl⟩ rfl (Nat.le_of_ble_eq_true rfl) dX8_moods_18 ?_
    refine vi_if_eq (tgt := 37) C dX8_moods_21 (by decide) (fun hc5 => ?_) (fun hc5 => ?_)
    · have h := ob_t h hc5
      refine vi_aload_n C 0 dX8_moods_37 rfl ?_
      refine vi_ldc (v := (-100002)) C dX8_moods_38 tkX8_95 ?_
      obtain ⟨y7, u6, hgu6, h⟩ := ob_p h
      refine vR_calli (As := [.int (-100002 : Int32)]) (rest := []) C (mX8_fail C.2.2.2.2.2.2.2.2.1 hgu6) 1 rfl tcX8_fail tlX8_57 tiX8_fail tsX8_fail rfl tnX8 tdX8_fail ⟨Nat.le_of_ble_eq_true rfl, Nat.le_of_ble_eq_true rfl⟩ rfl (Nat.le_of_ble_eq_true rfl) dX8_moods_40 ?_
      exact vi_donei (W := wR q cI) RET h dX8_moods_43
    · have h := ob_f h hc5
      refine vi_aload_n C 0 dX8_moods_24 rfl ?_
      refine vi_iload_n C 1 dX8_moods_25 rfl ?_
      refine vi_iconst (v := 0) C dX8_moods_26 (by decide) ?_
      obtain ⟨y8, hgy8, h⟩ := ob_bd h
      refine vi_callS0i (As := [.int x1, .int (0 : Int32)]) (rest := [.ref (q 0)]) C (mX8_at C.2.2.2.2.2.2.2.2.1 hgy8) 2 rfl tcX8_at tlX8_73 ttX8_at tnX8 tdX8_at ⟨Nat.le_of_ble_eq_true rfl, Nat.le_of_ble_eq_true rfl⟩ rfl (Nat.le_of_ble_eq_true rfl) dX8_moods_27 ?_
      refine vi_iload_n C 2 dX8_moods_30 rfl ?_
      obtain ⟨y10, u9, hgu9, h⟩ := ob_p h
      refine vR_calli (As := [.int y8, .int x2]) (rest := []) C (mX8_sets C.2.2.2.2.2.2.2.2.1 hgu9) 2 rfl tcX8_sets tlX8_119 tiX8_sets tsX8_sets rfl tnX8 tdX8_sets ⟨Nat.le_of_ble_eq_true rfl, Nat.le_of_ble_eq_true rfl⟩ rfl (Nat.le_of_ble_eq_true rfl) dX8_moods_31 ?_
      refine vi_goto (tgt := 43) C dX8_moods_34 (by decide) ?_
      exact vi_donei (W := wR q cI) RET h dX8_moods_43
  · have h := ob_t h hc3
    refine vi_aload_n C 0 dX8_moods_8 rfl ?_
    refine vi_ldc (v := (-100001)) C dX8_moods_9 tkX8_111 ?_
    obtain ⟨y12, u11, hgu11, h⟩ := ob_p h
    refine vR_calli (As := [.int (-100001 : Int32)]) (rest := []) C (mX8_fail C.2.2.2.2.2.2.2.2.1 hgu11) 1 rfl tcX8_fail tlX8_57 tiX8_fail tsX8_fail rfl tnX8 tdX8_fail ⟨Nat.le_of_ble_eq_true rfl, Nat.le_of_ble_eq_true rfl⟩ rfl (Nat.le_of_ble_eq_true rfl) dX8_moods_11 ?_
    refine vi_goto (tgt := 43) C dX8_moods_14 (by decide) ?_
    exact vi_donei (W := wR q cI) RET h dX8_moods_43
theorem mX8_moods {E : (Nat → Prop) → State → Heap → Prop} (hE : vEok E) {l : Launch} {D : va_G} {cI cF cC cS cO : ClassId} {q : Nat → Nat} {r0 : Int32} {u0 : vS}  {x1 : Int32} {x2 : Int32} {u : vS} (h : fX8_moods x1 x2 u = some (r0, u0)) : vM E l yX8_moods cX8_moods 3 (some .int) 3 66 D (vT5 cI cF cC cS cO) [.ref (q 0), .int x1, .int x2] (wR q cI u) (vQi D (wR q cI u0) r0) :=
  vM_of hE (by decide +kernel) (Nat.le_of_ble_eq_true rfl) (fun p e s m args below meth c A C hr => kX8_moods_e C (vi_reti C hr) h)
-- ---- X8_mood
def fX8_mood (x1 : Int32) (x2 : Int32) (u : vS) : Option (Int32 × vS) := (fX8_begins u).bind fun u1 => obp (fX8_moods x1 x2 u1) fun y3 u2 => obp (fX8_ends y3 u2) fun y5 u4 => some (y5, u4)
set_option maxRecDepth 100000 in
set_option maxHeartbeats 4000000 in
theorem kX8_mood_e {E : (Nat → Prop) → State → Heap → Prop} {p : Program} {l : Launch} {e : Env} {s : State} {m : MethodId} {args : Array Value} {below : List Frame} {meth : Method} {c : Code} {A : Nat → Prop} {D : va_G} {cI cF cC cS cO : ClassId} {Q : State → Prop} {q : Nat → Nat} (C : vC E p l s m args meth c A D (vT5 cI cF cC cS cO) cX8_mood 3 RX8) {r0 : Int32} {u0 : vS} (RET : ∀ (pc : Nat) (lv : List (Nat × Value)), decode cX8_mood pc = .ok (.ireturn, 1) → vV p l e { frames := 4, cells := 0, slots := 0, locals := 88 } s m args below meth c A D 3 0 0 Q (wR q cI u0) pc lv [.int r0]) {x1 : Int32} {x2 : Int32} {u : vS} (h : fX8_mood x1 x2 u = some (r0, u0)) : vV p l e { frames := 4, cells := 0, slots := 0, locals := 88 } s m args below meth c A D 3 0 0 Q (wR q cI u) 0 [(0, .ref (q 0)), (1, .int x1), (2, .int x2)] [] := by
  rw [fX8_mood] at h
  refine vi_aload_n C 0 dX8_mood_0 rfl ?_
  obtain ⟨u1, hgu1, h⟩ := ob_bd h
  refine vR_callv (As := []) (rest := []) C (mX8_begins C.2.2.2.2.2.2.2.2.1 hgu1) 0 rfl tcX8_begins tlX8_99 tiX8_begins tsX8_begins rfl tnX8 tdX8_begins ⟨Nat.le_of_ble_eq_true rfl, Nat.le_of_ble_eq_true rfl⟩ rfl (Nat.le_of_ble_eq_true rfl) dX8_mood_1 ?_
  refine vi_aload_n C 0 dX8_mood_4 rfl ?_
  refine vi_aload_n C 0 dX8_mood_5 rfl ?_
  refine vi_iload_n C 1 dX8_mood_6 rfl ?_
  refine vi_iload_n C 2 dX8_mood_7 rfl ?_
  obtain ⟨y3, u2, hgu2, h⟩ := ob_p h
  refine vR_calli (As := [.int x1, .int x2]) (rest := [.ref (q 0)]) C (mX8_moods C.2.2.2.2.2.2.2.2.1 hgu2) 2 rfl tcX8_moods tlX8_122 tiX8_moods tsX8_moods rfl tnX8 tdX8_moods ⟨Nat.le_of_ble_eq_true rfl, Nat.le_of_ble_eq_true rfl⟩ rfl (Nat.le_of_ble_eq_true rfl) dX8_mood_8 ?_
  obtain ⟨y5, u4, hgu4, h⟩ := ob_p h
  refine vR_calli (As := [.int y3]) (rest := []) C (mX8_ends C.2.2.2.2.2.2.2.2.1 hgu4) 1 rfl tcX8_ends tlX8_105 tiX8_ends tsX8_ends rfl tnX8 tdX8_ends ⟨Nat.le_of_ble_eq_true rfl, Nat.le_of_ble_eq_true rfl⟩ rfl (Nat.le_of_ble_eq_true rfl) dX8_mood_11 ?_
  exact vi_donei (W := wR q cI) RET h dX8_mood_14
theorem mX8_mood {E : (Nat → Prop) → State → Heap → Prop} (hE : vEok E) {l : Launch} {D : va_G} {cI cF cC cS cO : ClassId} {q : Nat → Nat} {r0 : Int32} {u0 : vS}  {x1 : Int32} {x2 : Int32} {u : vS} (h : fX8_mood x1 x2 u = some (r0, u0)) : vM E l yX8_mood cX8_mood 3 (some .int) 4 88 D (vT5 cI cF cC cS cO) [.ref (q 0), .int x1, .int x2] (wR q cI u) (vQi D (wR q cI u0) r0) :=
  vM_of hE (by decide +kernel) (Nat.le_of_ble_eq_true rfl) (fun p e s m args below meth c A C hr => kX8_mood_e C (vi_reti C hr) h)
-- ---- X8_drinks
def fX8_drinks (x1 : Int32) (x2 : Int32) (u : vS) : Option (Int32 × vS) := obp (fX8_isSailor x1 u) fun y2 u1 => (if y2 = 0 then obp (fX8_fail (-100001 : Int32) u1) fun y20 u19 => some (y20, u19) else (fX8_isIn x2 (1 : Int32) (9 : Int32)).bind fun y4 => (if y4 = 0 then obp (fX8_fail (-100002 : Int32) u1) fun y18 u17 => some (y18, u17) else (fX8_at x1 (1 : Int32)).bind fun y6 => if y6 < 0 ∨ 66 ≤ Int32.toNatClampNeg y6 then none else bd ((u1 1 (Int32.toNatClampNeg y6) : Int32)) fun y8 => (if y8 + x2 ≤ (9 : Int32) then (fX8_at x1 (1 : Int32)).bind fun y10 => if y10 < 0 ∨ 66 ≤ Int32.toNatClampNeg y10 then none else if y10 < 0 ∨ 66 ≤ Int32.toNatClampNeg y10 then none else bd (up2 u1 1 (Int32.toNatClampNeg y10) ((u1 1 (Int32.toNatClampNeg y10)) + x2)) fun u13 => bd (up2 u13 1 5 ((u13 1 5) + x2)) fun u14 => some (y8 + x2, u14) else obp (fX8_refuses (3 : Int32) y8 u1) fun y16 u15 => some (y16, u15))))
set_option maxRecDepth 100000 in
set_option maxHeartbeats 4000000 in
theorem kX8_drinks_e {E : (Nat → Prop) → State → Heap → Prop} {p : Program} {l : Launch} {e : Env} {s : State} {m : MethodId} {args : Array Value} {below : List Frame} {meth : Method} {c : Code} {A : Nat → Prop} {D : va_G} {cI cF cC cS cO : ClassId} {Q : State → Prop} {q : Nat → Nat} (C : vC E p l s m args meth c A D (vT5 cI cF cC cS cO) cX8_drinks 4 RX8) {r0 : Int32} {u0 : vS} (RET : ∀ (pc : Nat) (lv : List (Nat × Value)), decode cX8_drinks pc = .ok (.ireturn, 1) → vV p l e { frames := 2, cells := 0, slots := 0, locals := 43 } s m args below meth c A D 4 0 0 Q (wR q cI u0) pc lv [.int r0]) {x1 : Int32} {x2 : Int32} {u : vS} (h : fX8_drinks x1 x2 u = some (r0, u0)) : vV p l e { frames := 2, cells := 0, slots := 0, locals := 43 } s m args below meth c A D 4 0 0 Q (wR q cI u) 0 [(0, .ref (q 0)), (1, .int x1), (2, .int x2)] [] := by
  rw [fX8_drinks] at h
  refine vi_aload_n C 0 dX8_drinks_0 rfl ?_
  refine vi_iload_n C 1 dX8_drinks_1 rfl ?_
  obtain ⟨y2, u1, hgu1, h⟩ := ob_p h
  refine vR_calli (As := [.int x1]) (rest := []) C (mX8_isSailor C.2.2.2.2.2.2.2.2.1 hgu1) 1 rfl tcX8_isSailor tlX8_108 tiX8_isSailor tsX8_isSailor rfl tnX8 tdX8_isSailor ⟨Nat.le_of_ble_eq_true rfl, Nat.le_of_ble_eq_true rfl⟩ rfl (Nat.le_of_ble_eq_true rfl) dX8_drinks_2 ?_
  refine vi_if_ne (tgt := 15) C dX8_drinks_5 (by decide) (fun hc3 => ?_) (fun hc3 => ?_)
  · have h := ob_f h hc3
    refine vi_iload_n C 2 dX8_drinks_15 rfl ?_
    refine vi_iconst (v := 1) C dX8_drinks_16 (by decide) ?_
    refine vi_bipush (v := 9) C dX8_drinks_17 (by decide) ?_
    obtain ⟨y4, hgy4, h⟩ := ob_bd h
    refine vi_callS0i (As := [.int x2, .int (1 : Int32), .int (9 : Int32)]) (rest := []) C (mX8_isIn C.2.2.2.2.2.2.2.2.1 hgy4) 3 rfl tcX8_isIn tlX8_68 ttX8_isIn tnX8 tdX8_isIn ⟨Nat.le_of_ble_eq_true rfl, Nat.le_of_ble_eq_true rfl⟩ rfl (Nat.le_of_ble_eq_true rfl) dX8_drinks_19 ?_
    refine vi_if_ne (tgt := 32) C dX8_drinks_22 (by decide) (fun hc5 => ?_) (fun hc5 => ?_)
    · have h := ob_f h hc5
      refine vi_aload_n C 0 dX8_drinks_32 rfl ?_
      refine gR_8 C dX8_drinks_33 ?_
      refine vi_iload_n C 1 dX8_drinks_36 rfl ?_
      refine vi_iconst (v := 1) C dX8_drinks_37 (by decide) ?_
      obtain ⟨y6, hgy6, h⟩ := ob_bd h
      refine vi_callS0i (As := [.int x1, .int (1 : Int32)]) (rest := [.ref (q 1)]) C (mX8_at C.2.2.2.2.2.2.2.2.1 hgy6) 2 rfl tcX8_at tlX8_73 ttX8_at tnX8 tdX8_at ⟨Nat.le_of_ble_eq_true rfl, Nat.le_of_ble_eq_true rfl⟩ rfl (Nat.le_of_ble_eq_true rfl) dX8_drinks_38 ?_
      obtain ⟨hz7, h⟩ := ob_if h
      refine lR_1 (n := (Int32.toNatClampNeg y6)) C hz7 rfl dX8_drinks_41 ?_
      obtain ⟨y8, ey8, h⟩ := ob_nm h
      refine vi_nmi ey8 ?_
      refine vi_istore_n (lv' := [(3, .int y8), (0, .ref (q 0)), (1, .int x1), (2, .int x2)]) C dX8_drinks_42 rfl (by decide) rfl ?_
      refine vi_iload_n C 0 dX8_drinks_43 rfl ?_
      refine vi_iload_n C 3 dX8_drinks_44 rfl ?_
      refine vi_iadd C dX8_drinks_45 ?_
      refine vi_bipush (v := 9) C dX8_drinks_46 (by decide) ?_
      refine vi_icmp_le (tgt := 58) C dX8_drinks_48 (by decide) (fun hc9 => ?_) (fun hc9 => ?_)
      · have h := ob_t h hc9
        refine vi_aload_n C 1 dX8_drinks_58 rfl ?_
        refine gR_8 C dX8_drinks_59 ?_
        refine vi_iload_n C 2 dX8_drinks_62 rfl ?_
        refine vi_iconst (v := 1) C dX8_drinks_63 (by decide) ?_
        obtain ⟨y10, hgy10, h⟩ := ob_bd h
        refine vi_callS0i (As := [.int x1, .int (1 : Int32)]) (rest := [.ref (q 1)]) C (mX8_at C.2.2.2.2.2.2.2.2.1 hgy10) 2 rfl tcX8_at tlX8_73 ttX8_at tnX8 tdX8_at ⟨Nat.le_of_ble_eq_true rfl, Nat.le_of_ble_eq_true rfl⟩ rfl (Nat.le_of_ble_eq_true rfl) dX8_drinks_64 ?_
        refine vi_dup2 C dX8_drinks_67 rfl rfl ?_
        obtain ⟨hz11, h⟩ := ob_if h
        refine lR_1 (n := (Int32.toNatClampNeg y10)) C hz11 rfl dX8_drinks_68 ?_
        refine vi_iload_n C 3 dX8_drinks_69 rfl ?_
        refine vi_iadd C dX8_drinks_70 ?_
        obtain ⟨hz12, h⟩ := ob_if h
        obtain ⟨u13, eu13, h⟩ := ob_nm h
        refine sR_1 (n := (Int32.toNatClampNeg y10)) C hz12 rfl dX8_drinks_71 eu13.symm ?_
        refine vi_aload_n C 1 dX8_drinks_72 rfl ?_
        refine gR_8 C dX8_drinks_73 ?_
        refine vi_iconst (v := 5) C dX8_drinks_76 (by decide) ?_
        refine vi_dup2 C dX8_drinks_77 rfl rfl ?_
        refine lR_1 (n := 5) C (by decide) rfl dX8_drinks_78 ?_
        refine vi_iload_n C 3 dX8_drinks_79 rfl ?_
        refine vi_iadd C dX8_drinks_80 ?_
        obtain ⟨u14, eu14, h⟩ := ob_nm h
        refine sR_1 (n := 5) C (by decide) rfl dX8_drinks_81 eu14.symm ?_
        refine vi_iload_n C 0 dX8_drinks_82 rfl ?_
        refine vi_iload_n C 3 dX8_drinks_83 rfl ?_
        refine vi_iadd C dX8_drinks_84 ?_
        exact vi_donei (W := wR q cI) RET h dX8_drinks_85
      · have h := ob_f h hc9
        refine vi_aload_n C 1 dX8_drinks_51 rfl ?_
        refine vi_iconst (v := 3) C dX8_drinks_52 (by decide) ?_
        refine vi_iload_n C 0 dX8_drinks_53 rfl ?_
        obtain ⟨y16, u15, hgu15, h⟩ := ob_p h
        refine vR_calli (As := [.int (3 : Int32), .int y8]) (rest := []) C (mX8_refuses C.2.2.2.2.2.2.2.2.1 hgu15) 2 rfl tcX8_refuses tlX8_96 tiX8_refuses tsX8_refuses rfl tnX8 tdX8_refuses ⟨Nat.le_of_ble_eq_true rfl, Nat.le_of_ble_eq_true rfl⟩ rfl (Nat.le_of_ble_eq_true rfl) dX8_drinks_54 ?_
        exact vi_donei (W := wR q cI) RET h dX8_drinks_57
    · have h := ob_t h hc5
      refine vi_aload_n C 0 dX8_drinks_25 rfl ?_
      refine vi_ldc (v := (-100002)) C dX8_drinks_26 tkX8_95 ?_
      obtain ⟨y18, u17, hgu17, h⟩ := ob_p h
      refine vR_calli (As := [.int (-100002 : Int32)]) (rest := []) C (mX8_fail C.2.2.2.2.2.2.2.2.1 hgu17) 1 rfl tcX8_fail tlX8_57 tiX8_fail tsX8_fail rfl tnX8 tdX8_fail ⟨Nat.le_of_ble_eq_true rfl, Nat.le_of_ble_eq_true rfl⟩ rfl (Nat.le_of_ble_eq_true rfl) dX8_drinks_28 ?_
      exact vi_donei (W := wR q cI) RET h dX8_drinks_31
  · have h := ob_t h hc3
    refine vi_aload_n C 0 dX8_drinks_8 rfl ?_
    refine vi_ldc (v := (-100001)) C dX8_drinks_9 tkX8_111 ?_
    obtain ⟨y20, u19, hgu19, h⟩ := ob_p h
    refine vR_calli (As := [.int (-100001 : Int32)]) (rest := []) C (mX8_fail C.2.2.2.2.2.2.2.2.1 hgu19) 1 rfl tcX8_fail tlX8_57 tiX8_fail tsX8_fail rfl tnX8 tdX8_fail ⟨Nat.le_of_ble_eq_true rfl, Nat.le_of_ble_eq_true rfl⟩ rfl (Nat.le_of_ble_eq_true rfl) dX8_drinks_11 ?_
    exact vi_donei (W := wR q cI) RET h dX8_drinks_14
theorem mX8_drinks {E : (Nat → Prop) → State → Heap → Prop} (hE : vEok E) {l : Launch} {D : va_G} {cI cF cC cS cO : ClassId} {q : Nat → Nat} {r0 : Int32} {u0 : vS}  {x1 : Int32} {x2 : Int32} {u : vS} (h : fX8_drinks x1 x2 u = some (r0, u0)) : vM E l yX8_drinks cX8_drinks 4 (some .int) 2 43 D (vT5 cI cF cC cS cO) [.ref (q 0), .int x1, .int x2] (wR q cI u) (vQi D (wR q cI u0) r0) :=
  vM_of hE (by decide +kernel) (Nat.le_of_ble_eq_true rfl) (fun p e s m args below meth c A C hr => kX8_drinks_e C (vi_reti C hr) h)
-- ---- X8_rum
def fX8_rum (x1 : Int32) (x2 : Int32) (u : vS) : Option (Int32 × vS) := (fX8_begins u).bind fun u1 => obp (fX8_drinks x1 x2 u1) fun y3 u2 => obp (fX8_ends y3 u2) fun y5 u4 => some (y5, u4)
set_option maxRecDepth 100000 in
set_option maxHeartbeats 4000000 in
theorem kX8_rum_e {E : (Nat → Prop) → State → Heap → Prop} {p : Program} {l : Launch} {e : Env} {s : State} {m : MethodId} {args : Array Value} {below : List Frame} {meth : Method} {c : Code} {A : Nat → Prop} {D : va_G} {cI cF cC cS cO : ClassId} {Q : State → Prop} {q : Nat → Nat} (C : vC E p l s m args meth c A D (vT5 cI cF cC cS cO) cX8_rum 3 RX8) {r0 : Int32} {u0 : vS} (RET : ∀ (pc : Nat) (lv : List (Nat × Value)), decode cX8_rum pc = .ok (.ireturn, 1) → vV p l e { frames := 3, cells := 0, slots := 0, locals := 66 } s m args below meth c A D 3 0 0 Q (wR q cI u0) pc lv [.int r0]) {x1 : Int32} {x2 : Int32} {u : vS} (h : fX8_rum x1 x2 u = some (r0, u0)) : vV p l e { frames := 3, cells := 0, slots := 0, locals := 66 } s m args below meth c A D 3 0 0 Q (wR q cI u) 0 [(0, .ref (q 0)), (1, .int x1), (2, .int x2)] [] := by
  rw [fX8_rum] at h
  refine vi_aload_n C 0 dX8_rum_0 rfl ?_
  obtain ⟨u1, hgu1, h⟩ := ob_bd h
  refine vR_callv (As := []) (rest := []) C (mX8_begins C.2.2.2.2.2.2.2.2.1 hgu1) 0 rfl tcX8_begins tlX8_99 tiX8_begins tsX8_begins rfl tnX8 tdX8_begins ⟨Nat.le_of_ble_eq_true rfl, Nat.le_of_ble_eq_true rfl⟩ rfl (Nat.le_of_ble_eq_true rfl) dX8_rum_1 ?_
  refine vi_aload_n C 0 dX8_rum_4 rfl ?_
  refine vi_aload_n C 0 dX8_rum_5 rfl ?_
  refine vi_iload_n C 1 dX8_rum_6 rfl ?_
  refine vi_iload_n C 2 dX8_rum_7 rfl ?_
  obtain ⟨y3, u2, hgu2, h⟩ := ob_p h
  refine vR_calli (As := [.int x1, .int x2]) (rest := [.ref (q 0)]) C (mX8_drinks C.2.2.2.2.2.2.2.2.1 hgu2) 2 rfl tcX8_drinks tlX8_125 tiX8_drinks tsX8_drinks rfl tnX8 tdX8_drinks ⟨Nat.le_of_ble_eq_true rfl, Nat.le_of_ble_eq_true rfl⟩ rfl (Nat.le_of_ble_eq_true rfl) dX8_rum_8 ?_
  obtain ⟨y5, u4, hgu4, h⟩ := ob_p h
  refine vR_calli (As := [.int y3]) (rest := []) C (mX8_ends C.2.2.2.2.2.2.2.2.1 hgu4) 1 rfl tcX8_ends tlX8_105 tiX8_ends tsX8_ends rfl tnX8 tdX8_ends ⟨Nat.le_of_ble_eq_true rfl, Nat.le_of_ble_eq_true rfl⟩ rfl (Nat.le_of_ble_eq_true rfl) dX8_rum_11 ?_
  exact vi_donei (W := wR q cI) RET h dX8_rum_14
theorem mX8_rum {E : (Nat → Prop) → State → Heap → Prop} (hE : vEok E) {l : Launch} {D : va_G} {cI cF cC cS cO : ClassId} {q : Nat → Nat} {r0 : Int32} {u0 : vS}  {x1 : Int32} {x2 : Int32} {u : vS} (h : fX8_rum x1 x2 u = some (r0, u0)) : vM E l yX8_rum cX8_rum 3 (some .int) 3 66 D (vT5 cI cF cC cS cO) [.ref (q 0), .int x1, .int x2] (wR q cI u) (vQi D (wR q cI u0) r0) :=
  vM_of hE (by decide +kernel) (Nat.le_of_ble_eq_true rfl) (fun p e s m args below meth c A C hr => kX8_rum_e C (vi_reti C hr) h)
-- ---- X8_stands
def fX8_stands (x1 : Int32) (x2 : Int32) (u : vS) : Option (Int32 × vS) := obp (fX8_isSailor x1 u) fun y2 u1 => (if y2 = 0 then obp (fX8_fail (-100001 : Int32) u1) fun y5 u4 => some (y5, u4) else (fX8_isWatch x2).bind fun y6 => (if y6 = 0 then obp (fX8_fail (-100001 : Int32) u1) fun y9 u8 => some (y9, u8) else (fX8_at x1 (2 : Int32)).bind fun y10 => obp (fX8_sets y10 x2 u1) fun y12 u11 => some (y12, u11)))
set_option maxRecDepth 100000 in
set_option maxHeartbeats 4000000 in
theorem kX8_stands_e {E : (Nat → Prop) → State → Heap → Prop} {p : Program} {l : Launch} {e : Env} {s : State} {m : MethodId} {args : Array Value} {below : List Frame} {meth : Method} {c : Code} {A : Nat → Prop} {D : va_G} {cI cF cC cS cO : ClassId} {Q : State → Prop} {q : Nat → Nat} (C : vC E p l s m args meth c A D (vT5 cI cF cC cS cO) cX8_stands 3 RX8) {r0 : Int32} {u0 : vS} (RET : ∀ (pc : Nat) (lv : List (Nat × Value)), decode cX8_stands pc = .ok (.ireturn, 1) → vV p l e { frames := 3, cells := 0, slots := 0, locals := 66 } s m args below meth c A D 3 0 0 Q (wR q cI u0) pc lv [.int r0]) {x1 : Int32} {x2 : Int32} {u : vS} (h : fX8_stands x1 x2 u = some (r0, u0)) : vV p l e { frames := 3, cells := 0, slots := 0, locals := 66 } s m args below meth c A D 3 0 0 Q (wR q cI u) 0 [(0, .ref (q 0)), (1, .int x1), (2, .int x2)] [] := by
  rw [fX8_stands] at h
  refine vi_aload_n C 0 dX8_stands_0 rfl ?_
  refine vi_iload_n C 1 dX8_stands_1 rfl ?_
  obtain ⟨y2, u1, hgu1, h⟩ := ob_p h
  refine vR_calli (As := [.int x1]) (rest := []) C (mX8_isSailor C.2.2.2.2.2.2.2.2.1 hgu1) 1 rfl tcX8_isSailor tlX8_108 tiX8_isSailor tsX8_isSailor rfl tnX8 tdX8_isSailor ⟨Nat.le_of_ble_eq_true rfl, Nat.le_of_ble_eq_true rfl⟩ rfl (Nat.le_of_ble_eq_true rfl) dX8_stands_2 ?_
  refine vi_if_eq (tgt := 28) C dX8_stands_5 (by decide) (fun hc3 => ?_) (fun hc3 => ?_)
  · have h := ob_t h hc3
    refine vi_aload_n C 0 dX8_stands_28 rfl ?_
    refine vi_ldc (v := (-100001)) C dX8_stands_29 tkX8_111 ?_
    obtain ⟨y5, u4, hgu4, h⟩ := ob_p h
    refine vR_calli (As := [.int (-100001 : Int32)]) (rest := []) C (mX8_fail C.2.2.2.2.2.2.2.2.1 hgu4) 1 rfl tcX8_fail tlX8_57 tiX8_fail tsX8_fail rfl tnX8 tdX8_fail ⟨Nat.le_of_ble_eq_true rfl, Nat.le_of_ble_eq_true rfl⟩ rfl (Nat.le_of_ble_eq_true rfl) dX8_stands_31 ?_
    exact vi_donei (W := wR q cI) RET h dX8_stands_34
  · have h := ob_f h hc3
    refine vi_iload_n C 2 dX8_stands_8 rfl ?_
    obtain ⟨y6, hgy6, h⟩ := ob_bd h
    refine vi_callS0i (As := [.int x2]) (rest := []) C (mX8_isWatch C.2.2.2.2.2.2.2.2.1 hgy6) 1 rfl tcX8_isWatch tlX8_128 ttX8_isWatch tnX8 tdX8_isWatch ⟨Nat.le_of_ble_eq_true rfl, Nat.le_of_ble_eq_true rfl⟩ rfl (Nat.le_of_ble_eq_true rfl) dX8_stands_9 ?_
    refine vi_if_eq (tgt := 28) C dX8_stands_12 (by decide) (fun hc7 => ?_) (fun hc7 => ?_)
    · have h := ob_t h hc7
      refine vi_aload_n C 0 dX8_stands_28 rfl ?_
      refine vi_ldc (v := (-100001)) C dX8_stands_29 tkX8_111 ?_
      obtain ⟨y9, u8, hgu8, h⟩ := ob_p h
      refine vR_calli (As := [.int (-100001 : Int32)]) (rest := []) C (mX8_fail C.2.2.2.2.2.2.2.2.1 hgu8) 1 rfl tcX8_fail tlX8_57 tiX8_fail tsX8_fail rfl tnX8 tdX8_fail ⟨Nat.le_of_ble_eq_true rfl, Nat.le_of_ble_eq_true rfl⟩ rfl (Nat.le_of_ble_eq_true rfl) dX8_stands_31 ?_
      exact vi_donei (W := wR q cI) RET h dX8_stands_34
    · have h := ob_f h hc7
      refine vi_aload_n C 0 dX8_stands_15 rfl ?_
      refine vi_iload_n C 1 dX8_stands_16 rfl ?_
      refine vi_iconst (v := 2) C dX8_stands_17 (by decide) ?_
      obtain ⟨y10, hgy10, h⟩ := ob_bd h
      refine vi_callS0i (As := [.int x1, .int (2 : Int32)]) (rest := [.ref (q 0)]) C (mX8_at C.2.2.2.2.2.2.2.2.1 hgy10) 2 rfl tcX8_at tlX8_73 ttX8_at tnX8 tdX8_at ⟨Nat.le_of_ble_eq_true rfl, Nat.le_of_ble_eq_true rfl⟩ rfl (Nat.le_of_ble_eq_true rfl) dX8_stands_18 ?_
      refine vi_iload_n C 2 dX8_stands_21 rfl ?_
      obtain ⟨y12, u11, hgu11, h⟩ := ob_p h
      refine vR_calli (As := [.int y10, .int x2]) (rest := []) C (mX8_sets C.2.2.2.2.2.2.2.2.1 hgu11) 2 rfl tcX8_sets tlX8_119 tiX8_sets tsX8_sets rfl tnX8 tdX8_sets ⟨Nat.le_of_ble_eq_true rfl, Nat.le_of_ble_eq_true rfl⟩ rfl (Nat.le_of_ble_eq_true rfl) dX8_stands_22 ?_
      refine vi_goto (tgt := 34) C dX8_stands_25 (by decide) ?_
      exact vi_donei (W := wR q cI) RET h dX8_stands_34
theorem mX8_stands {E : (Nat → Prop) → State → Heap → Prop} (hE : vEok E) {l : Launch} {D : va_G} {cI cF cC cS cO : ClassId} {q : Nat → Nat} {r0 : Int32} {u0 : vS}  {x1 : Int32} {x2 : Int32} {u : vS} (h : fX8_stands x1 x2 u = some (r0, u0)) : vM E l yX8_stands cX8_stands 3 (some .int) 3 66 D (vT5 cI cF cC cS cO) [.ref (q 0), .int x1, .int x2] (wR q cI u) (vQi D (wR q cI u0) r0) :=
  vM_of hE (by decide +kernel) (Nat.le_of_ble_eq_true rfl) (fun p e s m args below meth c A C hr => kX8_stands_e C (vi_reti C hr) h)
-- ---- X8_watch
def fX8_watch (x1 : Int32) (x2 : Int32) (u : vS) : Option (Int32 × vS) := (fX8_begins u).bind fun u1 => obp (fX8_stands x1 x2 u1) fun y3 u2 => obp (fX8_ends y3 u2) fun y5 u4 => some (y5, u4)
set_option maxRecDepth 100000 in
set_option maxHeartbeats 4000000 in
theorem kX8_watch_e {E : (Nat → Prop) → State → Heap → Prop} {p : Program} {l : Launch} {e : Env} {s : State} {m : MethodId} {args : Array Value} {below : List Frame} {meth : Method} {c : Code} {A : Nat → Prop} {D : va_G} {cI cF cC cS cO : ClassId} {Q : State → Prop} {q : Nat → Nat} (C : vC E p l s m args meth c A D (vT5 cI cF cC cS cO) cX8_watch 3 RX8) {r0 : Int32} {u0 : vS} (RET : ∀ (pc : Nat) (lv : List (Nat × Value)), decode cX8_watch pc = .ok (.ireturn, 1) → vV p l e { frames := 4, cells := 0, slots := 0, locals := 88 } s m args below meth c A D 3 0 0 Q (wR q cI u0) pc lv [.int r0]) {x1 : Int32} {x2 : Int32} {u : vS} (h : fX8_watch x1 x2 u = some (r0, u0)) : vV p l e { frames := 4, cells := 0, slots := 0, locals := 88 } s m args below meth c A D 3 0 0 Q (wR q cI u) 0 [(0, .ref (q 0)), (1, .int x1), (2, .int x2)] [] := by
  rw [fX8_watch] at h
  refine vi_aload_n C 0 dX8_watch_0 rfl ?_
  obtain ⟨u1, hgu1, h⟩ := ob_bd h
  refine vR_callv (As := []) (rest := []) C (mX8_begins C.2.2.2.2.2.2.2.2.1 hgu1) 0 rfl tcX8_begins tlX8_99 tiX8_begins tsX8_begins rfl tnX8 tdX8_begins ⟨Nat.le_of_ble_eq_true rfl, Nat.le_of_ble_eq_true rfl⟩ rfl (Nat.le_of_ble_eq_true rfl) dX8_watch_1 ?_
  refine vi_aload_n C 0 dX8_watch_4 rfl ?_
  refine vi_aload_n C 0 dX8_watch_5 rfl ?_
  refine vi_iload_n C 1 dX8_watch_6 rfl ?_
  refine vi_iload_n C 2 dX8_watch_7 rfl ?_
  obtain ⟨y3, u2, hgu2, h⟩ := ob_p h
  refine vR_calli (As := [.int x1, .int x2]) (rest := [.ref (q 0)]) C (mX8_stands C.2.2.2.2.2.2.2.2.1 hgu2) 2 rfl tcX8_stands tlX8_131 tiX8_stands tsX8_stands rfl tnX8 tdX8_stands ⟨Nat.le_of_ble_eq_true rfl, Nat.le_of_ble_eq_true rfl⟩ rfl (Nat.le_of_ble_eq_true rfl) dX8_watch_8 ?_
  obtain ⟨y5, u4, hgu4, h⟩ := ob_p h
  refine vR_calli (As := [.int y3]) (rest := []) C (mX8_ends C.2.2.2.2.2.2.2.2.1 hgu4) 1 rfl tcX8_ends tlX8_105 tiX8_ends tsX8_ends rfl tnX8 tdX8_ends ⟨Nat.le_of_ble_eq_true rfl, Nat.le_of_ble_eq_true rfl⟩ rfl (Nat.le_of_ble_eq_true rfl) dX8_watch_11 ?_
  exact vi_donei (W := wR q cI) RET h dX8_watch_14
theorem mX8_watch {E : (Nat → Prop) → State → Heap → Prop} (hE : vEok E) {l : Launch} {D : va_G} {cI cF cC cS cO : ClassId} {q : Nat → Nat} {r0 : Int32} {u0 : vS}  {x1 : Int32} {x2 : Int32} {u : vS} (h : fX8_watch x1 x2 u = some (r0, u0)) : vM E l yX8_watch cX8_watch 3 (some .int) 4 88 D (vT5 cI cF cC cS cO) [.ref (q 0), .int x1, .int x2] (wR q cI u) (vQi D (wR q cI u0) r0) :=
  vM_of hE (by decide +kernel) (Nat.le_of_ble_eq_true rfl) (fun p e s m args below meth c A C hr => kX8_watch_e C (vi_reti C hr) h)
-- ---- X8_horizons
def fX8_horizons (x1 : Int32) (x2 : Int32) (u : vS) : Option (Int32 × vS) := (fX8_isWatch x1).bind fun y1 => (if y1 = 0 then obp (fX8_fail (-100001 : Int32) u) fun y10 u9 => some (y10, u9) else (fX8_isIn x2 (0 : Int32) (8 : Int32)).bind fun y3 => (if y3 = 0 then obp (fX8_fail (-100002 : Int32) u) fun y6 u5 => some (y6, u5) else obp (fX8_sets ((8 : Int32) + x1) x2 u) fun y8 u7 => some (y8, u7)))
set_option maxRecDepth 100000 in
set_option maxHeartbeats 4000000 in
theorem kX8_horizons_e {E : (Nat → Prop) → State → Heap → Prop} {p : Program} {l : Launch} {e : Env} {s : State} {m : MethodId} {args : Array Value} {below : List Frame} {meth : Method} {c : Code} {A : Nat → Prop} {D : va_G} {cI cF cC cS cO : ClassId} {Q : State → Prop} {q : Nat → Nat} (C : vC E p l s m args meth c A D (vT5 cI cF cC cS cO) cX8_horizons 3 RX8) {r0 : Int32} {u0 : vS} (RET : ∀ (pc : Nat) (lv : List (Nat × Value)), decode cX8_horizons pc = .ok (.ireturn, 1) → vV p l e { frames := 3, cells := 0, slots := 0, locals := 66 } s m args below meth c A D 3 0 0 Q (wR q cI u0) pc lv [.int r0]) {x1 : Int32} {x2 : Int32} {u : vS} (h : fX8_horizons x1 x2 u = some (r0, u0)) : vV p l e { frames := 3, cells := 0, slots := 0, locals := 66 } s m args below meth c A D 3 0 0 Q (wR q cI u) 0 [(0, .ref (q 0)), (1, .int x1), (2, .int x2)] [] := by
  rw [fX8_horizons] at h
  refine vi_iload_n C 1 dX8_horizons_0 rfl ?_
  obtain ⟨y1, hgy1, h⟩ := ob_bd h
  refine vi_callS0i (As := [.int x1]) (rest := []) C (mX8_isWatch C.2.2.2.2.2.2.2.2.1 hgy1) 1 rfl tcX8_isWatch tlX8_128 ttX8_isWatch tnX8 tdX8_isWatch ⟨Nat.le_of_ble_eq_true rfl, Nat.le_of_ble_eq_true rfl⟩ rfl (Nat.le_of_ble_eq_true rfl) dX8_horizons_1 ?_
  refine vi_if_ne (tgt := 16) C dX8_horizons_4 (by decide) (fun hc2 => ?_) (fun hc2 => ?_)
  · have h := ob_f h hc2
    refine vi_iload_n C 2 dX8_horizons_16 rfl ?_
    refine vi_iconst (v := 0) C dX8_horizons_17 (by decide) ?_
    refine vi_bipush (v := 8) C dX8_horizons_18 (by decide) ?_
    obtain ⟨y3, hgy3, h⟩ := ob_bd h
    refine vi_callS0i (As := [.int x2, .int (0 : Int32), .int (8 : Int32)]) (rest := []) C (mX8_isIn C.2.2.2.2.2.2.2.2.1 hgy3) 3 rfl tcX8_isIn tlX8_68 ttX8_isIn tnX8 tdX8_isIn ⟨Nat.le_of_ble_eq_true rfl, Nat.le_of_ble_eq_true rfl⟩ rfl (Nat.le_of_ble_eq_true rfl) dX8_horizons_20 ?_
    refine vi_if_eq (tgt := 38) C dX8_horizons_23 (by decide) (fun hc4 => ?_) (fun hc4 => ?_)
    · have h := ob_t h hc4
      refine vi_aload_n C 0 dX8_horizons_38 rfl ?_
      refine vi_ldc (v := (-100002)) C dX8_horizons_39 tkX8_95 ?_
      obtain ⟨y6, u5, hgu5, h⟩ := ob_p h
      refine vR_calli (As := [.int (-100002 : Int32)]) (rest := []) C (mX8_fail C.2.2.2.2.2.2.2.2.1 hgu5) 1 rfl tcX8_fail tlX8_57 tiX8_fail tsX8_fail rfl tnX8 tdX8_fail ⟨Nat.le_of_ble_eq_true rfl, Nat.le_of_ble_eq_true rfl⟩ rfl (Nat.le_of_ble_eq_true rfl) dX8_horizons_41 ?_
      exact vi_donei (W := wR q cI) RET h dX8_horizons_44
    · have h := ob_f h hc4
      refine vi_aload_n C 0 dX8_horizons_26 rfl ?_
      refine vi_bipush (v := 8) C dX8_horizons_27 (by decide) ?_
      refine vi_iload_n C 1 dX8_horizons_29 rfl ?_
      refine vi_iadd C dX8_horizons_30 ?_
      refine vi_iload_n C 2 dX8_horizons_31 rfl ?_
      obtain ⟨y8, u7, hgu7, h⟩ := ob_p h
      refine vR_calli (As := [.int ((8 : Int32) + x1), .int x2]) (rest := []) C (mX8_sets C.2.2.2.2.2.2.2.2.1 hgu7) 2 rfl tcX8_sets tlX8_119 tiX8_sets tsX8_sets rfl tnX8 tdX8_sets ⟨Nat.le_of_ble_eq_true rfl, Nat.le_of_ble_eq_true rfl⟩ rfl (Nat.le_of_ble_eq_true rfl) dX8_horizons_32 ?_
      refine vi_goto (tgt := 44) C dX8_horizons_35 (by decide) ?_
      exact vi_donei (W := wR q cI) RET h dX8_horizons_44
  · have h := ob_t h hc2
    refine vi_aload_n C 0 dX8_horizons_7 rfl ?_
    refine vi_ldc (v := (-100001)) C dX8_horizons_8 tkX8_111 ?_
    obtain ⟨y10, u9, hgu9, h⟩ := ob_p h
    refine vR_calli (As := [.int (-100001 : Int32)]) (rest := []) C (mX8_fail C.2.2.2.2.2.2.2.2.1 hgu9) 1 rfl tcX8_fail tlX8_57 tiX8_fail tsX8_fail rfl tnX8 tdX8_fail ⟨Nat.le_of_ble_eq_true rfl, Nat.le_of_ble_eq_true rfl⟩ rfl (Nat.le_of_ble_eq_true rfl) dX8_horizons_10 ?_
    refine vi_goto (tgt := 44) C dX8_horizons_13 (by decide) ?_
    exact vi_donei (W := wR q cI) RET h dX8_horizons_44
theorem mX8_horizons {E : (Nat → Prop) → State → Heap → Prop} (hE : vEok E) {l : Launch} {D : va_G} {cI cF cC cS cO : ClassId} {q : Nat → Nat} {r0 : Int32} {u0 : vS}  {x1 : Int32} {x2 : Int32} {u : vS} (h : fX8_horizons x1 x2 u = some (r0, u0)) : vM E l yX8_horizons cX8_horizons 3 (some .int) 3 66 D (vT5 cI cF cC cS cO) [.ref (q 0), .int x1, .int x2] (wR q cI u) (vQi D (wR q cI u0) r0) :=
  vM_of hE (by decide +kernel) (Nat.le_of_ble_eq_true rfl) (fun p e s m args below meth c A C hr => kX8_horizons_e C (vi_reti C hr) h)
-- ---- X8_horizon
def fX8_horizon (x1 : Int32) (x2 : Int32) (u : vS) : Option (Int32 × vS) := (fX8_begins u).bind fun u1 => obp (fX8_horizons x1 x2 u1) fun y3 u2 => obp (fX8_ends y3 u2) fun y5 u4 => some (y5, u4)
set_option maxRecDepth 100000 in
set_option maxHeartbeats 4000000 in
theorem kX8_horizon_e {E : (Nat → Prop) → State → Heap → Prop} {p : Program} {l : Launch} {e : Env} {s : State} {m : MethodId} {args : Array Value} {below : List Frame} {meth : Method} {c : Code} {A : Nat → Prop} {D : va_G} {cI cF cC cS cO : ClassId} {Q : State → Prop} {q : Nat → Nat} (C : vC E p l s m args meth c A D (vT5 cI cF cC cS cO) cX8_horizon 3 RX8) {r0 : Int32} {u0 : vS} (RET : ∀ (pc : Nat) (lv : List (Nat × Value)), decode cX8_horizon pc = .ok (.ireturn, 1) → vV p l e { frames := 4, cells := 0, slots := 0, locals := 88 } s m args below meth c A D 3 0 0 Q (wR q cI u0) pc lv [.int r0]) {x1 : Int32} {x2 : Int32} {u : vS} (h : fX8_horizon x1 x2 u = some (r0, u0)) : vV p l e { frames := 4, cells := 0, slots := 0, locals := 88 } s m args below meth c A D 3 0 0 Q (wR q cI u) 0 [(0, .ref (q 0)), (1, .int x1), (2, .int x2)] [] := by
  rw [fX8_horizon] at h
  refine vi_aload_n C 0 dX8_horizon_0 rfl ?_
  obtain ⟨u1, hgu1, h⟩ := ob_bd h
  refine vR_callv (As := []) (rest := []) C (mX8_begins C.2.2.2.2.2.2.2.2.1 hgu1) 0 rfl tcX8_begins tlX8_99 tiX8_begins tsX8_begins rfl tnX8 tdX8_begins ⟨Nat.le_of_ble_eq_true rfl, Nat.le_of_ble_eq_true rfl⟩ rfl (Nat.le_of_ble_eq_true rfl) dX8_horizon_1 ?_
  refine vi_aload_n C 0 dX8_horizon_4 rfl ?_
  refine vi_aload_n C 0 dX8_horizon_5 rfl ?_
  refine vi_iload_n C 1 dX8_horizon_6 rfl ?_
  refine vi_iload_n C 2 dX8_horizon_7 rfl ?_
  obtain ⟨y3, u2, hgu2, h⟩ := ob_p h
  refine vR_calli (As := [.int x1, .int x2]) (rest := [.ref (q 0)]) C (mX8_horizons C.2.2.2.2.2.2.2.2.1 hgu2) 2 rfl tcX8_horizons tlX8_134 tiX8_horizons tsX8_horizons rfl tnX8 tdX8_horizons ⟨Nat.le_of_ble_eq_true rfl, Nat.le_of_ble_eq_true rfl⟩ rfl (Nat.le_of_ble_eq_true rfl) dX8_horizon_8 ?_
  obtain ⟨y5, u4, hgu4, h⟩ := ob_p h
  refine vR_calli (As := [.int y3]) (rest := []) C (mX8_ends C.2.2.2.2.2.2.2.2.1 hgu4) 1 rfl tcX8_ends tlX8_105 tiX8_ends tsX8_ends rfl tnX8 tdX8_ends ⟨Nat.le_of_ble_eq_true rfl, Nat.le_of_ble_eq_true rfl⟩ rfl (Nat.le_of_ble_eq_true rfl) dX8_horizon_11 ?_
  exact vi_donei (W := wR q cI) RET h dX8_horizon_14
theorem mX8_horizon {E : (Nat → Prop) → State → Heap → Prop} (hE : vEok E) {l : Launch} {D : va_G} {cI cF cC cS cO : ClassId} {q : Nat → Nat} {r0 : Int32} {u0 : vS}  {x1 : Int32} {x2 : Int32} {u : vS} (h : fX8_horizon x1 x2 u = some (r0, u0)) : vM E l yX8_horizon cX8_horizon 3 (some .int) 4 88 D (vT5 cI cF cC cS cO) [.ref (q 0), .int x1, .int x2] (wR q cI u) (vQi D (wR q cI u0) r0) :=
  vM_of hE (by decide +kernel) (Nat.le_of_ble_eq_true rfl) (fun p e s m args below meth c A C hr => kX8_horizon_e C (vi_reti C hr) h)
-- ---- X8_errs
def fX8_errs (x1 : Int32) (u : vS) : Option (Int32 × vS) := (fX8_isIn x1 (-3 : Int32) (3 : Int32)).bind fun y1 => (if y1 = 0 then obp (fX8_fail (-100002 : Int32) u) fun y4 u3 => some (y4, u3) else obp (fX8_sets (2 : Int32) x1 u) fun y6 u5 => some (y6, u5))
set_option maxRecDepth 100000 in
set_option maxHeartbeats 4000000 in
theorem kX8_errs_e {E : (Nat → Prop) → State → Heap → Prop} {p : Program} {l : Launch} {e : Env} {s : State} {m : MethodId} {args : Array Value} {below : List Frame} {meth : Method} {c : Code} {A : Nat → Prop} {D : va_G} {cI cF cC cS cO : ClassId} {Q : State → Prop} {q : Nat → Nat} (C : vC E p l s m args meth c A D (vT5 cI cF cC cS cO) cX8_errs 2 RX8) {r0 : Int32} {u0 : vS} (RET : ∀ (pc : Nat) (lv : List (Nat × Value)), decode cX8_errs pc = .ok (.ireturn, 1) → vV p l e { frames := 3, cells := 0, slots := 0, locals := 66 } s m args below meth c A D 2 0 0 Q (wR q cI u0) pc lv [.int r0]) {x1 : Int32} {u : vS} (h : fX8_errs x1 u = some (r0, u0)) : vV p l e { frames := 3, cells := 0, slots := 0, locals := 66 } s m args below meth c A D 2 0 0 Q (wR q cI u) 0 [(0, .ref (q 0)), (1, .int x1)] [] := by
  rw [fX8_errs] at h
  refine vi_iload_n C 1 dX8_errs_0 rfl ?_
  refine vi_bipush (v := (-3)) C dX8_errs_1 (by decide) ?_
  refine vi_iconst (v := 3) C dX8_errs_3 (by decide) ?_
  obtain ⟨y1, hgy1, h⟩ := ob_bd h
  refine vi_callS0i (As := [.int x1, .int (-3 : Int32), .int (3 : Int32)]) (rest := []) C (mX8_isIn C.2.2.2.2.2.2.2.2.1 hgy1) 3 rfl tcX8_isIn tlX8_68 ttX8_isIn tnX8 tdX8_isIn ⟨Nat.le_of_ble_eq_true rfl, Nat.le_of_ble_eq_true rfl⟩ rfl (Nat.le_of_ble_eq_true rfl) dX8_errs_4 ?_
  refine vi_if_eq (tgt := 19) C dX8_errs_7 (by decide) (fun hc2 => ?_) (fun hc2 => ?_)
  · have h := ob_t h hc2
    refine vi_aload_n C 0 dX8_errs_19 rfl ?_
    refine vi_ldc (v := (-100002)) C dX8_errs_20 tkX8_95 ?_
    obtain ⟨y4, u3, hgu3, h⟩ := ob_p h
    refine vR_calli (As := [.int (-100002 : Int32)]) (rest := []) C (mX8_fail C.2.2.2.2.2.2.2.2.1 hgu3) 1 rfl tcX8_fail tlX8_57 tiX8_fail tsX8_fail rfl tnX8 tdX8_fail ⟨Nat.le_of_ble_eq_true rfl, Nat.le_of_ble_eq_true rfl⟩ rfl (Nat.le_of_ble_eq_true rfl) dX8_errs_22 ?_
    exact vi_donei (W := wR q cI) RET h dX8_errs_25
  · have h := ob_f h hc2
    refine vi_aload_n C 0 dX8_errs_10 rfl ?_
    refine vi_iconst (v := 2) C dX8_errs_11 (by decide) ?_
    refine vi_iload_n C 1 dX8_errs_12 rfl ?_
    obtain ⟨y6, u5, hgu5, h⟩ := ob_p h
    refine vR_calli (As := [.int (2 : Int32), .int x1]) (rest := []) C (mX8_sets C.2.2.2.2.2.2.2.2.1 hgu5) 2 rfl tcX8_sets tlX8_119 tiX8_sets tsX8_sets rfl tnX8 tdX8_sets ⟨Nat.le_of_ble_eq_true rfl, Nat.le_of_ble_eq_true rfl⟩ rfl (Nat.le_of_ble_eq_true rfl) dX8_errs_13 ?_
    refine vi_goto (tgt := 25) C dX8_errs_16 (by decide) ?_
    exact vi_donei (W := wR q cI) RET h dX8_errs_25
theorem mX8_errs {E : (Nat → Prop) → State → Heap → Prop} (hE : vEok E) {l : Launch} {D : va_G} {cI cF cC cS cO : ClassId} {q : Nat → Nat} {r0 : Int32} {u0 : vS}  {x1 : Int32} {u : vS} (h : fX8_errs x1 u = some (r0, u0)) : vM E l yX8_errs cX8_errs 2 (some .int) 3 66 D (vT5 cI cF cC cS cO) [.ref (q 0), .int x1] (wR q cI u) (vQi D (wR q cI u0) r0) :=
  vM_of hE (by decide +kernel) (Nat.le_of_ble_eq_true rfl) (fun p e s m args below meth c A C hr => kX8_errs_e C (vi_reti C hr) h)
-- ---- X8_error
def fX8_error (x1 : Int32) (u : vS) : Option (Int32 × vS) := (fX8_begins u).bind fun u1 => obp (fX8_errs x1 u1) fun y3 u2 => obp (fX8_ends y3 u2) fun y5 u4 => some (y5, u4)
set_option maxRecDepth 100000 in
set_option maxHeartbeats 4000000 in
theorem kX8_error_e {E : (Nat → Prop) → State → Heap → Prop} {p : Program} {l : Launch} {e : Env} {s : State} {m : MethodId} {args : Array Value} {below : List Frame} {meth : Method} {c : Code} {A : Nat → Prop} {D : va_G} {cI cF cC cS cO : ClassId} {Q : State → Prop} {q : Nat → Nat} (C : vC E p l s m args meth c A D (vT5 cI cF cC cS cO) cX8_error 2 RX8) {r0 : Int32} {u0 : vS} (RET : ∀ (pc : Nat) (lv : List (Nat × Value)), decode cX8_error pc = .ok (.ireturn, 1) → vV p l e { frames := 4, cells := 0, slots := 0, locals := 87 } s m args below meth c A D 2 0 0 Q (wR q cI u0) pc lv [.int r0]) {x1 : Int32} {u : vS} (h : fX8_error x1 u = some (r0, u0)) : vV p l e { frames := 4, cells := 0, slots := 0, locals := 87 } s m args below meth c A D 2 0 0 Q (wR q cI u) 0 [(0, .ref (q 0)), (1, .int x1)] [] := by
  rw [fX8_error] at h
  refine vi_aload_n C 0 dX8_error_0 rfl ?_
  obtain ⟨u1, hgu1, h⟩ := ob_bd h
  refine vR_callv (As := []) (rest := []) C (mX8_begins C.2.2.2.2.2.2.2.2.1 hgu1) 0 rfl tcX8_begins tlX8_99 tiX8_begins tsX8_begins rfl tnX8 tdX8_begins ⟨Nat.le_of_ble_eq_true rfl, Nat.le_of_ble_eq_true rfl⟩ rfl (Nat.le_of_ble_eq_true rfl) dX8_error_1 ?_
  refine vi_aload_n C 0 dX8_error_4 rfl ?_
  refine vi_aload_n C 0 dX8_error_5 rfl ?_
  refine vi_iload_n C 1 dX8_error_6 rfl ?_
  obtain ⟨y3, u2, hgu2, h⟩ := ob_p h
  refine vR_calli (As := [.int x1]) (rest := [.ref (q 0)]) C (mX8_errs C.2.2.2.2.2.2.2.2.1 hgu2) 1 rfl tcX8_errs tlX8_137 tiX8_errs tsX8_errs rfl tnX8 tdX8_errs ⟨Nat.le_of_ble_eq_true rfl, Nat.le_of_ble_eq_true rfl⟩ rfl (Nat.le_of_ble_eq_true rfl) dX8_error_7 ?_
  obtain ⟨y5, u4, hgu4, h⟩ := ob_p h
  refine vR_calli (As := [.int y3]) (rest := []) C (mX8_ends C.2.2.2.2.2.2.2.2.1 hgu4) 1 rfl tcX8_ends tlX8_105 tiX8_ends tsX8_ends rfl tnX8 tdX8_ends ⟨Nat.le_of_ble_eq_true rfl, Nat.le_of_ble_eq_true rfl⟩ rfl (Nat.le_of_ble_eq_true rfl) dX8_error_10 ?_
  exact vi_donei (W := wR q cI) RET h dX8_error_13
theorem mX8_error {E : (Nat → Prop) → State → Heap → Prop} (hE : vEok E) {l : Launch} {D : va_G} {cI cF cC cS cO : ClassId} {q : Nat → Nat} {r0 : Int32} {u0 : vS}  {x1 : Int32} {u : vS} (h : fX8_error x1 u = some (r0, u0)) : vM E l yX8_error cX8_error 2 (some .int) 4 87 D (vT5 cI cF cC cS cO) [.ref (q 0), .int x1] (wR q cI u) (vQi D (wR q cI u0) r0) :=
  vM_of hE (by decide +kernel) (Nat.le_of_ble_eq_true rfl) (fun p e s m args below meth c A C hr => kX8_error_e C (vi_reti C hr) h)
-- ---- Jxf58ca_isNaN_12338
def fJxf58ca_isNaN_12338 (x1 : UInt32) : Option (Int32) := (if Op.cmpValue (FP.fcmp x1 x1) CmpOp.l = 0 then some (0 : Int32) else some (1 : Int32))
set_option maxRecDepth 100000 in
set_option maxHeartbeats 4000000 in
theorem kJxf58ca_isNaN_12338_e {E : (Nat → Prop) → State → Heap → Prop} {p : Program} {l : Launch} {e : Env} {s : State} {m : MethodId} {args : Array Value} {below : List Frame} {meth : Method} {c : Code} {A : Nat → Prop} {D : va_G} {cI cF cC cS cO : ClassId} {Q : State → Prop} (C : vC E p l s m args meth c A D (vT5 cI cF cC cS cO) cJxf58ca_isNaN_12338 1 RJxf58ca) {r0 : Int32} (RET : ∀ (pc : Nat) (lv : List (Nat × Value)), decode cJxf58ca_isNaN_12338 pc = .ok (.ireturn, 1) → (r0 = 0 ∨ r0 = 1) → vV p l e { frames := 0, cells := 0, slots := 0, locals := 0 } s m args below meth c A D 1 0 0 Q [] pc lv [.int r0]) {x1 : UInt32} (h : fJxf58ca_isNaN_12338 x1 = some r0) : vV p l e { frames := 0, cells := 0, slots := 0, locals := 0 } s m args below meth c A D 1 0 0 Q [] 0 [(0, .float x1)] [] := by
  rw [fJxf58ca_isNaN_12338] at h
  refine vi_fload_n C 0 dJxf58ca_isNaN_12338_0 rfl ?_
  refine vi_fload_n C 0 dJxf58ca_isNaN_12338_1 rfl ?_
  refine vi_fcmp C dJxf58ca_isNaN_12338_2 ?_
  refine vi_if_eq (tgt := 10) C dJxf58ca_isNaN_12338_3 (by decide) (fun hc1 => ?_) (fun hc1 => ?_)
  · have h := ob_t h hc1
    refine vi_iconst (v := 0) C dJxf58ca_isNaN_12338_10 (by decide) ?_
    exact vi_donez0  RET h (by decide) dJxf58ca_isNaN_12338_11
  · have h := ob_f h hc1
    refine vi_iconst (v := 1) C dJxf58ca_isNaN_12338_6 (by decide) ?_
    refine vi_goto (tgt := 11) C dJxf58ca_isNaN_12338_7 (by decide) ?_
    exact vi_donez0  RET h (by decide) dJxf58ca_isNaN_12338_11
theorem mJxf58ca_isNaN_12338 {E : (Nat → Prop) → State → Heap → Prop} (hE : vEok E) {l : Launch} {D : va_G} {cI cF cC cS cO : ClassId} {r0 : Int32}  {x1 : UInt32} (h : fJxf58ca_isNaN_12338 x1 = some r0) : vM E l yJxf58ca_isNaN_12338 cJxf58ca_isNaN_12338 1 (some .boolean) 0 0 D (vT5 cI cF cC cS cO) [.float x1] [] (vQi D [] r0) :=
  vM_ofF hE (by decide +kernel) (Nat.le_of_ble_eq_true rfl) (fun p e s m args below meth c A C hr => kJxf58ca_isNaN_12338_e C (vi_retzz C hr) h)
-- ---- Jxf58ca_floatToIntBits_5c35a
def fJxf58ca_floatToIntBits_5c35a (x1 : UInt32) : Option (Int32) := (fJxf58ca_isNaN_12338 x1).bind fun y1 => (if y1 = 0 then some (UInt32.toInt32 x1) else some (2143289344 : Int32))
set_option maxRecDepth 100000 in
set_option maxHeartbeats 4000000 in
theorem kJxf58ca_floatToIntBits_5c35a_e {E : (Nat → Prop) → State → Heap → Prop} {p : Program} {l : Launch} {e : Env} {s : State} {m : MethodId} {args : Array Value} {below : List Frame} {meth : Method} {c : Code} {A : Nat → Prop} {D : va_G} {cI cF cC cS cO : ClassId} {Q : State → Prop} (C : vC E p l s m args meth c A D (vT5 cI cF cC cS cO) cJxf58ca_floatToIntBits_5c35a 1 RJxf58ca) {r0 : Int32} (RET : ∀ (pc : Nat) (lv : List (Nat × Value)), decode cJxf58ca_floatToIntBits_5c35a pc = .ok (.ireturn, 1) → vV p l e { frames := 1, cells := 0, slots := 0, locals := 20 } s m args below meth c A D 1 0 0 Q [] pc lv [.int r0]) {x1 : UInt32} (h : fJxf58ca_floatToIntBits_5c35a x1 = some r0) : vV p l e { frames := 1, cells := 0, slots := 0, locals := 20 } s m args below meth c A D 1 0 0 Q [] 0 [(0, .float x1)] [] := by
  rw [fJxf58ca_floatToIntBits_5c35a] at h
  refine vi_fload_n C 0 dJxf58ca_floatToIntBits_5c35a_0 rfl ?_
  obtain ⟨y1, hgy1, h⟩ := ob_bd h
  refine vi_callS0i (As := [.float x1]) (rest := []) C (mJxf58ca_isNaN_12338 C.2.2.2.2.2.2.2.2.1 hgy1) 1 rfl tcJxf58ca_isNaN_12338 tlJxf58ca_59 ttJxf58ca_isNaN_12338 tnJxf58ca tdJxf58ca_isNaN_12338 ⟨Nat.le_of_ble_eq_true rfl, Nat.le_of_ble_eq_true rfl⟩ rfl (Nat.le_of_ble_eq_true rfl) dJxf58ca_floatToIntBits_5c35a_1 ?_
  refine vi_if_ne (tgt := 12) C dJxf58ca_floatToIntBits_5c35a_4 (by decide) (fun hc2 => ?_) (fun hc2 => ?_)
  · have h := ob_f h hc2
    refine vi_ldc (v := 2143289344) C dJxf58ca_floatToIntBits_5c35a_12 tkJxf58ca_77 ?_
    exact vi_donei0  RET h dJxf58ca_floatToIntBits_5c35a_14
  · have h := ob_t h hc2
    refine vi_fload_n C 0 dJxf58ca_floatToIntBits_5c35a_7 rfl ?_
    refine vi_f2ib C dJxf58ca_floatToIntBits_5c35a_8 tlJxf58ca_74 tnat_floatToRawIntBits tstat_floatToRawIntBits tnJxf58ca (by decide) (by decide) ?_
    exact vi_donei0  RET h dJxf58ca_floatToIntBits_5c35a_11
theorem mJxf58ca_floatToIntBits_5c35a {E : (Nat → Prop) → State → Heap → Prop} (hE : vEok E) {l : Launch} {D : va_G} {cI cF cC cS cO : ClassId} {r0 : Int32}  {x1 : UInt32} (h : fJxf58ca_floatToIntBits_5c35a x1 = some r0) : vM E l yJxf58ca_floatToIntBits_5c35a cJxf58ca_floatToIntBits_5c35a 1 (some .int) 1 20 D (vT5 cI cF cC cS cO) [.float x1] [] (vQi D [] r0) :=
  vM_ofF hE (by decide +kernel) (Nat.le_of_ble_eq_true rfl) (fun p e s m args below meth c A C hr => kJxf58ca_floatToIntBits_5c35a_e C (vi_reti C hr) h)
-- ---- X8_takes
def fX8_takes_171 (x1 : Int32) (x2 : Int32) (u : vS) : Option (Int32 × vS) := if x2 < 0 ∨ 66 ≤ Int32.toNatClampNeg x2 then none else bd (up2 u 1 (Int32.toNatClampNeg x2) x1) fun u2 => bd (up2 u2 1 4 ((u2 1 4) + (1 : Int32))) fun u3 => some (u3 1 3, u3)
set_option maxRecDepth 100000 in
set_option maxHeartbeats 4000000 in
theorem kX8_takes_171 {E : (Nat → Prop) → State → Heap → Prop} {p : Program} {l : Launch} {e : Env} {s : State} {m : MethodId} {args : Array Value} {below : List Frame} {meth : Method} {c : Code} {A : Nat → Prop} {D : va_G} {cI cF cC cS cO : ClassId} {Q : State → Prop} {q : Nat → Nat} (C : vC E p l s m args meth c A D (vT5 cI cF cC cS cO) cX8_takes 3 RX8) {r0 : Int32} {u0 : vS} (RET : ∀ (pc : Nat) (lv : List (Nat × Value)), decode cX8_takes pc = .ok (.ireturn, 1) → vV p l e { frames := 4, cells := 0, slots := 0, locals := 85 } s m args below meth c A D 3 0 0 Q (wR q cI u0) pc lv [.int r0]) : ∀ (x1 : Int32) (x2 : Int32) (u : vS), fX8_takes_171 x1 x2 u = some (r0, u0) → vV p l e { frames := 4, cells := 0, slots := 0, locals := 85 } s m args below meth c A D 3 0 0 Q (wR q cI u) 171 [(0, .ref (q 0))] [.int x1, .int x2, .ref (q 1)] := by
  intro x1 x2 u h
  rw [fX8_takes_171] at h
  obtain ⟨hz1, h⟩ := ob_if h
  obtain ⟨u2, eu2, h⟩ := ob_nm h
  refine sR_1 (n := (Int32.toNatClampNeg x2)) C hz1 rfl dX8_takes_171 eu2.symm ?_
  refine vi_aload_n C 0 dX8_takes_172 rfl ?_
  refine gR_8 C dX8_takes_173 ?_
  refine vi_iconst (v := 4) C dX8_takes_176 (by decide) ?_
  refine vi_dup2 C dX8_takes_177 rfl rfl ?_
  refine lR_1 (n := 4) C (by decide) rfl dX8_takes_178 ?_
  refine vi_iconst (v := 1) C dX8_takes_179 (by decide) ?_
  refine vi_iadd C dX8_takes_180 ?_
  obtain ⟨u3, eu3, h⟩ := ob_nm h
  refine sR_1 (n := 4) C (by decide) rfl dX8_takes_181 eu3.symm ?_
  refine vi_aload_n C 0 dX8_takes_182 rfl ?_
  refine gR_8 C dX8_takes_183 ?_
  refine vi_iconst (v := 3) C dX8_takes_186 (by decide) ?_
  refine lR_1 (n := 3) C (by decide) rfl dX8_takes_187 ?_
  exact vi_donei (W := wR q cI) RET h dX8_takes_188
def fX8_takes_80 : Nat → Int32 → Int32 → vS → Option (Int32 × vS)
  | 0, _, _, _ => none
  | n + 1, x1, x2, u => (if x2 < (39 : Int32) then bd (up2 u 1 36 x1) fun u2 => bd (up2 u2 1 37 (u2 1 1)) fun u3 => obp (fX8_reads x1 u3) fun y5 u4 => (fJxf58ca_floatToIntBits_5c35a y5).bind fun y6 => bd (up2 u4 1 38 y6) fun u7 => (if (10 : Int32) ≤ u7 1 3 then fX8_takes_171 (10 : Int32) (3 : Int32) u7 else fX8_takes_171 ((u7 1 3) + (1 : Int32)) (3 : Int32) u7) else if x2 - (3 : Int32) < 0 ∨ 66 ≤ Int32.toNatClampNeg (x2 - (3 : Int32)) then none else if x2 < 0 ∨ 66 ≤ Int32.toNatClampNeg x2 then none else bd (up2 u 1 (Int32.toNatClampNeg x2) (u 1 (Int32.toNatClampNeg (x2 - (3 : Int32))))) fun u11 => bd ((x2 + (-1) : Int32)) fun y12 => fX8_takes_80 n x1 y12 u11)
set_option maxRecDepth 100000 in
set_option maxHeartbeats 4000000 in
theorem kX8_takes_80 {E : (Nat → Prop) → State → Heap → Prop} {p : Program} {l : Launch} {e : Env} {s : State} {m : MethodId} {args : Array Value} {below : List Frame} {meth : Method} {c : Code} {A : Nat → Prop} {D : va_G} {cI cF cC cS cO : ClassId} {Q : State → Prop} {q : Nat → Nat} (C : vC E p l s m args meth c A D (vT5 cI cF cC cS cO) cX8_takes 3 RX8) {r0 : Int32} {u0 : vS} (RET : ∀ (pc : Nat) (lv : List (Nat × Value)), decode cX8_takes pc = .ok (.ireturn, 1) → vV p l e { frames := 4, cells := 0, slots := 0, locals := 85 } s m args below meth c A D 3 0 0 Q (wR q cI u0) pc lv [.int r0]) : ∀ (n : Nat) (x1 : Int32) (x2 : Int32) (u : vS), fX8_takes_80 n x1 x2 u = some (r0, u0) → vV p l e { frames := 4, cells := 0, slots := 0, locals := 85 } s m args below meth c A D 3 0 0 Q (wR q cI u) 80 [(0, .ref (q 0)), (1, .int x1), (2, .int x2)] [] := by
  intro n
  induction n with
  | zero => intro x1 x2 u h; rw [fX8_takes_80] at h; cases h
  | succ n ih =>
    intro x1 x2 u h
    rw [fX8_takes_80] at h
    refine vi_iload_n C 2 dX8_takes_80 rfl ?_
    refine vi_bipush (v := 39) C dX8_takes_81 (by decide) ?_
    refine vi_icmp_lt (tgt := 106) C dX8_takes_83 (by decide) (fun hc1 => ?_) (fun hc1 => ?_)
    · have h := ob_t h hc1
      refine vi_aload_n C 0 dX8_takes_106 rfl ?_
      refine gR_8 C dX8_takes_107 ?_
      refine vi_bipush (v := 36) C dX8_takes_110 (by decide) ?_
      refine vi_iload_n C 1 dX8_takes_112 rfl ?_
      obtain ⟨u2, eu2, h⟩ := ob_nm h
      refine sR_1 (n := 36) C (by decide) rfl dX8_takes_113 eu2.symm ?_
      refine vi_aload_n C 0 dX8_takes_114 rfl ?_
      refine gR_8 C dX8_takes_115 ?_
      refine vi_bipush (v := 37) C dX8_takes_118 (by decide) ?_
      refine vi_aload_n C 0 dX8_takes_120 rfl ?_
      refine gR_8 C dX8_takes_121 ?_
      refine vi_iconst (v := 1) C dX8_takes_124 (by decide) ?_
      refine lR_1 (n := 1) C (by decide) rfl dX8_takes_125 ?_
      obtain ⟨u3, eu3, h⟩ := ob_nm h
      refine sR_1 (n := 37) C (by decide) rfl dX8_takes_126 eu3.symm ?_
      refine vi_aload_n C 0 dX8_takes_127 rfl ?_
      refine gR_8 C dX8_takes_128 ?_
      refine vi_bipush (v := 38) C dX8_takes_131 (by decide) ?_
      refine vi_aload_n C 0 dX8_takes_133 rfl ?_
      refine vi_iload_n C 1 dX8_takes_134 rfl ?_
      obtain ⟨y5, u4, hgu4, h⟩ := ob_p h
      refine vR_callf (As := [.int x1]) (rest := [.int (38 : Int32), .ref (q 1)]) C (mX8_reads C.2.2.2.2.2.2.2.2.1 hgu4) 1 rfl tcX8_reads tlX8_140 tiX8_reads tsX8_reads rfl tnX8 tdX8_reads ⟨Nat.le_of_ble_eq_true rfl, Nat.le_of_ble_eq_true rfl⟩ rfl (Nat.le_of_ble_eq_true rfl) dX8_takes_135 ?_
      obtain ⟨y6, hgy6, h⟩ := ob_bd h
      refine vi_callS0i (As := [.float y5]) (rest := [.int (38 : Int32), .ref (q 1)]) C (mJxf58ca_floatToIntBits_5c35a C.2.2.2.2.2.2.2.2.1 hgy6) 1 rfl tcJxf58ca_floatToIntBits_5c35a tlX8_144 ttJxf58ca_floatToIntBits_5c35a tnJxf58ca tdJxf58ca_floatToIntBits_5c35a ⟨Nat.le_of_ble_eq_true rfl, Nat.le_of_ble_eq_true rfl⟩ rfl (Nat.le_of_ble_eq_true rfl) dX8_takes_138 ?_
      obtain ⟨u7, eu7, h⟩ := ob_nm h
      refine sR_1 (n := 38) C (by decide) rfl dX8_takes_141 eu7.symm ?_
      refine vi_aload_n C 0 dX8_takes_142 rfl ?_
      refine gR_8 C dX8_takes_143 ?_
      refine vi_iconst (v := 3) C dX8_takes_146 (by decide) ?_
      refine vi_aload_n C 0 dX8_takes_147 rfl ?_
      refine gR_8 C dX8_takes_148 ?_
      refine vi_iconst (v := 3) C dX8_takes_151 (by decide) ?_
      refine lR_1 (n := 3) C (by decide) rfl dX8_takes_152 ?_
      refine vi_bipush (v := 10) C dX8_takes_153 (by decide) ?_
      refine vi_icmp_ge (tgt := 169) C dX8_takes_155 (by decide) (fun hc8 => ?_) (fun hc8 => ?_)
      · have h := ob_t h hc8
        refine vi_bipush (v := 10) C dX8_takes_169 (by decide) ?_
        refine vi_sub C [0] rfl ?_
        exact kX8_takes_171 C RET   _ _ _ h
      · have h := ob_f h hc8
        refine vi_aload_n C 0 dX8_takes_158 rfl ?_
        refine gR_8 C dX8_takes_159 ?_
        refine vi_iconst (v := 3) C dX8_takes_162 (by decide) ?_
        refine lR_1 (n := 3) C (by decide) rfl dX8_takes_163 ?_
        refine vi_iconst (v := 1) C dX8_takes_164 (by decide) ?_
        refine vi_iadd C dX8_takes_165 ?_
        refine vi_goto (tgt := 171) C dX8_takes_166 (by decide) ?_
        refine vi_sub C [0] rfl ?_
        exact kX8_takes_171 C RET   _ _ _ h
    · have h := ob_f h hc1
      refine vi_aload_n C 0 dX8_takes_86 rfl ?_
      refine gR_8 C dX8_takes_87 ?_
      refine vi_iload_n C 2 dX8_takes_90 rfl ?_
      refine vi_aload_n C 0 dX8_takes_91 rfl ?_
      refine gR_8 C dX8_takes_92 ?_
      refine vi_iload_n C 2 dX8_takes_95 rfl ?_
      refine vi_iconst (v := 3) C dX8_takes_96 (by decide) ?_
      refine vi_isub C dX8_takes_97 ?_
      obtain ⟨hz9, h⟩ := ob_if h
      refine lR_1 (n := (Int32.toNatClampNeg (x2 - (3 : Int32)))) C hz9 rfl dX8_takes_98 ?_
      obtain ⟨hz10, h⟩ := ob_if h
      obtain ⟨u11, eu11, h⟩ := ob_nm h
      refine sR_1 (n := (Int32.toNatClampNeg x2)) C hz10 rfl dX8_takes_99 eu11.symm ?_
      obtain ⟨y12, ey12, h⟩ := ob_nm h
      refine vi_iinc (v := y12) (lv' := [(2, .int y12), (0, .ref (q 0)), (1, .int x1)]) C 2 dX8_takes_100 rfl (by rw [ey12]; rfl) (by decide) rfl ?_
      refine vi_goto (tgt := 80) C dX8_takes_103 (by decide) ?_
      refine vi_sub C [1, 2, 0] rfl ?_
      exact ih _ _ _ h
def fX8_takes_17 : Nat → Int32 → Int32 → vS → Option (Int32 × vS)
  | 0, _, _, _ => none
  | n + 1, x1, x2, u => (if u 1 3 ≤ x2 then fX8_takes_80 vF x1 (65 : Int32) u else if (36 : Int32) + ((3 : Int32) * x2) < 0 ∨ 66 ≤ Int32.toNatClampNeg ((36 : Int32) + ((3 : Int32) * x2)) then none else (if u 1 (Int32.toNatClampNeg ((36 : Int32) + ((3 : Int32) * x2))) = x1 then if ((36 : Int32) + ((3 : Int32) * x2)) + (1 : Int32) < 0 ∨ 66 ≤ Int32.toNatClampNeg (((36 : Int32) + ((3 : Int32) * x2)) + (1 : Int32)) then none else (if u 1 (Int32.toNatClampNeg (((36 : Int32) + ((3 : Int32) * x2)) + (1 : Int32))) = u 1 1 then obp (fX8_refuses (4 : Int32) x1 u) fun y9 u8 => some (y9, u8) else bd ((x2 + 1 : Int32)) fun y7 => fX8_takes_17 n x1 y7 u) else bd ((x2 + 1 : Int32)) fun y4 => fX8_takes_17 n x1 y4 u))
set_option maxRecDepth 100000 in
set_option maxHeartbeats 4000000 in
theorem kX8_takes_17 {E : (Nat → Prop) → State → Heap → Prop} {p : Program} {l : Launch} {e : Env} {s : State} {m : MethodId} {args : Array Value} {below : List Frame} {meth : Method} {c : Code} {A : Nat → Prop} {D : va_G} {cI cF cC cS cO : ClassId} {Q : State → Prop} {q : Nat → Nat} (C : vC E p l s m args meth c A D (vT5 cI cF cC cS cO) cX8_takes 3 RX8) {r0 : Int32} {u0 : vS} (RET : ∀ (pc : Nat) (lv : List (Nat × Value)), decode cX8_takes pc = .ok (.ireturn, 1) → vV p l e { frames := 4, cells := 0, slots := 0, locals := 85 } s m args below meth c A D 3 0 0 Q (wR q cI u0) pc lv [.int r0]) : ∀ (n : Nat) (x1 : Int32) (x2 : Int32) (u : vS), fX8_takes_17 n x1 x2 u = some (r0, u0) → vV p l e { frames := 4, cells := 0, slots := 0, locals := 85 } s m args below meth c A D 3 0 0 Q (wR q cI u) 17 [(0, .ref (q 0)), (1, .int x1), (2, .int x2)] [] := by
  intro n
  induction n with
  | zero => intro x1 x2 u h; rw [fX8_takes_17] at h; cases h
  | succ n ih =>
    intro x1 x2 u h
    rw [fX8_takes_17] at h
    refine vi_iload_n C 2 dX8_takes_17 rfl ?_
    refine vi_aload_n C 0 dX8_takes_18 rfl ?_
    refine gR_8 C dX8_takes_19 ?_
    refine vi_iconst (v := 3) C dX8_takes_22 (by decide) ?_
    refine lR_1 (n := 3) C (by decide) rfl dX8_takes_23 ?_
    refine vi_icmp_ge (tgt := 77) C dX8_takes_24 (by decide) (fun hc1 => ?_) (fun hc1 => ?_)
    · have h := ob_t h hc1
      refine vi_bipush (v := 65) C dX8_takes_77 (by decide) ?_
      refine vi_istore_n (lv' := [(2, .int (65 : Int32)), (0, .ref (q 0)), (1, .int x1)]) C dX8_takes_79 rfl (by decide) rfl ?_
      refine vi_sub C [1, 2, 0] rfl ?_
      exact kX8_takes_80 C RET  vF _ _ _ h
    · have h := ob_f h hc1
      refine vi_aload_n C 0 dX8_takes_27 rfl ?_
      refine gR_8 C dX8_takes_28 ?_
      refine vi_bipush (v := 36) C dX8_takes_31 (by decide) ?_
      refine vi_iconst (v := 3) C dX8_takes_33 (by decide) ?_
      refine vi_iload_n C 2 dX8_takes_34 rfl ?_
      refine vi_imul C dX8_takes_35 ?_
      refine vi_iadd C dX8_takes_36 ?_
      obtain ⟨hz2, h⟩ := ob_if h
      refine lR_1 (n := (Int32.toNatClampNeg ((36 : Int32) + ((3 : Int32) * x2)))) C hz2 rfl dX8_takes_37 ?_
      refine vi_iload_n C 1 dX8_takes_38 rfl ?_
      refine vi_icmp_ne (tgt := 71) C dX8_takes_39 (by decide) (fun hc3 => ?_) (fun hc3 => ?_)
      · have h := ob_f h hc3
        obtain ⟨y4, ey4, h⟩ := ob_nm h
        refine vi_iinc (v := y4) (lv' := [(2, .int y4), (0, .ref (q 0)), (1, .int x1)]) C 2 dX8_takes_71 rfl (by rw [ey4]; rfl) (by decide) rfl ?_
        refine vi_goto (tgt := 17) C dX8_takes_74 (by decide) ?_
        refine vi_sub C [1, 2, 0] rfl ?_
        exact ih _ _ _ h
      · have h := ob_t h hc3
        refine vi_aload_n C 0 dX8_takes_42 rfl ?_
        refine gR_8 C dX8_takes_43 ?_
        refine vi_bipush (v := 36) C dX8_takes_46 (by decide) ?_
        refine vi_iconst (v := 3) C dX8_takes_48 (by decide) ?_
        refine vi_iload_n C 2 dX8_takes_49 rfl ?_
        refine vi_imul C dX8_takes_50 ?_
        refine vi_iadd C dX8_takes_51 ?_
        refine vi_iconst (v := 1) C dX8_takes_52 (by decide) ?_
        refine vi_iadd C dX8_takes_53 ?_
        obtain ⟨hz5, h⟩ := ob_if h
        refine lR_1 (n := (Int32.toNatClampNeg (((36 : Int32) + ((3 : Int32) * x2)) + (1 : Int32)))) C hz5 rfl dX8_takes_54 ?_
        refine vi_aload_n C 0 dX8_takes_55 rfl ?_
        refine gR_8 C dX8_takes_56 ?_
        refine vi_iconst (v := 1) C dX8_takes_59 (by decide) ?_
        refine lR_1 (n := 1) C (by decide) rfl dX8_takes_60 ?_
        refine vi_icmp_ne (tgt := 71) C dX8_takes_61 (by decide) (fun hc6 => ?_) (fun hc6 => ?_)
        · have h := ob_f h hc6
          obtain ⟨y7, ey7, h⟩ := ob_nm h
          refine vi_iinc (v := y7) (lv' := [(2, .int y7), (0, .ref (q 0)), (1, .int x1)]) C 2 dX8_takes_71 rfl (by rw [ey7]; rfl) (by decide) rfl ?_
          refine vi_goto (tgt := 17) C dX8_takes_74 (by decide) ?_
          refine vi_sub C [1, 2, 0] rfl ?_
          exact ih _ _ _ h
        · have h := ob_t h hc6
          refine vi_aload_n C 0 dX8_takes_64 rfl ?_
          refine vi_iconst (v := 4) C dX8_takes_65 (by decide) ?_
          refine vi_iload_n C 1 dX8_takes_66 rfl ?_
          obtain ⟨y9, u8, hgu8, h⟩ := ob_p h
          refine vR_calli (As := [.int (4 : Int32), .int x1]) (rest := []) C (mX8_refuses C.2.2.2.2.2.2.2.2.1 hgu8) 2 rfl tcX8_refuses tlX8_96 tiX8_refuses tsX8_refuses rfl tnX8 tdX8_refuses ⟨Nat.le_of_ble_eq_true rfl, Nat.le_of_ble_eq_true rfl⟩ rfl (Nat.le_of_ble_eq_true rfl) dX8_takes_67 ?_
          exact vi_donei (W := wR q cI) RET h dX8_takes_70
def fX8_takes (x1 : Int32) (u : vS) : Option (Int32 × vS) := obp (fX8_isSailor x1 u) fun y2 u1 => (if y2 = 0 then obp (fX8_fail (-100001 : Int32) u1) fun y5 u4 => some (y5, u4) else fX8_takes_17 vF x1 (0 : Int32) u1)
set_option maxRecDepth 100000 in
set_option maxHeartbeats 4000000 in
theorem kX8_takes_e {E : (Nat → Prop) → State → Heap → Prop} {p : Program} {l : Launch} {e : Env} {s : State} {m : MethodId} {args : Array Value} {below : List Frame} {meth : Method} {c : Code} {A : Nat → Prop} {D : va_G} {cI cF cC cS cO : ClassId} {Q : State → Prop} {q : Nat → Nat} (C : vC E p l s m args meth c A D (vT5 cI cF cC cS cO) cX8_takes 3 RX8) {r0 : Int32} {u0 : vS} (RET : ∀ (pc : Nat) (lv : List (Nat × Value)), decode cX8_takes pc = .ok (.ireturn, 1) → vV p l e { frames := 4, cells := 0, slots := 0, locals := 85 } s m args below meth c A D 3 0 0 Q (wR q cI u0) pc lv [.int r0]) {x1 : Int32} {u : vS} (h : fX8_takes x1 u = some (r0, u0)) : vV p l e { frames := 4, cells := 0, slots := 0, locals := 85 } s m args below meth c A D 3 0 0 Q (wR q cI u) 0 [(0, .ref (q 0)), (1, .int x1)] [] := by
  rw [fX8_takes] at h
  refine vi_aload_n C 0 dX8_takes_0 rfl ?_
  refine vi_iload_n C 1 dX8_takes_1 rfl ?_
  obtain ⟨y2, u1, hgu1, h⟩ := ob_p h
  refine vR_calli (As := [.int x1]) (rest := []) C (mX8_isSailor C.2.2.2.2.2.2.2.2.1 hgu1) 1 rfl tcX8_isSailor tlX8_108 tiX8_isSailor tsX8_isSailor rfl tnX8 tdX8_isSailor ⟨Nat.le_of_ble_eq_true rfl, Nat.le_of_ble_eq_true rfl⟩ rfl (Nat.le_of_ble_eq_true rfl) dX8_takes_2 ?_
  refine vi_if_ne (tgt := 15) C dX8_takes_5 (by decide) (fun hc3 => ?_) (fun hc3 => ?_)
  · have h := ob_f h hc3
    refine vi_iconst (v := 0) C dX8_takes_15 (by decide) ?_
    refine vi_istore_n (lv' := [(2, .int (0 : Int32)), (0, .ref (q 0)), (1, .int x1)]) C dX8_takes_16 rfl (by decide) rfl ?_
    refine vi_sub C [1, 2, 0] rfl ?_
    exact kX8_takes_17 C RET  vF _ _ _ h
  · have h := ob_t h hc3
    refine vi_aload_n C 0 dX8_takes_8 rfl ?_
    refine vi_ldc (v := (-100001)) C dX8_takes_9 tkX8_111 ?_
    obtain ⟨y5, u4, hgu4, h⟩ := ob_p h
    refine vR_calli (As := [.int (-100001 : Int32)]) (rest := []) C (mX8_fail C.2.2.2.2.2.2.2.2.1 hgu4) 1 rfl tcX8_fail tlX8_57 tiX8_fail tsX8_fail rfl tnX8 tdX8_fail ⟨Nat.le_of_ble_eq_true rfl, Nat.le_of_ble_eq_true rfl⟩ rfl (Nat.le_of_ble_eq_true rfl) dX8_takes_11 ?_
    exact vi_donei (W := wR q cI) RET h dX8_takes_14
theorem mX8_takes {E : (Nat → Prop) → State → Heap → Prop} (hE : vEok E) {l : Launch} {D : va_G} {cI cF cC cS cO : ClassId} {q : Nat → Nat} {r0 : Int32} {u0 : vS}  {x1 : Int32} {u : vS} (h : fX8_takes x1 u = some (r0, u0)) : vM E l yX8_takes cX8_takes 3 (some .int) 4 85 D (vT5 cI cF cC cS cO) [.ref (q 0), .int x1] (wR q cI u) (vQi D (wR q cI u0) r0) :=
  vM_of hE (by decide +kernel) (Nat.le_of_ble_eq_true rfl) (fun p e s m args below meth c A C hr => kX8_takes_e C (vi_reti C hr) h)
-- ---- X8_sight
def fX8_sight (x1 : Int32) (u : vS) : Option (Int32 × vS) := (fX8_begins u).bind fun u1 => obp (fX8_takes x1 u1) fun y3 u2 => obp (fX8_ends y3 u2) fun y5 u4 => some (y5, u4)
set_option maxRecDepth 100000 in
set_option maxHeartbeats 4000000 in
theorem kX8_sight_e {E : (Nat → Prop) → State → Heap → Prop} {p : Program} {l : Launch} {e : Env} {s : State} {m : MethodId} {args : Array Value} {below : List Frame} {meth : Method} {c : Code} {A : Nat → Prop} {D : va_G} {cI cF cC cS cO : ClassId} {Q : State → Prop} {q : Nat → Nat} (C : vC E p l s m args meth c A D (vT5 cI cF cC cS cO) cX8_sight 2 RX8) {r0 : Int32} {u0 : vS} (RET : ∀ (pc : Nat) (lv : List (Nat × Value)), decode cX8_sight pc = .ok (.ireturn, 1) → vV p l e { frames := 5, cells := 0, slots := 0, locals := 107 } s m args below meth c A D 2 0 0 Q (wR q cI u0) pc lv [.int r0]) {x1 : Int32} {u : vS} (h : fX8_sight x1 u = some (r0, u0)) : vV p l e { frames := 5, cells := 0, slots := 0, locals := 107 } s m args below meth c A D 2 0 0 Q (wR q cI u) 0 [(0, .ref (q 0)), (1, .int x1)] [] := by
  rw [fX8_sight] at h
  refine vi_aload_n C 0 dX8_sight_0 rfl ?_
  obtain ⟨u1, hgu1, h⟩ := ob_bd h
  refine vR_callv (As := []) (rest := []) C (mX8_begins C.2.2.2.2.2.2.2.2.1 hgu1) 0 rfl tcX8_begins tlX8_99 tiX8_begins tsX8_begins rfl tnX8 tdX8_begins ⟨Nat.le_of_ble_eq_true rfl, Nat.le_of_ble_eq_true rfl⟩ rfl (Nat.le_of_ble_eq_true rfl) dX8_sight_1 ?_
  refine vi_aload_n C 0 dX8_sight_4 rfl ?_
  refine vi_aload_n C 0 dX8_sight_5 rfl ?_
  refine vi_iload_n C 1 dX8_sight_6 rfl ?_
  obtain ⟨y3, u2, hgu2, h⟩ := ob_p h
  refine vR_calli (As := [.int x1]) (rest := [.ref (q 0)]) C (mX8_takes C.2.2.2.2.2.2.2.2.1 hgu2) 1 rfl tcX8_takes tlX8_150 tiX8_takes tsX8_takes rfl tnX8 tdX8_takes ⟨Nat.le_of_ble_eq_true rfl, Nat.le_of_ble_eq_true rfl⟩ rfl (Nat.le_of_ble_eq_true rfl) dX8_sight_7 ?_
  obtain ⟨y5, u4, hgu4, h⟩ := ob_p h
  refine vR_calli (As := [.int y3]) (rest := []) C (mX8_ends C.2.2.2.2.2.2.2.2.1 hgu4) 1 rfl tcX8_ends tlX8_105 tiX8_ends tsX8_ends rfl tnX8 tdX8_ends ⟨Nat.le_of_ble_eq_true rfl, Nat.le_of_ble_eq_true rfl⟩ rfl (Nat.le_of_ble_eq_true rfl) dX8_sight_10 ?_
  exact vi_donei (W := wR q cI) RET h dX8_sight_13
theorem mX8_sight {E : (Nat → Prop) → State → Heap → Prop} (hE : vEok E) {l : Launch} {D : va_G} {cI cF cC cS cO : ClassId} {q : Nat → Nat} {r0 : Int32} {u0 : vS}  {x1 : Int32} {u : vS} (h : fX8_sight x1 u = some (r0, u0)) : vM E l yX8_sight cX8_sight 2 (some .int) 5 107 D (vT5 cI cF cC cS cO) [.ref (q 0), .int x1] (wR q cI u) (vQi D (wR q cI u0) r0) :=
  vM_of hE (by decide +kernel) (Nat.le_of_ble_eq_true rfl) (fun p e s m args below meth c A C hr => kX8_sight_e C (vi_reti C hr) h)
-- ---- X8_turned
def fX8_turned (x1 : Int32) : Option (Int32) := some (((x1 <<< ((1 : Int32) &&& 31)) &&& (65535 : Int32)) ||| (x1 >>> ((15 : Int32) &&& 31)))
set_option maxRecDepth 100000 in
set_option maxHeartbeats 4000000 in
theorem kX8_turned_e {E : (Nat → Prop) → State → Heap → Prop} {p : Program} {l : Launch} {e : Env} {s : State} {m : MethodId} {args : Array Value} {below : List Frame} {meth : Method} {c : Code} {A : Nat → Prop} {D : va_G} {cI cF cC cS cO : ClassId} {Q : State → Prop} (C : vC E p l s m args meth c A D (vT5 cI cF cC cS cO) cX8_turned 1 RX8) {r0 : Int32} (RET : ∀ (pc : Nat) (lv : List (Nat × Value)), decode cX8_turned pc = .ok (.ireturn, 1) → vV p l e { frames := 0, cells := 0, slots := 0, locals := 0 } s m args below meth c A D 1 0 0 Q [] pc lv [.int r0]) {x1 : Int32} (h : fX8_turned x1 = some r0) : vV p l e { frames := 0, cells := 0, slots := 0, locals := 0 } s m args below meth c A D 1 0 0 Q [] 0 [(0, .int x1)] [] := by
  rw [fX8_turned] at h
  refine vi_iload_n C 0 dX8_turned_0 rfl ?_
  refine vi_iconst (v := 1) C dX8_turned_1 (by decide) ?_
  refine vi_ishl C dX8_turned_2 ?_
  refine vi_ldc (v := 65535) C dX8_turned_3 tkX8_72 ?_
  refine vi_iand C dX8_turned_5 ?_
  refine vi_iload_n C 0 dX8_turned_6 rfl ?_
  refine vi_bipush (v := 15) C dX8_turned_7 (by decide) ?_
  refine vi_ishr C dX8_turned_9 ?_
  refine vi_ior C dX8_turned_10 ?_
  exact vi_donei0  RET h dX8_turned_11
theorem mX8_turned {E : (Nat → Prop) → State → Heap → Prop} (hE : vEok E) {l : Launch} {D : va_G} {cI cF cC cS cO : ClassId} {r0 : Int32}  {x1 : Int32} (h : fX8_turned x1 = some r0) : vM E l yX8_turned cX8_turned 1 (some .int) 0 0 D (vT5 cI cF cC cS cO) [.int x1] [] (vQi D [] r0) :=
  vM_of hE (by decide +kernel) (Nat.le_of_ble_eq_true rfl) (fun p e s m args below meth c A C hr => kX8_turned_e C (vi_reti C hr) h)
-- ---- X8_allRum
def fX8_allRum_4 : Nat → Int32 → Int32 → vS → Option (Int32 × vS)
  | 0, _, _, _ => none
  | n + 1, x1, x2, u => (if u 1 0 ≤ x2 then some (x1, u) else (fX8_at x2 (1 : Int32)).bind fun y2 => if y2 < 0 ∨ 66 ≤ Int32.toNatClampNeg y2 then none else bd ((x1 + (u 1 (Int32.toNatClampNeg y2)) : Int32)) fun y4 => bd ((x2 + 1 : Int32)) fun y5 => fX8_allRum_4 n y4 y5 u)
set_option maxRecDepth 100000 in
set_option maxHeartbeats 4000000 in
theorem kX8_allRum_4 {E : (Nat → Prop) → State → Heap → Prop} {p : Program} {l : Launch} {e : Env} {s : State} {m : MethodId} {args : Array Value} {below : List Frame} {meth : Method} {c : Code} {A : Nat → Prop} {D : va_G} {cI cF cC cS cO : ClassId} {Q : State → Prop} {q : Nat → Nat} (C : vC E p l s m args meth c A D (vT5 cI cF cC cS cO) cX8_allRum 3 RX8) {r0 : Int32} {u0 : vS} (RET : ∀ (pc : Nat) (lv : List (Nat × Value)), decode cX8_allRum pc = .ok (.ireturn, 1) → vV p l e { frames := 1, cells := 0, slots := 0, locals := 21 } s m args below meth c A D 3 0 0 Q (wR q cI u0) pc lv [.int r0]) : ∀ (n : Nat) (x1 : Int32) (x2 : Int32) (u : vS), fX8_allRum_4 n x1 x2 u = some (r0, u0) → vV p l e { frames := 1, cells := 0, slots := 0, locals := 21 } s m args below meth c A D 3 0 0 Q (wR q cI u) 4 [(0, .ref (q 0)), (1, .int x1), (2, .int x2)] [] := by
  intro n
  induction n with
  | zero => intro x1 x2 u h; rw [fX8_allRum_4] at h; cases h
  | succ n ih =>
    intro x1 x2 u h
    rw [fX8_allRum_4] at h
    refine vi_iload_n C 2 dX8_allRum_4 rfl ?_
    refine vi_aload_n C 0 dX8_allRum_5 rfl ?_
    refine gR_8 C dX8_allRum_6 ?_
    refine vi_iconst (v := 0) C dX8_allRum_9 (by decide) ?_
    refine lR_1 (n := 0) C (by decide) rfl dX8_allRum_10 ?_
    refine vi_icmp_ge (tgt := 33) C dX8_allRum_11 (by decide) (fun hc1 => ?_) (fun hc1 => ?_)
    · have h := ob_t h hc1
      refine vi_iload_n C 1 dX8_allRum_33 rfl ?_
      exact vi_donei (W := wR q cI) RET h dX8_allRum_34
    · have h := ob_f h hc1
      refine vi_iload_n C 1 dX8_allRum_14 rfl ?_
      refine vi_aload_n C 0 dX8_allRum_15 rfl ?_
      refine gR_8 C dX8_allRum_16 ?_
      refine vi_iload_n C 2 dX8_allRum_19 rfl ?_
      refine vi_iconst (v := 1) C dX8_allRum_20 (by decide) ?_
      obtain ⟨y2, hgy2, h⟩ := ob_bd h
      refine vi_callS0i (As := [.int x2, .int (1 : Int32)]) (rest := [.ref (q 1), .int x1]) C (mX8_at C.2.2.2.2.2.2.2.2.1 hgy2) 2 rfl tcX8_at tlX8_73 ttX8_at tnX8 tdX8_at ⟨Nat.le_of_ble_eq_true rfl, Nat.le_of_ble_eq_true rfl⟩ rfl (Nat.le_of_ble_eq_true rfl) dX8_allRum_21 ?_
      obtain ⟨hz3, h⟩ := ob_if h
      refine lR_1 (n := (Int32.toNatClampNeg y2)) C hz3 rfl dX8_allRum_24 ?_
      refine vi_iadd C dX8_allRum_25 ?_
      obtain ⟨y4, ey4, h⟩ := ob_nm h
      refine vi_nmi ey4 ?_
      refine vi_istore_n (lv' := [(1, .int y4), (0, .ref (q 0)), (2, .int x2)]) C dX8_allRum_26 rfl (by decide) rfl ?_
      obtain ⟨y5, ey5, h⟩ := ob_nm h
      refine vi_iinc (v := y5) (lv' := [(2, .int y5), (1, .int y4), (0, .ref (q 0))]) C 2 dX8_allRum_27 rfl (by rw [ey5]; rfl) (by decide) rfl ?_
      refine vi_goto (tgt := 4) C dX8_allRum_30 (by decide) ?_
      refine vi_sub C [2, 1, 0] rfl ?_
      exact ih _ _ _ h
def fX8_allRum (u : vS) : Option (Int32 × vS) := fX8_allRum_4 vF (0 : Int32) (0 : Int32) u
set_option maxRecDepth 100000 in
set_option maxHeartbeats 4000000 in
theorem kX8_allRum_e {E : (Nat → Prop) → State → Heap → Prop} {p : Program} {l : Launch} {e : Env} {s : State} {m : MethodId} {args : Array Value} {below : List Frame} {meth : Method} {c : Code} {A : Nat → Prop} {D : va_G} {cI cF cC cS cO : ClassId} {Q : State → Prop} {q : Nat → Nat} (C : vC E p l s m args meth c A D (vT5 cI cF cC cS cO) cX8_allRum 3 RX8) {r0 : Int32} {u0 : vS} (RET : ∀ (pc : Nat) (lv : List (Nat × Value)), decode cX8_allRum pc = .ok (.ireturn, 1) → vV p l e { frames := 1, cells := 0, slots := 0, locals := 21 } s m args below meth c A D 3 0 0 Q (wR q cI u0) pc lv [.int r0]) {u : vS} (h : fX8_allRum u = some (r0, u0)) : vV p l e { frames := 1, cells := 0, slots := 0, locals := 21 } s m args below meth c A D 3 0 0 Q (wR q cI u) 0 [(0, .ref (q 0))] [] := by
  rw [fX8_allRum] at h
  refine vi_iconst (v := 0) C dX8_allRum_0 (by decide) ?_
  refine vi_istore_n (lv' := [(1, .int (0 : Int32)), (0, .ref (q 0))]) C dX8_allRum_1 rfl (by decide) rfl ?_
  refine vi_iconst (v := 0) C dX8_allRum_2 (by decide) ?_
  refine vi_istore_n (lv' := [(2, .int (0 : Int32)), (1, .int (0 : Int32)), (0, .ref (q 0))]) C dX8_allRum_3 rfl (by decide) rfl ?_
  refine vi_sub C [2, 1, 0] rfl ?_
  exact kX8_allRum_4 C RET  vF _ _ _ h
theorem mX8_allRum {E : (Nat → Prop) → State → Heap → Prop} (hE : vEok E) {l : Launch} {D : va_G} {cI cF cC cS cO : ClassId} {q : Nat → Nat} {r0 : Int32} {u0 : vS}  {u : vS} (h : fX8_allRum u = some (r0, u0)) : vM E l yX8_allRum cX8_allRum 3 (some .int) 1 21 D (vT5 cI cF cC cS cO) [.ref (q 0)] (wR q cI u) (vQi D (wR q cI u0) r0) :=
  vM_of hE (by decide +kernel) (Nat.le_of_ble_eq_true rfl) (fun p e s m args below meth c A C hr => kX8_allRum_e C (vi_reti C hr) h)
