-- ---- X8_fail
def fX8_fail (x1 : Int32) (u : vS) : Option (Int32 × vS) := bd (up2 u 0 0 x1) fun u1 => some (x1, u1)
set_option maxRecDepth 100000 in
set_option maxHeartbeats 4000000 in
theorem kX8_fail_e {E : (Nat → Prop) → State → Heap → Prop} {p : Program} {l : Launch} {e : Env} {s : State} {m : MethodId} {args : Array Value} {below : List Frame} {meth : Method} {c : Code} {A : Nat → Prop} {D : va_G} {cI cF cC cS cO : ClassId} {Q : State → Prop} {q : Nat → Nat} (C : vC E p l s m args meth c A D (vT5 cI cF cC cS cO) cX8_fail 2 RX8) {r0 : Int32} {u0 : vS} (RET : ∀ (pc : Nat) (lv : List (Nat × Value)), decode cX8_fail pc = .ok (.ireturn, 1) → vV p l e { frames := 0, cells := 0, slots := 0, locals := 0 } s m args below meth c A D 2 0 0 Q (wR q cI u0) pc lv [.int r0]) {x1 : Int32} {u : vS} (h : fX8_fail x1 u = some (r0, u0)) : vV p l e { frames := 0, cells := 0, slots := 0, locals := 0 } s m args below meth c A D 2 0 0 Q (wR q cI u) 0 [(0, .ref (q 0)), (1, .int x1)] [] := by
  rw [fX8_fail] at h
  refine vi_aload_n C 0 dX8_fail_0 rfl ?_
  refine vi_iload_n C 1 dX8_fail_1 rfl ?_
  obtain ⟨u1, eu1, h⟩ := ob_nm h
  refine pR_0 C dX8_fail_2 eu1.symm ?_
  refine vi_iload_n C 1 dX8_fail_5 rfl ?_
  exact vi_donei (W := wR q cI) RET h dX8_fail_6
theorem mX8_fail {E : (Nat → Prop) → State → Heap → Prop} (hE : vEok E) {l : Launch} {D : va_G} {cI cF cC cS cO : ClassId} {q : Nat → Nat} {r0 : Int32} {u0 : vS}  {x1 : Int32} {u : vS} (h : fX8_fail x1 u = some (r0, u0)) : vM E l yX8_fail cX8_fail 2 (some .int) 0 0 D (vT5 cI cF cC cS cO) [.ref (q 0), .int x1] (wR q cI u) (vQi D (wR q cI u0) r0) :=
  vM_of hE (by decide +kernel) (Nat.le_of_ble_eq_true rfl) (fun p e s m args below meth c A C hr => kX8_fail_e C (vi_reti C hr) h)
-- ---- X8_refuses
def fX8_refuses (x1 : Int32) (x2 : Int32) (u : vS) : Option (Int32 × vS) := bd (up2 u 0 2 x1) fun u1 => bd (up2 u1 0 3 x2) fun u2 => bd (up2 u2 0 4 (0 : Int32)) fun u3 => obp (fX8_fail (-100005 : Int32) u3) fun y5 u4 => some (y5, u4)
set_option maxRecDepth 100000 in
set_option maxHeartbeats 4000000 in
theorem kX8_refuses_e {E : (Nat → Prop) → State → Heap → Prop} {p : Program} {l : Launch} {e : Env} {s : State} {m : MethodId} {args : Array Value} {below : List Frame} {meth : Method} {c : Code} {A : Nat → Prop} {D : va_G} {cI cF cC cS cO : ClassId} {Q : State → Prop} {q : Nat → Nat} (C : vC E p l s m args meth c A D (vT5 cI cF cC cS cO) cX8_refuses 3 RX8) {r0 : Int32} {u0 : vS} (RET : ∀ (pc : Nat) (lv : List (Nat × Value)), decode cX8_refuses pc = .ok (.ireturn, 1) → vV p l e { frames := 1, cells := 0, slots := 0, locals := 21 } s m args below meth c A D 3 0 0 Q (wR q cI u0) pc lv [.int r0]) {x1 : Int32} {x2 : Int32} {u : vS} (h : fX8_refuses x1 x2 u = some (r0, u0)) : vV p l e { frames := 1, cells := 0, slots := 0, locals := 21 } s m args below meth c A D 3 0 0 Q (wR q cI u) 0 [(0, .ref (q 0)), (1, .int x1), (2, .int x2)] [] := by
  rw [fX8_refuses] at h
  refine vi_aload_n C 0 dX8_refuses_0 rfl ?_
  refine vi_iload_n C 1 dX8_refuses_1 rfl ?_
  obtain ⟨u1, eu1, h⟩ := ob_nm h
  refine pR_2 C dX8_refuses_2 eu1.symm ?_
  refine vi_aload_n C 0 dX8_refuses_5 rfl ?_
  refine vi_iload_n C 2 dX8_refuses_6 rfl ?_
  obtain ⟨u2, eu2, h⟩ := ob_nm h
  refine pR_3 C dX8_refuses_7 eu2.symm ?_
  refine vi_aload_n C 0 dX8_refuses_10 rfl ?_
  refine vi_iconst (v := 0) C dX8_refuses_11 (by decide) ?_
  obtain ⟨u3, eu3, h⟩ := ob_nm h
  refine pR_4 C dX8_refuses_12 eu3.symm ?_
  refine vi_aload_n C 0 dX8_refuses_15 rfl ?_
  refine vi_ldc (v := (-100005)) C dX8_refuses_16 tkX8_56 ?_
  obtain ⟨y5, u4, hgu4, h⟩ := ob_p h
  refine vR_calli (As := [.int (-100005 : Int32)]) (rest := []) C (mX8_fail C.2.2.2.2.2.2.2.2.1 hgu4) 1 rfl tcX8_fail tlX8_57 tiX8_fail tsX8_fail rfl tnX8 tdX8_fail ⟨Nat.le_of_ble_eq_true rfl, Nat.le_of_ble_eq_true rfl⟩ rfl (Nat.le_of_ble_eq_true rfl) dX8_refuses_18 ?_
  exact vi_donei (W := wR q cI) RET h dX8_refuses_21
theorem mX8_refuses {E : (Nat → Prop) → State → Heap → Prop} (hE : vEok E) {l : Launch} {D : va_G} {cI cF cC cS cO : ClassId} {q : Nat → Nat} {r0 : Int32} {u0 : vS}  {x1 : Int32} {x2 : Int32} {u : vS} (h : fX8_refuses x1 x2 u = some (r0, u0)) : vM E l yX8_refuses cX8_refuses 3 (some .int) 1 21 D (vT5 cI cF cC cS cO) [.ref (q 0), .int x1, .int x2] (wR q cI u) (vQi D (wR q cI u0) r0) :=
  vM_of hE (by decide +kernel) (Nat.le_of_ble_eq_true rfl) (fun p e s m args below meth c A C hr => kX8_refuses_e C (vi_reti C hr) h)
-- ---- X8_isIn
def fX8_isIn (x1 : Int32) (x2 : Int32) (x3 : Int32) : Option (Int32) := (if x1 < x2 then some (0 : Int32) else (if x3 < x1 then some (0 : Int32) else some (1 : Int32)))
set_option maxRecDepth 100000 in
set_option maxHeartbeats 4000000 in
theorem kX8_isIn_e {E : (Nat → Prop) → State → Heap → Prop} {p : Program} {l : Launch} {e : Env} {s : State} {m : MethodId} {args : Array Value} {below : List Frame} {meth : Method} {c : Code} {A : Nat → Prop} {D : va_G} {cI cF cC cS cO : ClassId} {Q : State → Prop} (C : vC E p l s m args meth c A D (vT5 cI cF cC cS cO) cX8_isIn 3 RX8) {r0 : Int32} (RET : ∀ (pc : Nat) (lv : List (Nat × Value)), decode cX8_isIn pc = .ok (.ireturn, 1) → (r0 = 0 ∨ r0 = 1) → vV p l e { frames := 0, cells := 0, slots := 0, locals := 0 } s m args below meth c A D 3 0 0 Q [] pc lv [.int r0]) {x1 : Int32} {x2 : Int32} {x3 : Int32} (h : fX8_isIn x1 x2 x3 = some r0) : vV p l e { frames := 0, cells := 0, slots := 0, locals := 0 } s m args below meth c A D 3 0 0 Q [] 0 [(0, .int x1), (1, .int x2), (2, .int x3)] [] := by
  rw [fX8_isIn] at h
  refine vi_iload_n C 0 dX8_isIn_0 rfl ?_
  refine vi_iload_n C 1 dX8_isIn_1 rfl ?_
  refine vi_icmp_lt (tgt := 14) C dX8_isIn_2 (by decide) (fun hc1 => ?_) (fun hc1 => ?_)
  · have h := ob_t h hc1
    refine vi_iconst (v := 0) C dX8_isIn_14 (by decide) ?_
    exact vi_donez0  RET h (by decide) dX8_isIn_15
  · have h := ob_f h hc1
    refine vi_iload_n C 0 dX8_isIn_5 rfl ?_
    refine vi_iload_n C 2 dX8_isIn_6 rfl ?_
    refine vi_icmp_gt (tgt := 14) C dX8_isIn_7 (by decide) (fun hc2 => ?_) (fun hc2 => ?_)
    · have h := ob_t h hc2
      refine vi_iconst (v := 0) C dX8_isIn_14 (by decide) ?_
      exact vi_donez0  RET h (by decide) dX8_isIn_15
    · have h := ob_f h hc2
      refine vi_iconst (v := 1) C dX8_isIn_10 (by decide) ?_
      refine vi_goto (tgt := 15) C dX8_isIn_11 (by decide) ?_
      exact vi_donez0  RET h (by decide) dX8_isIn_15
theorem mX8_isIn {E : (Nat → Prop) → State → Heap → Prop} (hE : vEok E) {l : Launch} {D : va_G} {cI cF cC cS cO : ClassId} {r0 : Int32}  {x1 : Int32} {x2 : Int32} {x3 : Int32} (h : fX8_isIn x1 x2 x3 = some r0) : vM E l yX8_isIn cX8_isIn 3 (some .boolean) 0 0 D (vT5 cI cF cC cS cO) [.int x1, .int x2, .int x3] [] (vQi D [] r0) :=
  vM_of hE (by decide +kernel) (Nat.le_of_ble_eq_true rfl) (fun p e s m args below meth c A C hr => kX8_isIn_e C (vi_retzz C hr) h)
-- ---- X8_lays_2_1
def fX8_lays_2_1_2 : Nat → Int32 → vS → Option (vS)
  | 0, _, _ => none
  | n + 1, x1, u => (if (66 : Int32) ≤ x1 then some u else if x1 < 0 ∨ 66 ≤ Int32.toNatClampNeg x1 then none else if x1 < 0 ∨ 66 ≤ Int32.toNatClampNeg x1 then none else bd (up2 u 2 (Int32.toNatClampNeg x1) (u 1 (Int32.toNatClampNeg x1))) fun u4 => bd ((x1 + 1 : Int32)) fun y5 => fX8_lays_2_1_2 n y5 u4)
set_option maxRecDepth 100000 in
set_option maxHeartbeats 4000000 in
theorem kX8_lays_2_1_2 {E : (Nat → Prop) → State → Heap → Prop} {p : Program} {l : Launch} {e : Env} {s : State} {m : MethodId} {args : Array Value} {below : List Frame} {meth : Method} {c : Code} {A : Nat → Prop} {D : va_G} {cI cF cC cS cO : ClassId} {Q : State → Prop} {q : Nat → Nat} (C : vC E p l s m args meth c A D (vT5 cI cF cC cS cO) cX8_lays 3 RX8) {u0 : vS} (RET : ∀ (pc : Nat) (lv : List (Nat × Value)), decode cX8_lays pc = .ok (.return_, 1) → vV p l e { frames := 0, cells := 0, slots := 0, locals := 0 } s m args below meth c A D 3 0 0 Q (wR q cI u0) pc lv []) : ∀ (n : Nat) (x1 : Int32) (u : vS), fX8_lays_2_1_2 n x1 u = some u0 → vV p l e { frames := 0, cells := 0, slots := 0, locals := 0 } s m args below meth c A D 3 0 0 Q (wR q cI u) 2 [(0, .ref (q 2)), (1, .ref (q 1)), (2, .int x1)] [] := by
  intro n
  induction n with
  | zero => intro x1 u h; rw [fX8_lays_2_1_2] at h; cases h
  | succ n ih =>
    intro x1 u h
    rw [fX8_lays_2_1_2] at h
    refine vi_iload_n C 2 dX8_lays_2 rfl ?_
    refine vi_bipush (v := 66) C dX8_lays_3 (by decide) ?_
    refine vi_icmp_ge (tgt := 20) C dX8_lays_5 (by decide) (fun hc1 => ?_) (fun hc1 => ?_)
    · have h := ob_t h hc1
      exact vi_donev (W := wR q cI) RET h dX8_lays_20
    · have h := ob_f h hc1
      refine vi_aload_n C 0 dX8_lays_8 rfl ?_
      refine vi_iload_n C 2 dX8_lays_9 rfl ?_
      refine vi_aload_n C 1 dX8_lays_10 rfl ?_
      refine vi_iload_n C 2 dX8_lays_11 rfl ?_
      obtain ⟨hz2, h⟩ := ob_if h
      refine lR_1 (n := (Int32.toNatClampNeg x1)) C hz2 rfl dX8_lays_12 ?_
      obtain ⟨hz3, h⟩ := ob_if h
      obtain ⟨u4, eu4, h⟩ := ob_nm h
      refine sR_2 (n := (Int32.toNatClampNeg x1)) C hz3 rfl dX8_lays_13 eu4.symm ?_
      obtain ⟨y5, ey5, h⟩ := ob_nm h
      refine vi_iinc (v := y5) (lv' := [(2, .int y5), (0, .ref (q 2)), (1, .ref (q 1))]) C 2 dX8_lays_14 rfl (by rw [ey5]; rfl) (by decide) rfl ?_
      refine vi_goto (tgt := 2) C dX8_lays_17 (by decide) ?_
      refine vi_sub C [1, 2, 0] rfl ?_
      exact ih _ _ h
def fX8_lays_2_1 (u : vS) : Option (vS) := fX8_lays_2_1_2 vF (0 : Int32) u
set_option maxRecDepth 100000 in
set_option maxHeartbeats 4000000 in
theorem kX8_lays_2_1_e {E : (Nat → Prop) → State → Heap → Prop} {p : Program} {l : Launch} {e : Env} {s : State} {m : MethodId} {args : Array Value} {below : List Frame} {meth : Method} {c : Code} {A : Nat → Prop} {D : va_G} {cI cF cC cS cO : ClassId} {Q : State → Prop} {q : Nat → Nat} (C : vC E p l s m args meth c A D (vT5 cI cF cC cS cO) cX8_lays 3 RX8) {u0 : vS} (RET : ∀ (pc : Nat) (lv : List (Nat × Value)), decode cX8_lays pc = .ok (.return_, 1) → vV p l e { frames := 0, cells := 0, slots := 0, locals := 0 } s m args below meth c A D 3 0 0 Q (wR q cI u0) pc lv []) {u : vS} (h : fX8_lays_2_1 u = some u0) : vV p l e { frames := 0, cells := 0, slots := 0, locals := 0 } s m args below meth c A D 3 0 0 Q (wR q cI u) 0 [(0, .ref (q 2)), (1, .ref (q 1))] [] := by
  rw [fX8_lays_2_1] at h
  refine vi_iconst (v := 0) C dX8_lays_0 (by decide) ?_
  refine vi_istore_n (lv' := [(2, .int (0 : Int32)), (0, .ref (q 2)), (1, .ref (q 1))]) C dX8_lays_1 rfl (by decide) rfl ?_
  refine vi_sub C [1, 2, 0] rfl ?_
  exact kX8_lays_2_1_2 C RET  vF _ _ h
theorem mX8_lays_2_1 {E : (Nat → Prop) → State → Heap → Prop} (hE : vEok E) {l : Launch} {D : va_G} {cI cF cC cS cO : ClassId} {q : Nat → Nat} {u0 : vS}  {u : vS} (h : fX8_lays_2_1 u = some u0) : vM E l yX8_lays cX8_lays 3 none 0 0 D (vT5 cI cF cC cS cO) [.ref (q 2), .ref (q 1)] (wR q cI u) (vQv D (wR q cI u0)) :=
  vM_of hE (by decide +kernel) (Nat.le_of_ble_eq_true rfl) (fun p e s m args below meth c A C hr => kX8_lays_2_1_e C (vi_retv C hr) h)
-- ---- X8_begins
def fX8_begins (u : vS) : Option (vS) := bd (up2 u 0 0 (0 : Int32)) fun u1 => (fX8_lays_2_1 u1).bind fun u2 => some u2
set_option maxRecDepth 100000 in
set_option maxHeartbeats 4000000 in
theorem kX8_begins_e {E : (Nat → Prop) → State → Heap → Prop} {p : Program} {l : Launch} {e : Env} {s : State} {m : MethodId} {args : Array Value} {below : List Frame} {meth : Method} {c : Code} {A : Nat → Prop} {D : va_G} {cI cF cC cS cO : ClassId} {Q : State → Prop} {q : Nat → Nat} (C : vC E p l s m args meth c A D (vT5 cI cF cC cS cO) cX8_begins 1 RX8) {u0 : vS} (RET : ∀ (pc : Nat) (lv : List (Nat × Value)), decode cX8_begins pc = .ok (.return_, 1) → vV p l e { frames := 1, cells := 0, slots := 0, locals := 22 } s m args below meth c A D 1 0 0 Q (wR q cI u0) pc lv []) {u : vS} (h : fX8_begins u = some u0) : vV p l e { frames := 1, cells := 0, slots := 0, locals := 22 } s m args below meth c A D 1 0 0 Q (wR q cI u) 0 [(0, .ref (q 0))] [] := by
  rw [fX8_begins] at h
  refine vi_aload_n C 0 dX8_begins_0 rfl ?_
  refine vi_iconst (v := 0) C dX8_begins_1 (by decide) ?_
  obtain ⟨u1, eu1, h⟩ := ob_nm h
  refine pR_0 C dX8_begins_2 eu1.symm ?_
  refine vi_aload_n C 0 dX8_begins_5 rfl ?_
  refine gR_9 C dX8_begins_6 ?_
  refine vi_aload_n C 0 dX8_begins_9 rfl ?_
  refine gR_8 C dX8_begins_10 ?_
  obtain ⟨u2, hgu2, h⟩ := ob_bd h
  refine vR_callSv (As := [.ref (q 2), .ref (q 1)]) (rest := []) C (mX8_lays_2_1 C.2.2.2.2.2.2.2.2.1 hgu2) 2 rfl tcX8_lays tlX8_61 ttX8_lays tnX8 tdX8_lays ⟨Nat.le_of_ble_eq_true rfl, Nat.le_of_ble_eq_true rfl⟩ rfl (Nat.le_of_ble_eq_true rfl) dX8_begins_13 ?_
  exact vi_donev (W := wR q cI) RET h dX8_begins_16
theorem mX8_begins {E : (Nat → Prop) → State → Heap → Prop} (hE : vEok E) {l : Launch} {D : va_G} {cI cF cC cS cO : ClassId} {q : Nat → Nat} {u0 : vS}  {u : vS} (h : fX8_begins u = some u0) : vM E l yX8_begins cX8_begins 1 none 1 22 D (vT5 cI cF cC cS cO) [.ref (q 0)] (wR q cI u) (vQv D (wR q cI u0)) :=
  vM_of hE (by decide +kernel) (Nat.le_of_ble_eq_true rfl) (fun p e s m args below meth c A C hr => kX8_begins_e C (vi_retv C hr) h)
-- ---- X8_lays_1_2
def fX8_lays_1_2_2 : Nat → Int32 → vS → Option (vS)
  | 0, _, _ => none
  | n + 1, x1, u => (if (66 : Int32) ≤ x1 then some u else if x1 < 0 ∨ 66 ≤ Int32.toNatClampNeg x1 then none else if x1 < 0 ∨ 66 ≤ Int32.toNatClampNeg x1 then none else bd (up2 u 1 (Int32.toNatClampNeg x1) (u 2 (Int32.toNatClampNeg x1))) fun u4 => bd ((x1 + 1 : Int32)) fun y5 => fX8_lays_1_2_2 n y5 u4)
set_option maxRecDepth 100000 in
set_option maxHeartbeats 4000000 in
theorem kX8_lays_1_2_2 {E : (Nat → Prop) → State → Heap → Prop} {p : Program} {l : Launch} {e : Env} {s : State} {m : MethodId} {args : Array Value} {below : List Frame} {meth : Method} {c : Code} {A : Nat → Prop} {D : va_G} {cI cF cC cS cO : ClassId} {Q : State → Prop} {q : Nat → Nat} (C : vC E p l s m args meth c A D (vT5 cI cF cC cS cO) cX8_lays 3 RX8) {u0 : vS} (RET : ∀ (pc : Nat) (lv : List (Nat × Value)), decode cX8_lays pc = .ok (.return_, 1) → vV p l e { frames := 0, cells := 0, slots := 0, locals := 0 } s m args below meth c A D 3 0 0 Q (wR q cI u0) pc lv []) : ∀ (n : Nat) (x1 : Int32) (u : vS), fX8_lays_1_2_2 n x1 u = some u0 → vV p l e { frames := 0, cells := 0, slots := 0, locals := 0 } s m args below meth c A D 3 0 0 Q (wR q cI u) 2 [(0, .ref (q 1)), (1, .ref (q 2)), (2, .int x1)] [] := by
  intro n
  induction n with
  | zero => intro x1 u h; rw [fX8_lays_1_2_2] at h; cases h
  | succ n ih =>
    intro x1 u h
    rw [fX8_lays_1_2_2] at h
    refine vi_iload_n C 2 dX8_lays_2 rfl ?_
    refine vi_bipush (v := 66) C dX8_lays_3 (by decide) ?_
    refine vi_icmp_ge (tgt := 20) C dX8_lays_5 (by decide) (fun hc1 => ?_) (fun hc1 => ?_)
    · have h := ob_t h hc1
      exact vi_donev (W := wR q cI) RET h dX8_lays_20
    · have h := ob_f h hc1
      refine vi_aload_n C 0 dX8_lays_8 rfl ?_
      refine vi_iload_n C 2 dX8_lays_9 rfl ?_
      refine vi_aload_n C 1 dX8_lays_10 rfl ?_
      refine vi_iload_n C 2 dX8_lays_11 rfl ?_
      obtain ⟨hz2, h⟩ := ob_if h
      refine lR_2 (n := (Int32.toNatClampNeg x1)) C hz2 rfl dX8_lays_12 ?_
      obtain ⟨hz3, h⟩ := ob_if h
      obtain ⟨u4, eu4, h⟩ := ob_nm h
      refine sR_1 (n := (Int32.toNatClampNeg x1)) C hz3 rfl dX8_lays_13 eu4.symm ?_
      obtain ⟨y5, ey5, h⟩ := ob_nm h
      refine vi_iinc (v := y5) (lv' := [(2, .int y5), (0, .ref (q 1)), (1, .ref (q 2))]) C 2 dX8_lays_14 rfl (by rw [ey5]; rfl) (by decide) rfl ?_
      refine vi_goto (tgt := 2) C dX8_lays_17 (by decide) ?_
      refine vi_sub C [1, 2, 0] rfl ?_
      exact ih _ _ h
def fX8_lays_1_2 (u : vS) : Option (vS) := fX8_lays_1_2_2 vF (0 : Int32) u
set_option maxRecDepth 100000 in
set_option maxHeartbeats 4000000 in
theorem kX8_lays_1_2_e {E : (Nat → Prop) → State → Heap → Prop} {p : Program} {l : Launch} {e : Env} {s : State} {m : MethodId} {args : Array Value} {below : List Frame} {meth : Method} {c : Code} {A : Nat → Prop} {D : va_G} {cI cF cC cS cO : ClassId} {Q : State → Prop} {q : Nat → Nat} (C : vC E p l s m args meth c A D (vT5 cI cF cC cS cO) cX8_lays 3 RX8) {u0 : vS} (RET : ∀ (pc : Nat) (lv : List (Nat × Value)), decode cX8_lays pc = .ok (.return_, 1) → vV p l e { frames := 0, cells := 0, slots := 0, locals := 0 } s m args below meth c A D 3 0 0 Q (wR q cI u0) pc lv []) {u : vS} (h : fX8_lays_1_2 u = some u0) : vV p l e { frames := 0, cells := 0, slots := 0, locals := 0 } s m args below meth c A D 3 0 0 Q (wR q cI u) 0 [(0, .ref (q 1)), (1, .ref (q 2))] [] := by
  rw [fX8_lays_1_2] at h
  refine vi_iconst (v := 0) C dX8_lays_0 (by decide) ?_
  refine vi_istore_n (lv' := [(2, .int (0 : Int32)), (0, .ref (q 1)), (1, .ref (q 2))]) C dX8_lays_1 rfl (by decide) rfl ?_
  refine vi_sub C [1, 2, 0] rfl ?_
  exact kX8_lays_1_2_2 C RET  vF _ _ h
theorem mX8_lays_1_2 {E : (Nat → Prop) → State → Heap → Prop} (hE : vEok E) {l : Launch} {D : va_G} {cI cF cC cS cO : ClassId} {q : Nat → Nat} {u0 : vS}  {u : vS} (h : fX8_lays_1_2 u = some u0) : vM E l yX8_lays cX8_lays 3 none 0 0 D (vT5 cI cF cC cS cO) [.ref (q 1), .ref (q 2)] (wR q cI u) (vQv D (wR q cI u0)) :=
  vM_of hE (by decide +kernel) (Nat.le_of_ble_eq_true rfl) (fun p e s m args below meth c A C hr => kX8_lays_1_2_e C (vi_retv C hr) h)
-- ---- X8_ends
def fX8_ends_74 : Nat → Int32 → Int32 → vS → Option (Int32 × vS)
  | 0, _, _, _ => none
  | n + 1, x1, x2, u => (if (66 : Int32) ≤ x2 then bd (up2 u 0 1 ((u 0 1) + (1 : Int32))) fun u2 => some (x1, u2) else if x2 < 0 ∨ 66 ≤ Int32.toNatClampNeg x2 then none else if ((u 0 1) * (66 : Int32)) + x2 < 0 ∨ 528 ≤ Int32.toNatClampNeg (((u 0 1) * (66 : Int32)) + x2) then none else bd (up2 u 5 (Int32.toNatClampNeg (((u 0 1) * (66 : Int32)) + x2)) (u 2 (Int32.toNatClampNeg x2))) fun u5 => bd ((x2 + 1 : Int32)) fun y6 => fX8_ends_74 n x1 y6 u5)
set_option maxRecDepth 100000 in
set_option maxHeartbeats 4000000 in
theorem kX8_ends_74 {E : (Nat → Prop) → State → Heap → Prop} {p : Program} {l : Launch} {e : Env} {s : State} {m : MethodId} {args : Array Value} {below : List Frame} {meth : Method} {c : Code} {A : Nat → Prop} {D : va_G} {cI cF cC cS cO : ClassId} {Q : State → Prop} {q : Nat → Nat} (C : vC E p l s m args meth c A D (vT5 cI cF cC cS cO) cX8_ends 3 RX8) {r0 : Int32} {u0 : vS} (RET : ∀ (pc : Nat) (lv : List (Nat × Value)), decode cX8_ends pc = .ok (.ireturn, 1) → vV p l e { frames := 1, cells := 0, slots := 0, locals := 22 } s m args below meth c A D 3 0 0 Q (wR q cI u0) pc lv [.int r0]) : ∀ (n : Nat) (x1 : Int32) (x2 : Int32) (u : vS), fX8_ends_74 n x1 x2 u = some (r0, u0) → vV p l e { frames := 1, cells := 0, slots := 0, locals := 22 } s m args below meth c A D 3 0 0 Q (wR q cI u) 74 [(0, .ref (q 0)), (1, .int x1), (2, .int x2)] [] := by
  intro n
  induction n with
  | zero => intro x1 x2 u h; rw [fX8_ends_74] at h; cases h
  | succ n ih =>
    intro x1 x2 u h
    rw [fX8_ends_74] at h
    refine vi_iload_n C 2 dX8_ends_74 rfl ?_
    refine vi_bipush (v := 66) C dX8_ends_75 (by decide) ?_
    refine vi_icmp_ge (tgt := 106) C dX8_ends_77 (by decide) (fun hc1 => ?_) (fun hc1 => ?_)
    · have h := ob_t h hc1
      refine vi_aload_n C 0 dX8_ends_106 rfl ?_
      refine vi_dup C dX8_ends_107 rfl ?_
      refine gR_1 C dX8_ends_108 ?_
      refine vi_iconst (v := 1) C dX8_ends_111 (by decide) ?_
      refine vi_iadd C dX8_ends_112 ?_
      obtain ⟨u2, eu2, h⟩ := ob_nm h
      refine pR_1 C dX8_ends_113 eu2.symm ?_
      refine vi_iload_n C 1 dX8_ends_116 rfl ?_
      exact vi_donei (W := wR q cI) RET h dX8_ends_117
    · have h := ob_f h hc1
      refine vi_aload_n C 0 dX8_ends_80 rfl ?_
      refine gR_12 C dX8_ends_81 ?_
      refine vi_aload_n C 0 dX8_ends_84 rfl ?_
      refine gR_1 C dX8_ends_85 ?_
      refine vi_bipush (v := 66) C dX8_ends_88 (by decide) ?_
      refine vi_imul C dX8_ends_90 ?_
      refine vi_iload_n C 2 dX8_ends_91 rfl ?_
      refine vi_iadd C dX8_ends_92 ?_
      refine vi_aload_n C 0 dX8_ends_93 rfl ?_
      refine gR_9 C dX8_ends_94 ?_
      refine vi_iload_n C 2 dX8_ends_97 rfl ?_
      obtain ⟨hz3, h⟩ := ob_if h
      refine lR_2 (n := (Int32.toNatClampNeg x2)) C hz3 rfl dX8_ends_98 ?_
      obtain ⟨hz4, h⟩ := ob_if h
      obtain ⟨u5, eu5, h⟩ := ob_nm h
      refine sR_5 (n := (Int32.toNatClampNeg (((u 0 1) * (66 : Int32)) + x2))) C hz4 rfl dX8_ends_99 eu5.symm ?_
      obtain ⟨y6, ey6, h⟩ := ob_nm h
      refine vi_iinc (v := y6) (lv' := [(2, .int y6), (0, .ref (q 0)), (1, .int x1)]) C 2 dX8_ends_100 rfl (by rw [ey6]; rfl) (by decide) rfl ?_
      refine vi_goto (tgt := 74) C dX8_ends_103 (by decide) ?_
      refine vi_sub C [1, 2, 0] rfl ?_
      exact ih _ _ _ h
def fX8_ends_34 : Nat → Int32 → Int32 → vS → Option (Int32 × vS)
  | 0, _, _, _ => none
  | n + 1, x1, x2, u => (if (462 : Int32) ≤ x2 then bd (up2 u 0 1 ((u 0 1) - (1 : Int32))) fun u2 => fX8_ends_74 vF x1 (0 : Int32) u2 else if x2 + (66 : Int32) < 0 ∨ 528 ≤ Int32.toNatClampNeg (x2 + (66 : Int32)) then none else if x2 < 0 ∨ 528 ≤ Int32.toNatClampNeg x2 then none else bd (up2 u 5 (Int32.toNatClampNeg x2) (u 5 (Int32.toNatClampNeg (x2 + (66 : Int32))))) fun u5 => bd ((x2 + 1 : Int32)) fun y6 => fX8_ends_34 n x1 y6 u5)
set_option maxRecDepth 100000 in
set_option maxHeartbeats 4000000 in
theorem kX8_ends_34 {E : (Nat → Prop) → State → Heap → Prop} {p : Program} {l : Launch} {e : Env} {s : State} {m : MethodId} {args : Array Value} {below : List Frame} {meth : Method} {c : Code} {A : Nat → Prop} {D : va_G} {cI cF cC cS cO : ClassId} {Q : State → Prop} {q : Nat → Nat} (C : vC E p l s m args meth c A D (vT5 cI cF cC cS cO) cX8_ends 3 RX8) {r0 : Int32} {u0 : vS} (RET : ∀ (pc : Nat) (lv : List (Nat × Value)), decode cX8_ends pc = .ok (.ireturn, 1) → vV p l e { frames := 1, cells := 0, slots := 0, locals := 22 } s m args below meth c A D 3 0 0 Q (wR q cI u0) pc lv [.int r0]) : ∀ (n : Nat) (x1 : Int32) (x2 : Int32) (u : vS), fX8_ends_34 n x1 x2 u = some (r0, u0) → vV p l e { frames := 1, cells := 0, slots := 0, locals := 22 } s m args below meth c A D 3 0 0 Q (wR q cI u) 34 [(0, .ref (q 0)), (1, .int x1), (2, .int x2)] [] := by
  intro n
  induction n with
  | zero => intro x1 x2 u h; rw [fX8_ends_34] at h; cases h
  | succ n ih =>
    intro x1 x2 u h
    rw [fX8_ends_34] at h
    refine vi_iload_n C 2 dX8_ends_34 rfl ?_
    refine vi_sipush (v := 462) C dX8_ends_35 (by decide) ?_
    refine vi_icmp_ge (tgt := 62) C dX8_ends_38 (by decide) (fun hc1 => ?_) (fun hc1 => ?_)
    · have h := ob_t h hc1
      refine vi_aload_n C 0 dX8_ends_62 rfl ?_
      refine vi_dup C dX8_ends_63 rfl ?_
      refine gR_1 C dX8_ends_64 ?_
      refine vi_iconst (v := 1) C dX8_ends_67 (by decide) ?_
      refine vi_isub C dX8_ends_68 ?_
      obtain ⟨u2, eu2, h⟩ := ob_nm h
      refine pR_1 C dX8_ends_69 eu2.symm ?_
      refine vi_iconst (v := 0) C dX8_ends_72 (by decide) ?_
      refine vi_istore_n (lv' := [(2, .int (0 : Int32)), (0, .ref (q 0)), (1, .int x1)]) C dX8_ends_73 rfl (by decide) rfl ?_
      refine vi_sub C [1, 2, 0] rfl ?_
      exact kX8_ends_74 C RET  vF _ _ _ h
    · have h := ob_f h hc1
      refine vi_aload_n C 0 dX8_ends_41 rfl ?_
      refine gR_12 C dX8_ends_42 ?_
      refine vi_iload_n C 2 dX8_ends_45 rfl ?_
      refine vi_aload_n C 0 dX8_ends_46 rfl ?_
      refine gR_12 C dX8_ends_47 ?_
      refine vi_iload_n C 2 dX8_ends_50 rfl ?_
      refine vi_bipush (v := 66) C dX8_ends_51 (by decide) ?_
      refine vi_iadd C dX8_ends_53 ?_
      obtain ⟨hz3, h⟩ := ob_if h
      refine lR_5 (n := (Int32.toNatClampNeg (x2 + (66 : Int32)))) C hz3 rfl dX8_ends_54 ?_
      obtain ⟨hz4, h⟩ := ob_if h
      obtain ⟨u5, eu5, h⟩ := ob_nm h
      refine sR_5 (n := (Int32.toNatClampNeg x2)) C hz4 rfl dX8_ends_55 eu5.symm ?_
      obtain ⟨y6, ey6, h⟩ := ob_nm h
      refine vi_iinc (v := y6) (lv' := [(2, .int y6), (0, .ref (q 0)), (1, .int x1)]) C 2 dX8_ends_56 rfl (by rw [ey6]; rfl) (by decide) rfl ?_
      refine vi_goto (tgt := 34) C dX8_ends_59 (by decide) ?_
      refine vi_sub C [1, 2, 0] rfl ?_
      exact ih _ _ _ h
def fX8_ends (x1 : Int32) (u : vS) : Option (Int32 × vS) := (if u 0 0 = 0 then (if u 0 1 = (8 : Int32) then fX8_ends_34 vF x1 (0 : Int32) u else fX8_ends_74 vF x1 (0 : Int32) u) else (fX8_lays_1_2 u).bind fun u3 => some (u3 0 0, u3))
set_option maxRecDepth 100000 in
set_option maxHeartbeats 4000000 in
theorem kX8_ends_e {E : (Nat → Prop) → State → Heap → Prop} {p : Program} {l : Launch} {e : Env} {s : State} {m : MethodId} {args : Array Value} {below : List Frame} {meth : Method} {c : Code} {A : Nat → Prop} {D : va_G} {cI cF cC cS cO : ClassId} {Q : State → Prop} {q : Nat → Nat} (C : vC E p l s m args meth c A D (vT5 cI cF cC cS cO) cX8_ends 3 RX8) {r0 : Int32} {u0 : vS} (RET : ∀ (pc : Nat) (lv : List (Nat × Value)), decode cX8_ends pc = .ok (.ireturn, 1) → vV p l e { frames := 1, cells := 0, slots := 0, locals := 22 } s m args below meth c A D 3 0 0 Q (wR q cI u0) pc lv [.int r0]) {x1 : Int32} {u : vS} (h : fX8_ends x1 u = some (r0, u0)) : vV p l e { frames := 1, cells := 0, slots := 0, locals := 22 } s m args below meth c A D 3 0 0 Q (wR q cI u) 0 [(0, .ref (q 0)), (1, .int x1)] [] := by
  rw [fX8_ends] at h
  refine vi_aload_n C 0 dX8_ends_0 rfl ?_
  refine gR_0 C dX8_ends_1 ?_
  refine vi_if_eq (tgt := 23) C dX8_ends_4 (by decide) (fun hc1 => ?_) (fun hc1 => ?_)
  · have h := ob_t h hc1
    refine vi_aload_n C 0 dX8_ends_23 rfl ?_
    refine gR_1 C dX8_ends_24 ?_
    refine vi_bipush (v := 8) C dX8_ends_27 (by decide) ?_
    refine vi_icmp_ne (tgt := 72) C dX8_ends_29 (by decide) (fun hc2 => ?_) (fun hc2 => ?_)
    · have h := ob_f h hc2
      refine vi_iconst (v := 0) C dX8_ends_72 (by decide) ?_
      refine vi_istore_n (lv' := [(2, .int (0 : Int32)), (0, .ref (q 0)), (1, .int x1)]) C dX8_ends_73 rfl (by decide) rfl ?_
      refine vi_sub C [1, 2, 0] rfl ?_
      exact kX8_ends_74 C RET  vF _ _ _ h
    · have h := ob_t h hc2
      refine vi_iconst (v := 0) C dX8_ends_32 (by decide) ?_
      refine vi_istore_n (lv' := [(2, .int (0 : Int32)), (0, .ref (q 0)), (1, .int x1)]) C dX8_ends_33 rfl (by decide) rfl ?_
      refine vi_sub C [1, 2, 0] rfl ?_
      exact kX8_ends_34 C RET  vF _ _ _ h
  · have h := ob_f h hc1
    refine vi_aload_n C 0 dX8_ends_7 rfl ?_
    refine gR_8 C dX8_ends_8 ?_
    refine vi_aload_n C 0 dX8_ends_11 rfl ?_
    refine gR_9 C dX8_ends_12 ?_
    obtain ⟨u3, hgu3, h⟩ := ob_bd h
    refine vR_callSv (As := [.ref (q 1), .ref (q 2)]) (rest := []) C (mX8_lays_1_2 C.2.2.2.2.2.2.2.2.1 hgu3) 2 rfl tcX8_lays tlX8_61 ttX8_lays tnX8 tdX8_lays ⟨Nat.le_of_ble_eq_true rfl, Nat.le_of_ble_eq_true rfl⟩ rfl (Nat.le_of_ble_eq_true rfl) dX8_ends_15 ?_
    refine vi_aload_n C 0 dX8_ends_18 rfl ?_
    refine gR_0 C dX8_ends_19 ?_
    exact vi_donei (W := wR q cI) RET h dX8_ends_22
theorem mX8_ends {E : (Nat → Prop) → State → Heap → Prop} (hE : vEok E) {l : Launch} {D : va_G} {cI cF cC cS cO : ClassId} {q : Nat → Nat} {r0 : Int32} {u0 : vS}  {x1 : Int32} {u : vS} (h : fX8_ends x1 u = some (r0, u0)) : vM E l yX8_ends cX8_ends 3 (some .int) 1 22 D (vT5 cI cF cC cS cO) [.ref (q 0), .int x1] (wR q cI u) (vQi D (wR q cI u0) r0) :=
  vM_of hE (by decide +kernel) (Nat.le_of_ble_eq_true rfl) (fun p e s m args below meth c A C hr => kX8_ends_e C (vi_reti C hr) h)
-- ---- X8_at
def fX8_at (x1 : Int32) (x2 : Int32) : Option (Int32) := some (((12 : Int32) + ((3 : Int32) * x1)) + x2)
set_option maxRecDepth 100000 in
set_option maxHeartbeats 4000000 in
theorem kX8_at_e {E : (Nat → Prop) → State → Heap → Prop} {p : Program} {l : Launch} {e : Env} {s : State} {m : MethodId} {args : Array Value} {below : List Frame} {meth : Method} {c : Code} {A : Nat → Prop} {D : va_G} {cI cF cC cS cO : ClassId} {Q : State → Prop} (C : vC E p l s m args meth c A D (vT5 cI cF cC cS cO) cX8_at 2 RX8) {r0 : Int32} (RET : ∀ (pc : Nat) (lv : List (Nat × Value)), decode cX8_at pc = .ok (.ireturn, 1) → vV p l e { frames := 0, cells := 0, slots := 0, locals := 0 } s m args below meth c A D 2 0 0 Q [] pc lv [.int r0]) {x1 : Int32} {x2 : Int32} (h : fX8_at x1 x2 = some r0) : vV p l e { frames := 0, cells := 0, slots := 0, locals := 0 } s m args below meth c A D 2 0 0 Q [] 0 [(0, .int x1), (1, .int x2)] [] := by
  rw [fX8_at] at h
  refine vi_bipush (v := 12) C dX8_at_0 (by decide) ?_
  refine vi_iconst (v := 3) C dX8_at_2 (by decide) ?_
  refine vi_iload_n C 0 dX8_at_3 rfl ?_
  refine vi_imul C dX8_at_4 ?_
  refine vi_iadd C dX8_at_5 ?_
  refine vi_iload_n C 1 dX8_at_6 rfl ?_
  refine vi_iadd C dX8_at_7 ?_
  exact vi_donei0  RET h dX8_at_8
theorem mX8_at {E : (Nat → Prop) → State → Heap → Prop} (hE : vEok E) {l : Launch} {D : va_G} {cI cF cC cS cO : ClassId} {r0 : Int32}  {x1 : Int32} {x2 : Int32} (h : fX8_at x1 x2 = some r0) : vM E l yX8_at cX8_at 2 (some .int) 0 0 D (vT5 cI cF cC cS cO) [.int x1, .int x2] [] (vQi D [] r0) :=
  vM_of hE (by decide +kernel) (Nat.le_of_ble_eq_true rfl) (fun p e s m args below meth c A C hr => kX8_at_e C (vi_reti C hr) h)
-- ---- X8_isSailor
def fX8_isSailor (x1 : Int32) (u : vS) : Option (Int32 × vS) := (fX8_isIn x1 (0 : Int32) ((u 1 0) - (1 : Int32))).bind fun y1 => if y1 = 0 ∨ y1 = 1 then some (y1, u) else none
set_option maxRecDepth 100000 in
set_option maxHeartbeats 4000000 in
theorem kX8_isSailor_e {E : (Nat → Prop) → State → Heap → Prop} {p : Program} {l : Launch} {e : Env} {s : State} {m : MethodId} {args : Array Value} {below : List Frame} {meth : Method} {c : Code} {A : Nat → Prop} {D : va_G} {cI cF cC cS cO : ClassId} {Q : State → Prop} {q : Nat → Nat} (C : vC E p l s m args meth c A D (vT5 cI cF cC cS cO) cX8_isSailor 2 RX8) {r0 : Int32} {u0 : vS} (RET : ∀ (pc : Nat) (lv : List (Nat × Value)), decode cX8_isSailor pc = .ok (.ireturn, 1) → (r0 = 0 ∨ r0 = 1) → vV p l e { frames := 1, cells := 0, slots := 0, locals := 22 } s m args below meth c A D 2 0 0 Q (wR q cI u0) pc lv [.int r0]) {x1 : Int32} {u : vS} (h : fX8_isSailor x1 u = some (r0, u0)) : vV p l e { frames := 1, cells := 0, slots := 0, locals := 22 } s m args below meth c A D 2 0 0 Q (wR q cI u) 0 [(0, .ref (q 0)), (1, .int x1)] [] := by
  rw [fX8_isSailor] at h
  refine vi_iload_n C 1 dX8_isSailor_0 rfl ?_
  refine vi_iconst (v := 0) C dX8_isSailor_1 (by decide) ?_
  refine vi_aload_n C 0 dX8_isSailor_2 rfl ?_
  refine gR_8 C dX8_isSailor_3 ?_
  refine vi_iconst (v := 0) C dX8_isSailor_6 (by decide) ?_
  refine lR_1 (n := 0) C (by decide) rfl dX8_isSailor_7 ?_
  refine vi_iconst (v := 1) C dX8_isSailor_8 (by decide) ?_
  refine vi_isub C dX8_isSailor_9 ?_
  obtain ⟨y1, hgy1, h⟩ := ob_bd h
  refine vi_callS0i (As := [.int x1, .int (0 : Int32), .int ((u 1 0) - (1 : Int32))]) (rest := []) C (mX8_isIn C.2.2.2.2.2.2.2.2.1 hgy1) 3 rfl tcX8_isIn tlX8_68 ttX8_isIn tnX8 tdX8_isIn ⟨Nat.le_of_ble_eq_true rfl, Nat.le_of_ble_eq_true rfl⟩ rfl (Nat.le_of_ble_eq_true rfl) dX8_isSailor_10 ?_
  obtain ⟨hz2, h⟩ := ob_ok h
  exact vi_donez (W := wR q cI) RET h hz2 dX8_isSailor_13
theorem mX8_isSailor {E : (Nat → Prop) → State → Heap → Prop} (hE : vEok E) {l : Launch} {D : va_G} {cI cF cC cS cO : ClassId} {q : Nat → Nat} {r0 : Int32} {u0 : vS}  {x1 : Int32} {u : vS} (h : fX8_isSailor x1 u = some (r0, u0)) : vM E l yX8_isSailor cX8_isSailor 2 (some .boolean) 1 22 D (vT5 cI cF cC cS cO) [.ref (q 0), .int x1] (wR q cI u) (vQi D (wR q cI u0) r0) :=
  vM_of hE (by decide +kernel) (Nat.le_of_ble_eq_true rfl) (fun p e s m args below meth c A C hr => kX8_isSailor_e C (vi_retzz C hr) h)
-- ---- X8_isWatch
def fX8_isWatch (x1 : Int32) : Option (Int32) := (fX8_isIn x1 (0 : Int32) (3 : Int32)).bind fun y1 => if y1 = 0 ∨ y1 = 1 then some y1 else none
set_option maxRecDepth 100000 in
set_option maxHeartbeats 4000000 in
theorem kX8_isWatch_e {E : (Nat → Prop) → State → Heap → Prop} {p : Program} {l : Launch} {e : Env} {s : State} {m : MethodId} {args : Array Value} {below : List Frame} {meth : Method} {c : Code} {A : Nat → Prop} {D : va_G} {cI cF cC cS cO : ClassId} {Q : State → Prop} (C : vC E p l s m args meth c A D (vT5 cI cF cC cS cO) cX8_isWatch 1 RX8) {r0 : Int32} (RET : ∀ (pc : Nat) (lv : List (Nat × Value)), decode cX8_isWatch pc = .ok (.ireturn, 1) → (r0 = 0 ∨ r0 = 1) → vV p l e { frames := 1, cells := 0, slots := 0, locals := 22 } s m args below meth c A D 1 0 0 Q [] pc lv [.int r0]) {x1 : Int32} (h : fX8_isWatch x1 = some r0) : vV p l e { frames := 1, cells := 0, slots := 0, locals := 22 } s m args below meth c A D 1 0 0 Q [] 0 [(0, .int x1)] [] := by
  rw [fX8_isWatch] at h
  refine vi_iload_n C 0 dX8_isWatch_0 rfl ?_
  refine vi_iconst (v := 0) C dX8_isWatch_1 (by decide) ?_
  refine vi_iconst (v := 3) C dX8_isWatch_2 (by decide) ?_
  obtain ⟨y1, hgy1, h⟩ := ob_bd h
  refine vi_callS0i (As := [.int x1, .int (0 : Int32), .int (3 : Int32)]) (rest := []) C (mX8_isIn C.2.2.2.2.2.2.2.2.1 hgy1) 3 rfl tcX8_isIn tlX8_68 ttX8_isIn tnX8 tdX8_isIn ⟨Nat.le_of_ble_eq_true rfl, Nat.le_of_ble_eq_true rfl⟩ rfl (Nat.le_of_ble_eq_true rfl) dX8_isWatch_3 ?_
  obtain ⟨hz2, h⟩ := ob_ok h
  exact vi_donez0  RET h hz2 dX8_isWatch_6
theorem mX8_isWatch {E : (Nat → Prop) → State → Heap → Prop} (hE : vEok E) {l : Launch} {D : va_G} {cI cF cC cS cO : ClassId} {r0 : Int32}  {x1 : Int32} (h : fX8_isWatch x1 = some r0) : vM E l yX8_isWatch cX8_isWatch 1 (some .boolean) 1 22 D (vT5 cI cF cC cS cO) [.int x1] [] (vQi D [] r0) :=
  vM_of hE (by decide +kernel) (Nat.le_of_ble_eq_true rfl) (fun p e s m args below meth c A C hr => kX8_isWatch_e C (vi_retzz C hr) h)
-- ---- X8_isMood
def fX8_isMood (x1 : Int32) : Option (Int32) := (fX8_isIn x1 (0 : Int32) (65535 : Int32)).bind fun y1 => if y1 = 0 ∨ y1 = 1 then some y1 else none
set_option maxRecDepth 100000 in
set_option maxHeartbeats 4000000 in
theorem kX8_isMood_e {E : (Nat → Prop) → State → Heap → Prop} {p : Program} {l : Launch} {e : Env} {s : State} {m : MethodId} {args : Array Value} {below : List Frame} {meth : Method} {c : Code} {A : Nat → Prop} {D : va_G} {cI cF cC cS cO : ClassId} {Q : State → Prop} (C : vC E p l s m args meth c A D (vT5 cI cF cC cS cO) cX8_isMood 1 RX8) {r0 : Int32} (RET : ∀ (pc : Nat) (lv : List (Nat × Value)), decode cX8_isMood pc = .ok (.ireturn, 1) → (r0 = 0 ∨ r0 = 1) → vV p l e { frames := 1, cells := 0, slots := 0, locals := 22 } s m args below meth c A D 1 0 0 Q [] pc lv [.int r0]) {x1 : Int32} (h : fX8_isMood x1 = some r0) : vV p l e { frames := 1, cells := 0, slots := 0, locals := 22 } s m args below meth c A D 1 0 0 Q [] 0 [(0, .int x1)] [] := by
  rw [fX8_isMood] at h
  refine vi_iload_n C 0 dX8_isMood_0 rfl ?_
  refine vi_iconst (v := 0) C dX8_isMood_1 (by decide) ?_
  refine vi_ldc (v := 65535) C dX8_isMood_2 tkX8_72 ?_
  obtain ⟨y1, hgy1, h⟩ := ob_bd h
  refine vi_callS0i (As := [.int x1, .int (0 : Int32), .int (65535 : Int32)]) (rest := []) C (mX8_isIn C.2.2.2.2.2.2.2.2.1 hgy1) 3 rfl tcX8_isIn tlX8_68 ttX8_isIn tnX8 tdX8_isIn ⟨Nat.le_of_ble_eq_true rfl, Nat.le_of_ble_eq_true rfl⟩ rfl (Nat.le_of_ble_eq_true rfl) dX8_isMood_4 ?_
  obtain ⟨hz2, h⟩ := ob_ok h
  exact vi_donez0  RET h hz2 dX8_isMood_7
theorem mX8_isMood {E : (Nat → Prop) → State → Heap → Prop} (hE : vEok E) {l : Launch} {D : va_G} {cI cF cC cS cO : ClassId} {r0 : Int32}  {x1 : Int32} (h : fX8_isMood x1 = some r0) : vM E l yX8_isMood cX8_isMood 1 (some .boolean) 1 22 D (vT5 cI cF cC cS cO) [.int x1] [] (vQi D [] r0) :=
  vM_of hE (by decide +kernel) (Nat.le_of_ble_eq_true rfl) (fun p e s m args below meth c A C hr => kX8_isMood_e C (vi_retzz C hr) h)
-- ---- X8_bits
def fX8_bits_4 : Nat → Int32 → Int32 → Option (Int32)
  | 0, _, _ => none
  | n + 1, x1, x2 => (if x2 = 0 then some x1 else bd ((x1 + 1 : Int32)) fun y2 => bd ((x2 &&& (x2 - (1 : Int32)) : Int32)) fun y3 => fX8_bits_4 n y2 y3)
set_option maxRecDepth 100000 in
set_option maxHeartbeats 4000000 in
theorem kX8_bits_4 {E : (Nat → Prop) → State → Heap → Prop} {p : Program} {l : Launch} {e : Env} {s : State} {m : MethodId} {args : Array Value} {below : List Frame} {meth : Method} {c : Code} {A : Nat → Prop} {D : va_G} {cI cF cC cS cO : ClassId} {Q : State → Prop} (C : vC E p l s m args meth c A D (vT5 cI cF cC cS cO) cX8_bits 3 RX8) {r0 : Int32} (RET : ∀ (pc : Nat) (lv : List (Nat × Value)), decode cX8_bits pc = .ok (.ireturn, 1) → vV p l e { frames := 0, cells := 0, slots := 0, locals := 0 } s m args below meth c A D 3 0 0 Q [] pc lv [.int r0]) : ∀ (n : Nat) (x1 : Int32) (x2 : Int32), fX8_bits_4 n x1 x2 = some r0 → vV p l e { frames := 0, cells := 0, slots := 0, locals := 0 } s m args below meth c A D 3 0 0 Q [] 4 [(1, .int x1), (2, .int x2)] [] := by
  intro n
  induction n with
  | zero => intro x1 x2 h; rw [fX8_bits_4] at h; cases h
  | succ n ih =>
    intro x1 x2 h
    rw [fX8_bits_4] at h
    refine vi_iload_n C 1 dX8_bits_4 rfl ?_
    refine vi_if_eq (tgt := 20) C dX8_bits_5 (by decide) (fun hc1 => ?_) (fun hc1 => ?_)
    · have h := ob_t h hc1
      refine vi_iload_n C 0 dX8_bits_20 rfl ?_
      exact vi_donei0  RET h dX8_bits_21
    · have h := ob_f h hc1
      obtain ⟨y2, ey2, h⟩ := ob_nm h
      refine vi_iinc (v := y2) (lv' := [(1, .int y2), (2, .int x2)]) C 0 dX8_bits_8 rfl (by rw [ey2]; rfl) (by decide) rfl ?_
      refine vi_iload_n C 1 dX8_bits_11 rfl ?_
      refine vi_iload_n C 1 dX8_bits_12 rfl ?_
      refine vi_iconst (v := 1) C dX8_bits_13 (by decide) ?_
      refine vi_isub C dX8_bits_14 ?_
      refine vi_iand C dX8_bits_15 ?_
      obtain ⟨y3, ey3, h⟩ := ob_nm h
      refine vi_nmi ey3 ?_
      refine vi_istore_n (lv' := [(2, .int y3), (1, .int y2)]) C dX8_bits_16 rfl (by decide) rfl ?_
      refine vi_goto (tgt := 4) C dX8_bits_17 (by decide) ?_
      refine vi_sub C [1, 0] rfl ?_
      exact ih _ _ h
def fX8_bits (x1 : Int32) : Option (Int32) := fX8_bits_4 vF (0 : Int32) x1
set_option maxRecDepth 100000 in
set_option maxHeartbeats 4000000 in
theorem kX8_bits_e {E : (Nat → Prop) → State → Heap → Prop} {p : Program} {l : Launch} {e : Env} {s : State} {m : MethodId} {args : Array Value} {below : List Frame} {meth : Method} {c : Code} {A : Nat → Prop} {D : va_G} {cI cF cC cS cO : ClassId} {Q : State → Prop} (C : vC E p l s m args meth c A D (vT5 cI cF cC cS cO) cX8_bits 3 RX8) {r0 : Int32} (RET : ∀ (pc : Nat) (lv : List (Nat × Value)), decode cX8_bits pc = .ok (.ireturn, 1) → vV p l e { frames := 0, cells := 0, slots := 0, locals := 0 } s m args below meth c A D 3 0 0 Q [] pc lv [.int r0]) {x1 : Int32} (h : fX8_bits x1 = some r0) : vV p l e { frames := 0, cells := 0, slots := 0, locals := 0 } s m args below meth c A D 3 0 0 Q [] 0 [(0, .int x1)] [] := by
  rw [fX8_bits] at h
  refine vi_iconst (v := 0) C dX8_bits_0 (by decide) ?_
  refine vi_istore_n (lv' := [(1, .int (0 : Int32)), (0, .int x1)]) C dX8_bits_1 rfl (by decide) rfl ?_
  refine vi_iload_n C 1 dX8_bits_2 rfl ?_
  refine vi_istore_n (lv' := [(2, .int x1), (1, .int (0 : Int32)), (0, .int x1)]) C dX8_bits_3 rfl (by decide) rfl ?_
  refine vi_sub C [1, 0] rfl ?_
  exact kX8_bits_4 C RET  vF _ _ h
theorem mX8_bits {E : (Nat → Prop) → State → Heap → Prop} (hE : vEok E) {l : Launch} {D : va_G} {cI cF cC cS cO : ClassId} {r0 : Int32}  {x1 : Int32} (h : fX8_bits x1 = some r0) : vM E l yX8_bits cX8_bits 3 (some .int) 0 0 D (vT5 cI cF cC cS cO) [.int x1] [] (vQi D [] r0) :=
  vM_of hE (by decide +kernel) (Nat.le_of_ble_eq_true rfl) (fun p e s m args below meth c A C hr => kX8_bits_e C (vi_reti C hr) h)
-- ---- X8_cheer
def fX8_cheer (x1 : Int32) (u : vS) : Option (Int32 × vS) := (fX8_at x1 (0 : Int32)).bind fun y1 => if y1 < 0 ∨ 66 ≤ Int32.toNatClampNeg y1 then none else (fX8_bits ((u 1 (Int32.toNatClampNeg y1)) &&& (255 : Int32))).bind fun y3 => some (y3, u)
set_option maxRecDepth 100000 in
set_option maxHeartbeats 4000000 in
theorem kX8_cheer_e {E : (Nat → Prop) → State → Heap → Prop} {p : Program} {l : Launch} {e : Env} {s : State} {m : MethodId} {args : Array Value} {below : List Frame} {meth : Method} {c : Code} {A : Nat → Prop} {D : va_G} {cI cF cC cS cO : ClassId} {Q : State → Prop} {q : Nat → Nat} (C : vC E p l s m args meth c A D (vT5 cI cF cC cS cO) cX8_cheer 2 RX8) {r0 : Int32} {u0 : vS} (RET : ∀ (pc : Nat) (lv : List (Nat × Value)), decode cX8_cheer pc = .ok (.ireturn, 1) → vV p l e { frames := 1, cells := 0, slots := 0, locals := 22 } s m args below meth c A D 2 0 0 Q (wR q cI u0) pc lv [.int r0]) {x1 : Int32} {u : vS} (h : fX8_cheer x1 u = some (r0, u0)) : vV p l e { frames := 1, cells := 0, slots := 0, locals := 22 } s m args below meth c A D 2 0 0 Q (wR q cI u) 0 [(0, .ref (q 0)), (1, .int x1)] [] := by
  rw [fX8_cheer] at h
  refine vi_aload_n C 0 dX8_cheer_0 rfl ?_
  refine gR_8 C dX8_cheer_1 ?_
  refine vi_iload_n C 1 dX8_cheer_4 rfl ?_
  refine vi_iconst (v := 0) C dX8_cheer_5 (by decide) ?_
  obtain ⟨y1, hgy1, h⟩ := ob_bd h
  refine vi_callS0i (As := [.int x1, .int (0 : Int32)]) (rest := [.ref (q 1)]) C (mX8_at C.2.2.2.2.2.2.2.2.1 hgy1) 2 rfl tcX8_at tlX8_73 ttX8_at tnX8 tdX8_at ⟨Nat.le_of_ble_eq_true rfl, Nat.le_of_ble_eq_true rfl⟩ rfl (Nat.le_of_ble_eq_true rfl) dX8_cheer_6 ?_
  obtain ⟨hz2, h⟩ := ob_if h
  refine lR_1 (n := (Int32.toNatClampNeg y1)) C hz2 rfl dX8_cheer_9 ?_
  refine vi_sipush (v := 255) C dX8_cheer_10 (by decide) ?_
  refine vi_iand C dX8_cheer_13 ?_
  obtain ⟨y3, hgy3, h⟩ := ob_bd h
  refine vi_callS0i (As := [.int ((u 1 (Int32.toNatClampNeg y1)) &&& (255 : Int32))]) (rest := []) C (mX8_bits C.2.2.2.2.2.2.2.2.1 hgy3) 1 rfl tcX8_bits tlX8_77 ttX8_bits tnX8 tdX8_bits ⟨Nat.le_of_ble_eq_true rfl, Nat.le_of_ble_eq_true rfl⟩ rfl (Nat.le_of_ble_eq_true rfl) dX8_cheer_14 ?_
  exact vi_donei (W := wR q cI) RET h dX8_cheer_17
theorem mX8_cheer {E : (Nat → Prop) → State → Heap → Prop} (hE : vEok E) {l : Launch} {D : va_G} {cI cF cC cS cO : ClassId} {q : Nat → Nat} {r0 : Int32} {u0 : vS}  {x1 : Int32} {u : vS} (h : fX8_cheer x1 u = some (r0, u0)) : vM E l yX8_cheer cX8_cheer 2 (some .int) 1 22 D (vT5 cI cF cC cS cO) [.ref (q 0), .int x1] (wR q cI u) (vQi D (wR q cI u0) r0) :=
  vM_of hE (by decide +kernel) (Nat.le_of_ble_eq_true rfl) (fun p e s m args below meth c A C hr => kX8_cheer_e C (vi_reti C hr) h)
-- ---- X8_dread
def fX8_dread (x1 : Int32) (u : vS) : Option (Int32 × vS) := (fX8_at x1 (0 : Int32)).bind fun y1 => if y1 < 0 ∨ 66 ≤ Int32.toNatClampNeg y1 then none else (fX8_bits ((u 1 (Int32.toNatClampNeg y1)) >>> ((8 : Int32) &&& 31))).bind fun y3 => some (y3, u)
set_option maxRecDepth 100000 in
set_option maxHeartbeats 4000000 in
theorem kX8_dread_e {E : (Nat → Prop) → State → Heap → Prop} {p : Program} {l : Launch} {e : Env} {s : State} {m : MethodId} {args : Array Value} {below : List Frame} {meth : Method} {c : Code} {A : Nat → Prop} {D : va_G} {cI cF cC cS cO : ClassId} {Q : State → Prop} {q : Nat → Nat} (C : vC E p l s m args meth c A D (vT5 cI cF cC cS cO) cX8_dread 2 RX8) {r0 : Int32} {u0 : vS} (RET : ∀ (pc : Nat) (lv : List (Nat × Value)), decode cX8_dread pc = .ok (.ireturn, 1) → vV p l e { frames := 1, cells := 0, slots := 0, locals := 22 } s m args below meth c A D 2 0 0 Q (wR q cI u0) pc lv [.int r0]) {x1 : Int32} {u : vS} (h : fX8_dread x1 u = some (r0, u0)) : vV p l e { frames := 1, cells := 0, slots := 0, locals := 22 } s m args below meth c A D 2 0 0 Q (wR q cI u) 0 [(0, .ref (q 0)), (1, .int x1)] [] := by
  rw [fX8_dread] at h
  refine vi_aload_n C 0 dX8_dread_0 rfl ?_
  refine gR_8 C dX8_dread_1 ?_
  refine vi_iload_n C 1 dX8_dread_4 rfl ?_
  refine vi_iconst (v := 0) C dX8_dread_5 (by decide) ?_
  obtain ⟨y1, hgy1, h⟩ := ob_bd h
  refine vi_callS0i (As := [.int x1, .int (0 : Int32)]) (rest := [.ref (q 1)]) C (mX8_at C.2.2.2.2.2.2.2.2.1 hgy1) 2 rfl tcX8_at tlX8_73 ttX8_at tnX8 tdX8_at ⟨Nat.le_of_ble_eq_true rfl, Nat.le_of_ble_eq_true rfl⟩ rfl (Nat.le_of_ble_eq_true rfl) dX8_dread_6 ?_
  obtain ⟨hz2, h⟩ := ob_if h
  refine lR_1 (n := (Int32.toNatClampNeg y1)) C hz2 rfl dX8_dread_9 ?_
  refine vi_bipush (v := 8) C dX8_dread_10 (by decide) ?_
  refine vi_ishr C dX8_dread_12 ?_
  obtain ⟨y3, hgy3, h⟩ := ob_bd h
  refine vi_callS0i (As := [.int ((u 1 (Int32.toNatClampNeg y1)) >>> ((8 : Int32) &&& 31))]) (rest := []) C (mX8_bits C.2.2.2.2.2.2.2.2.1 hgy3) 1 rfl tcX8_bits tlX8_77 ttX8_bits tnX8 tdX8_bits ⟨Nat.le_of_ble_eq_true rfl, Nat.le_of_ble_eq_true rfl⟩ rfl (Nat.le_of_ble_eq_true rfl) dX8_dread_13 ?_
  exact vi_donei (W := wR q cI) RET h dX8_dread_16
theorem mX8_dread {E : (Nat → Prop) → State → Heap → Prop} (hE : vEok E) {l : Launch} {D : va_G} {cI cF cC cS cO : ClassId} {q : Nat → Nat} {r0 : Int32} {u0 : vS}  {x1 : Int32} {u : vS} (h : fX8_dread x1 u = some (r0, u0)) : vM E l yX8_dread cX8_dread 2 (some .int) 1 22 D (vT5 cI cF cC cS cO) [.ref (q 0), .int x1] (wR q cI u) (vQi D (wR q cI u0) r0) :=
  vM_of hE (by decide +kernel) (Nat.le_of_ble_eq_true rfl) (fun p e s m args below meth c A C hr => kX8_dread_e C (vi_reti C hr) h)
-- ---- X8_angled
def fX8_angled (x1 : Int32) (u : vS) : Option (Int32 × vS) := obp (fX8_cheer x1 u) fun y2 u1 => (fX8_at x1 (1 : Int32)).bind fun y3 => if y3 < 0 ∨ 66 ≤ Int32.toNatClampNeg y3 then none else obp (fX8_dread x1 u1) fun y6 u5 => (fX8_at x1 (2 : Int32)).bind fun y7 => if y7 < 0 ∨ 66 ≤ Int32.toNatClampNeg y7 then none else if (8 : Int32) + (u5 1 (Int32.toNatClampNeg y7)) < 0 ∨ 66 ≤ Int32.toNatClampNeg ((8 : Int32) + (u5 1 (Int32.toNatClampNeg y7))) then none else some (((y2 + (u1 1 (Int32.toNatClampNeg y3))) - y6) - (u5 1 (Int32.toNatClampNeg ((8 : Int32) + (u5 1 (Int32.toNatClampNeg y7))))), u5)
set_option maxRecDepth 100000 in
set_option maxHeartbeats 4000000 in
theorem kX8_angled_e {E : (Nat → Prop) → State → Heap → Prop} {p : Program} {l : Launch} {e : Env} {s : State} {m : MethodId} {args : Array Value} {below : List Frame} {meth : Method} {c : Code} {A : Nat → Prop} {D : va_G} {cI cF cC cS cO : ClassId} {Q : State → Prop} {q : Nat → Nat} (C : vC E p l s m args meth c A D (vT5 cI cF cC cS cO) cX8_angled 2 RX8) {r0 : Int32} {u0 : vS} (RET : ∀ (pc : Nat) (lv : List (Nat × Value)), decode cX8_angled pc = .ok (.ireturn, 1) → vV p l e { frames := 2, cells := 0, slots := 0, locals := 43 } s m args below meth c A D 2 0 0 Q (wR q cI u0) pc lv [.int r0]) {x1 : Int32} {u : vS} (h : fX8_angled x1 u = some (r0, u0)) : vV p l e { frames := 2, cells := 0, slots := 0, locals := 43 } s m args below meth c A D 2 0 0 Q (wR q cI u) 0 [(0, .ref (q 0)), (1, .int x1)] [] := by
  rw [fX8_angled] at h
  refine vi_aload_n C 0 dX8_angled_0 rfl ?_
  refine vi_iload_n C 1 dX8_angled_1 rfl ?_
  obtain ⟨y2, u1, hgu1, h⟩ := ob_p h
  refine vR_calli (As := [.int x1]) (rest := []) C (mX8_cheer C.2.2.2.2.2.2.2.2.1 hgu1) 1 rfl tcX8_cheer tlX8_80 tiX8_cheer tsX8_cheer rfl tnX8 tdX8_cheer ⟨Nat.le_of_ble_eq_true rfl, Nat.le_of_ble_eq_true rfl⟩ rfl (Nat.le_of_ble_eq_true rfl) dX8_angled_2 ?_
  refine vi_aload_n C 0 dX8_angled_5 rfl ?_
  refine gR_8 C dX8_angled_6 ?_
  refine vi_iload_n C 1 dX8_angled_9 rfl ?_
  refine vi_iconst (v := 1) C dX8_angled_10 (by decide) ?_
  obtain ⟨y3, hgy3, h⟩ := ob_bd h
  refine vi_callS0i (As := [.int x1, .int (1 : Int32)]) (rest := [.ref (q 1), .int y2]) C (mX8_at C.2.2.2.2.2.2.2.2.1 hgy3) 2 rfl tcX8_at tlX8_73 ttX8_at tnX8 tdX8_at ⟨Nat.le_of_ble_eq_true rfl, Nat.le_of_ble_eq_true rfl⟩ rfl (Nat.le_of_ble_eq_true rfl) dX8_angled_11 ?_
  obtain ⟨hz4, h⟩ := ob_if h
  refine lR_1 (n := (Int32.toNatClampNeg y3)) C hz4 rfl dX8_angled_14 ?_
  refine vi_iadd C dX8_angled_15 ?_
  refine vi_aload_n C 0 dX8_angled_16 rfl ?_
  refine vi_iload_n C 1 dX8_angled_17 rfl ?_
  obtain ⟨y6, u5, hgu5, h⟩ := ob_p h
  refine vR_calli (As := [.int x1]) (rest := [.int (y2 + (u1 1 (Int32.toNatClampNeg y3)))]) C (mX8_dread C.2.2.2.2.2.2.2.2.1 hgu5) 1 rfl tcX8_dread tlX8_83 tiX8_dread tsX8_dread rfl tnX8 tdX8_dread ⟨Nat.le_of_ble_eq_true rfl, Nat.le_of_ble_eq_true rfl⟩ rfl (Nat.le_of_ble_eq_true rfl) dX8_angled_18 ?_
  refine vi_isub C dX8_angled_21 ?_
  refine vi_aload_n C 0 dX8_angled_22 rfl ?_
  refine gR_8 C dX8_angled_23 ?_
  refine vi_bipush (v := 8) C dX8_angled_26 (by decide) ?_
  refine vi_aload_n C 0 dX8_angled_28 rfl ?_
  refine gR_8 C dX8_angled_29 ?_
  refine vi_iload_n C 1 dX8_angled_32 rfl ?_
  refine vi_iconst (v := 2) C dX8_angled_33 (by decide) ?_
  obtain ⟨y7, hgy7, h⟩ := ob_bd h
  refine vi_callS0i (As := [.int x1, .int (2 : Int32)]) (rest := [.ref (q 1), .int (8 : Int32), .ref (q 1), .int ((y2 + (u1 1 (Int32.toNatClampNeg y3))) - y6)]) C (mX8_at C.2.2.2.2.2.2.2.2.1 hgy7) 2 rfl tcX8_at tlX8_73 ttX8_at tnX8 tdX8_at ⟨Nat.le_of_ble_eq_true rfl, Nat.le_of_ble_eq_true rfl⟩ rfl (Nat.le_of_ble_eq_true rfl) dX8_angled_34 ?_
  obtain ⟨hz8, h⟩ := ob_if h
  refine lR_1 (n := (Int32.toNatClampNeg y7)) C hz8 rfl dX8_angled_37 ?_
  refine vi_iadd C dX8_angled_38 ?_
  obtain ⟨hz9, h⟩ := ob_if h
  refine lR_1 (n := (Int32.toNatClampNeg ((8 : Int32) + (u5 1 (Int32.toNatClampNeg y7))))) C hz9 rfl dX8_angled_39 ?_
  refine vi_isub C dX8_angled_40 ?_
  exact vi_donei (W := wR q cI) RET h dX8_angled_41
theorem mX8_angled {E : (Nat → Prop) → State → Heap → Prop} (hE : vEok E) {l : Launch} {D : va_G} {cI cF cC cS cO : ClassId} {q : Nat → Nat} {r0 : Int32} {u0 : vS}  {x1 : Int32} {u : vS} (h : fX8_angled x1 u = some (r0, u0)) : vM E l yX8_angled cX8_angled 2 (some .int) 2 43 D (vT5 cI cF cC cS cO) [.ref (q 0), .int x1] (wR q cI u) (vQi D (wR q cI u0) r0) :=
  vM_of hE (by decide +kernel) (Nat.le_of_ble_eq_true rfl) (fun p e s m args below meth c A C hr => kX8_angled_e C (vi_reti C hr) h)
-- ---- X8_reads
def fX8_reads (x1 : Int32) (u : vS) : Option (UInt32 × vS) := obp (fX8_angled x1 u) fun y2 u1 => if (FP.fdiv (FP.i2f (y2 + (u1 1 2))) (1082130432 : UInt32)) &&& 0x7fffffff ≤ 0x7f800000 then (fX8_at x1 (1 : Int32)).bind fun y4 => if y4 < 0 ∨ 66 ≤ Int32.toNatClampNeg y4 then none else if (FP.fdiv (FP.i2f (u1 1 (Int32.toNatClampNeg y4))) (1090519040 : UInt32)) &&& 0x7fffffff ≤ 0x7f800000 then if (FP.fsub (FP.fdiv (FP.i2f (y2 + (u1 1 2))) (1082130432 : UInt32)) (FP.fdiv (FP.i2f (u1 1 (Int32.toNatClampNeg y4))) (1090519040 : UInt32))) &&& 0x7fffffff ≤ 0x7f800000 then some (FP.fsub (FP.fdiv (FP.i2f (y2 + (u1 1 2))) (1082130432 : UInt32)) (FP.fdiv (FP.i2f (u1 1 (Int32.toNatClampNeg y4))) (1090519040 : UInt32)), u1) else none else none else none
set_option maxRecDepth 100000 in
set_option maxHeartbeats 4000000 in
theorem kX8_reads_e {E : (Nat → Prop) → State → Heap → Prop} {p : Program} {l : Launch} {e : Env} {s : State} {m : MethodId} {args : Array Value} {below : List Frame} {meth : Method} {c : Code} {A : Nat → Prop} {D : va_G} {cI cF cC cS cO : ClassId} {Q : State → Prop} {q : Nat → Nat} (C : vC E p l s m args meth c A D (vT5 cI cF cC cS cO) cX8_reads 2 RX8) {r0 : UInt32} {u0 : vS} (RET : ∀ (pc : Nat) (lv : List (Nat × Value)), decode cX8_reads pc = .ok (.freturn, 1) → vV p l e { frames := 3, cells := 0, slots := 0, locals := 64 } s m args below meth c A D 2 0 0 Q (wR q cI u0) pc lv [.float r0]) {x1 : Int32} {u : vS} (h : fX8_reads x1 u = some (r0, u0)) : vV p l e { frames := 3, cells := 0, slots := 0, locals := 64 } s m args below meth c A D 2 0 0 Q (wR q cI u) 0 [(0, .ref (q 0)), (1, .int x1)] [] := by
  rw [fX8_reads] at h
  refine vi_aload_n C 0 dX8_reads_0 rfl ?_
  refine vi_iload_n C 1 dX8_reads_1 rfl ?_
  obtain ⟨y2, u1, hgu1, h⟩ := ob_p h
  refine vR_calli (As := [.int x1]) (rest := []) C (mX8_angled C.2.2.2.2.2.2.2.2.1 hgu1) 1 rfl tcX8_angled tlX8_86 tiX8_angled tsX8_angled rfl tnX8 tdX8_angled ⟨Nat.le_of_ble_eq_true rfl, Nat.le_of_ble_eq_true rfl⟩ rfl (Nat.le_of_ble_eq_true rfl) dX8_reads_2 ?_
  refine vi_aload_n C 0 dX8_reads_5 rfl ?_
  refine gR_8 C dX8_reads_6 ?_
  refine vi_iconst (v := 2) C dX8_reads_9 (by decide) ?_
  refine lR_1 (n := 2) C (by decide) rfl dX8_reads_10 ?_
  refine vi_iadd C dX8_reads_11 ?_
  refine vi_i2f C dX8_reads_12 ?_
  refine vi_ldcf (v := 1082130432) C dX8_reads_13 tkX8_89 ?_
  obtain ⟨hz3, h⟩ := ob_ok h
  refine vi_fdiv C dX8_reads_15 hz3 ?_
  refine vi_aload_n C 0 dX8_reads_16 rfl ?_
  refine gR_8 C dX8_reads_17 ?_
  refine vi_iload_n C 1 dX8_reads_20 rfl ?_
  refine vi_iconst (v := 1) C dX8_reads_21 (by decide) ?_
  obtain ⟨y4, hgy4, h⟩ := ob_bd h
  refine vi_callS0i (As := [.int x1, .int (1 : Int32)]) (rest := [.ref (q 1), .float (FP.fdiv (FP.i2f (y2 + (u1 1 2))) (1082130432 : UInt32))]) C (mX8_at C.2.2.2.2.2.2.2.2.1 hgy4) 2 rfl tcX8_at tlX8_73 ttX8_at tnX8 tdX8_at ⟨Nat.le_of_ble_eq_true rfl, Nat.le_of_ble_eq_true rfl⟩ rfl (Nat.le_of_ble_eq_true rfl) dX8_reads_22 ?_
  obtain ⟨hz5, h⟩ := ob_if h
  refine lR_1 (n := (Int32.toNatClampNeg y4)) C hz5 rfl dX8_reads_25 ?_
  refine vi_i2f C dX8_reads_26 ?_
  refine vi_ldcf (v := 1090519040) C dX8_reads_27 tkX8_90 ?_
  obtain ⟨hz6, h⟩ := ob_ok h
  refine vi_fdiv C dX8_reads_29 hz6 ?_
  obtain ⟨hz7, h⟩ := ob_ok h
  refine vi_fsub C dX8_reads_30 hz7 ?_
  exact vi_donef (W := wR q cI) RET h dX8_reads_31
theorem mX8_reads {E : (Nat → Prop) → State → Heap → Prop} (hE : vEok E) {l : Launch} {D : va_G} {cI cF cC cS cO : ClassId} {q : Nat → Nat} {r0 : UInt32} {u0 : vS}  {x1 : Int32} {u : vS} (h : fX8_reads x1 u = some (r0, u0)) : vM E l yX8_reads cX8_reads 2 (some .float) 3 64 D (vT5 cI cF cC cS cO) [.ref (q 0), .int x1] (wR q cI u) (vQf D (wR q cI u0) r0) :=
  vM_of hE (by decide +kernel) (Nat.le_of_ble_eq_true rfl) (fun p e s m args below meth c A C hr => kX8_reads_e C (vi_retf C hr) h)
-- ---- X8_comes
def fX8_comes (x1 : Int32) (u : vS) : Option (Int32 × vS) := (fX8_isMood x1).bind fun y1 => (if y1 = 0 then obp (fX8_fail (-100002 : Int32) u) fun y18 u17 => some (y18, u17) else bd ((u 1 0 : Int32)) fun y3 => (if y3 = (8 : Int32) then obp (fX8_refuses (1 : Int32) (8 : Int32) u) fun y16 u15 => some (y16, u15) else (fX8_at y3 (0 : Int32)).bind fun y5 => if y5 < 0 ∨ 66 ≤ Int32.toNatClampNeg y5 then none else bd (up2 u 1 (Int32.toNatClampNeg y5) x1) fun u7 => (fX8_at y3 (1 : Int32)).bind fun y8 => if y8 < 0 ∨ 66 ≤ Int32.toNatClampNeg y8 then none else bd (up2 u7 1 (Int32.toNatClampNeg y8) (0 : Int32)) fun u10 => (fX8_at y3 (2 : Int32)).bind fun y11 => if y11 < 0 ∨ 66 ≤ Int32.toNatClampNeg y11 then none else bd (up2 u10 1 (Int32.toNatClampNeg y11) (0 : Int32)) fun u13 => bd (up2 u13 1 0 ((u13 1 0) + (1 : Int32))) fun u14 => some (y3, u14)))
set_option maxRecDepth 100000 in
set_option maxHeartbeats 4000000 in
theorem kX8_comes_e {E : (Nat → Prop) → State → Heap → Prop} {p : Program} {l : Launch} {e : Env} {s : State} {m : MethodId} {args : Array Value} {below : List Frame} {meth : Method} {c : Code} {A : Nat → Prop} {D : va_G} {cI cF cC cS cO : ClassId} {Q : State → Prop} {q : Nat → Nat} (C : vC E p l s m args meth c A D (vT5 cI cF cC cS cO) cX8_comes 3 RX8) {r0 : Int32} {u0 : vS} (RET : ∀ (pc : Nat) (lv : List (Nat × Value)), decode cX8_comes pc = .ok (.ireturn, 1) → vV p l e { frames := 2, cells := 0, slots := 0, locals := 43 } s m args below meth c A D 3 0 0 Q (wR q cI u0) pc lv [.int r0]) {x1 : Int32} {u : vS} (h : fX8_comes x1 u = some (r0, u0)) : vV p l e { frames := 2, cells := 0, slots := 0, locals := 43 } s m args below meth c A D 3 0 0 Q (wR q cI u) 0 [(0, .ref (q 0)), (1, .int x1)] [] := by
  rw [fX8_comes] at h
  refine vi_iload_n C 1 dX8_comes_0 rfl ?_
  obtain ⟨y1, hgy1, h⟩ := ob_bd h
  refine vi_callS0i (As := [.int x1]) (rest := []) C (mX8_isMood C.2.2.2.2.2.2.2.2.1 hgy1) 1 rfl tcX8_isMood tlX8_91 ttX8_isMood tnX8 tdX8_isMood ⟨Nat.le_of_ble_eq_true rfl, Nat.le_of_ble_eq_true rfl⟩ rfl (Nat.le_of_ble_eq_true rfl) dX8_comes_1 ?_
  refine vi_if_ne (tgt := 14) C dX8_comes_4 (by decide) (fun hc2 => ?_) (fun hc2 => ?_)
  · have h := ob_f h hc2
    refine vi_aload_n C 0 dX8_comes_14 rfl ?_
    refine gR_8 C dX8_comes_15 ?_
    refine vi_iconst (v := 0) C dX8_comes_18 (by decide) ?_
    refine lR_1 (n := 0) C (by decide) rfl dX8_comes_19 ?_
    obtain ⟨y3, ey3, h⟩ := ob_nm h
    refine vi_nmi ey3 ?_
    refine vi_istore_n (lv' := [(2, .int y3), (0, .ref (q 0)), (1, .int x1)]) C dX8_comes_20 rfl (by decide) rfl ?_
    refine vi_iload_n C 0 dX8_comes_21 rfl ?_
    refine vi_bipush (v := 8) C dX8_comes_22 (by decide) ?_
    refine vi_icmp_ne (tgt := 35) C dX8_comes_24 (by decide) (fun hc4 => ?_) (fun hc4 => ?_)
    · have h := ob_f h hc4
      refine vi_aload_n C 1 dX8_comes_35 rfl ?_
      refine gR_8 C dX8_comes_36 ?_
      refine vi_iload_n C 0 dX8_comes_39 rfl ?_
      refine vi_iconst (v := 0) C dX8_comes_40 (by decide) ?_
      obtain ⟨y5, hgy5, h⟩ := ob_bd h
      refine vi_callS0i (As := [.int y3, .int (0 : Int32)]) (rest := [.ref (q 1)]) C (mX8_at C.2.2.2.2.2.2.2.2.1 hgy5) 2 rfl tcX8_at tlX8_73 ttX8_at tnX8 tdX8_at ⟨Nat.le_of_ble_eq_true rfl, Nat.le_of_ble_eq_true rfl⟩ rfl (Nat.le_of_ble_eq_true rfl) dX8_comes_41 ?_
      refine vi_iload_n C 2 dX8_comes_44 rfl ?_
      obtain ⟨hz6, h⟩ := ob_if h
      obtain ⟨u7, eu7, h⟩ := ob_nm h
      refine sR_1 (n := (Int32.toNatClampNeg y5)) C hz6 rfl dX8_comes_45 eu7.symm ?_
      refine vi_aload_n C 1 dX8_comes_46 rfl ?_
      refine gR_8 C dX8_comes_47 ?_
      refine vi_iload_n C 0 dX8_comes_50 rfl ?_
      refine vi_iconst (v := 1) C dX8_comes_51 (by decide) ?_
      obtain ⟨y8, hgy8, h⟩ := ob_bd h
      refine vi_callS0i (As := [.int y3, .int (1 : Int32)]) (rest := [.ref (q 1)]) C (mX8_at C.2.2.2.2.2.2.2.2.1 hgy8) 2 rfl tcX8_at tlX8_73 ttX8_at tnX8 tdX8_at ⟨Nat.le_of_ble_eq_true rfl, Nat.le_of_ble_eq_true rfl⟩ rfl (Nat.le_of_ble_eq_true rfl) dX8_comes_52 ?_
      refine vi_iconst (v := 0) C dX8_comes_55 (by decide) ?_
      obtain ⟨hz9, h⟩ := ob_if h
      obtain ⟨u10, eu10, h⟩ := ob_nm h
      refine sR_1 (n := (Int32.toNatClampNeg y8)) C hz9 rfl dX8_comes_56 eu10.symm ?_
      refine vi_aload_n C 1 dX8_comes_57 rfl ?_
      refine gR_8 C dX8_comes_58 ?_
      refine vi_iload_n C 0 dX8_comes_61 rfl ?_
      refine vi_iconst (v := 2) C dX8_comes_62 (by decide) ?_
      obtain ⟨y11, hgy11, h⟩ := ob_bd h
      refine vi_callS0i (As := [.int y3, .int (2 : Int32)]) (rest := [.ref (q 1)]) C (mX8_at C.2.2.2.2.2.2.2.2.1 hgy11) 2 rfl tcX8_at tlX8_73 ttX8_at tnX8 tdX8_at ⟨Nat.le_of_ble_eq_true rfl, Nat.le_of_ble_eq_true rfl⟩ rfl (Nat.le_of_ble_eq_true rfl) dX8_comes_63 ?_
      refine vi_iconst (v := 0) C dX8_comes_66 (by decide) ?_
      obtain ⟨hz12, h⟩ := ob_if h
      obtain ⟨u13, eu13, h⟩ := ob_nm h
      refine sR_1 (n := (Int32.toNatClampNeg y11)) C hz12 rfl dX8_comes_67 eu13.symm ?_
      refine vi_aload_n C 1 dX8_comes_68 rfl ?_
      refine gR_8 C dX8_comes_69 ?_
      refine vi_iconst (v := 0) C dX8_comes_72 (by decide) ?_
      refine vi_dup2 C dX8_comes_73 rfl rfl ?_
      refine lR_1 (n := 0) C (by decide) rfl dX8_comes_74 ?_
      refine vi_iconst (v := 1) C dX8_comes_75 (by decide) ?_
      refine vi_iadd C dX8_comes_76 ?_
      obtain ⟨u14, eu14, h⟩ := ob_nm h
      refine sR_1 (n := 0) C (by decide) rfl dX8_comes_77 eu14.symm ?_
      refine vi_iload_n C 0 dX8_comes_78 rfl ?_
      exact vi_donei (W := wR q cI) RET h dX8_comes_79
    · have h := ob_t h hc4
      refine vi_aload_n C 1 dX8_comes_27 rfl ?_
      refine vi_iconst (v := 1) C dX8_comes_28 (by decide) ?_
      refine vi_bipush (v := 8) C dX8_comes_29 (by decide) ?_
      obtain ⟨y16, u15, hgu15, h⟩ := ob_p h
      refine vR_calli (As := [.int (1 : Int32), .int (8 : Int32)]) (rest := []) C (mX8_refuses C.2.2.2.2.2.2.2.2.1 hgu15) 2 rfl tcX8_refuses tlX8_96 tiX8_refuses tsX8_refuses rfl tnX8 tdX8_refuses ⟨Nat.le_of_ble_eq_true rfl, Nat.le_of_ble_eq_true rfl⟩ rfl (Nat.le_of_ble_eq_true rfl) dX8_comes_31 ?_
      exact vi_donei (W := wR q cI) RET h dX8_comes_34
  · have h := ob_t h hc2
    refine vi_aload_n C 0 dX8_comes_7 rfl ?_
    refine vi_ldc (v := (-100002)) C dX8_comes_8 tkX8_95 ?_
    obtain ⟨y18, u17, hgu17, h⟩ := ob_p h
    refine vR_calli (As := [.int (-100002 : Int32)]) (rest := []) C (mX8_fail C.2.2.2.2.2.2.2.2.1 hgu17) 1 rfl tcX8_fail tlX8_57 tiX8_fail tsX8_fail rfl tnX8 tdX8_fail ⟨Nat.le_of_ble_eq_true rfl, Nat.le_of_ble_eq_true rfl⟩ rfl (Nat.le_of_ble_eq_true rfl) dX8_comes_10 ?_
    exact vi_donei (W := wR q cI) RET h dX8_comes_13
theorem mX8_comes {E : (Nat → Prop) → State → Heap → Prop} (hE : vEok E) {l : Launch} {D : va_G} {cI cF cC cS cO : ClassId} {q : Nat → Nat} {r0 : Int32} {u0 : vS}  {x1 : Int32} {u : vS} (h : fX8_comes x1 u = some (r0, u0)) : vM E l yX8_comes cX8_comes 3 (some .int) 2 43 D (vT5 cI cF cC cS cO) [.ref (q 0), .int x1] (wR q cI u) (vQi D (wR q cI u0) r0) :=
  vM_of hE (by decide +kernel) (Nat.le_of_ble_eq_true rfl) (fun p e s m args below meth c A C hr => kX8_comes_e C (vi_reti C hr) h)
-- ---- X8_sail
def fX8_sail (x1 : Int32) (u : vS) : Option (Int32 × vS) := (fX8_begins u).bind fun u1 => obp (fX8_comes x1 u1) fun y3 u2 => obp (fX8_ends y3 u2) fun y5 u4 => some (y5, u4)
set_option maxRecDepth 100000 in
set_option maxHeartbeats 4000000 in
theorem kX8_sail_e {E : (Nat → Prop) → State → Heap → Prop} {p : Program} {l : Launch} {e : Env} {s : State} {m : MethodId} {args : Array Value} {below : List Frame} {meth : Method} {c : Code} {A : Nat → Prop} {D : va_G} {cI cF cC cS cO : ClassId} {Q : State → Prop} {q : Nat → Nat} (C : vC E p l s m args meth c A D (vT5 cI cF cC cS cO) cX8_sail 2 RX8) {r0 : Int32} {u0 : vS} (RET : ∀ (pc : Nat) (lv : List (Nat × Value)), decode cX8_sail pc = .ok (.ireturn, 1) → vV p l e { frames := 3, cells := 0, slots := 0, locals := 65 } s m args below meth c A D 2 0 0 Q (wR q cI u0) pc lv [.int r0]) {x1 : Int32} {u : vS} (h : fX8_sail x1 u = some (r0, u0)) : vV p l e { frames := 3, cells := 0, slots := 0, locals := 65 } s m args below meth c A D 2 0 0 Q (wR q cI u) 0 [(0, .ref (q 0)), (1, .int x1)] [] := by
  rw [fX8_sail] at h
  refine vi_aload_n C 0 dX8_sail_0 rfl ?_
  obtain ⟨u1, hgu1, h⟩ := ob_bd h
  refine vR_callv (As := []) (rest := []) C (mX8_begins C.2.2.2.2.2.2.2.2.1 hgu1) 0 rfl tcX8_begins tlX8_99 tiX8_begins tsX8_begins rfl tnX8 tdX8_begins ⟨Nat.le_of_ble_eq_true rfl, Nat.le_of_ble_eq_true rfl⟩ rfl (Nat.le_of_ble_eq_true rfl) dX8_sail_1 ?_
  refine vi_aload_n C 0 dX8_sail_4 rfl ?_
  refine vi_aload_n C 0 dX8_sail_5 rfl ?_
  refine vi_iload_n C 1 dX8_sail_6 rfl ?_
  obtain ⟨y3, u2, hgu2, h⟩ := ob_p h
  refine vR_calli (As := [.int x1]) (rest := [.ref (q 0)]) C (mX8_comes C.2.2.2.2.2.2.2.2.1 hgu2) 1 rfl tcX8_comes tlX8_102 tiX8_comes tsX8_comes rfl tnX8 tdX8_comes ⟨Nat.le_of_ble_eq_true rfl, Nat.le_of_ble_eq_true rfl⟩ rfl (Nat.le_of_ble_eq_true rfl) dX8_sail_7 ?_
  obtain ⟨y5, u4, hgu4, h⟩ := ob_p h
  refine vR_calli (As := [.int y3]) (rest := []) C (mX8_ends C.2.2.2.2.2.2.2.2.1 hgu4) 1 rfl tcX8_ends tlX8_105 tiX8_ends tsX8_ends rfl tnX8 tdX8_ends ⟨Nat.le_of_ble_eq_true rfl, Nat.le_of_ble_eq_true rfl⟩ rfl (Nat.le_of_ble_eq_true rfl) dX8_sail_10 ?_
  exact vi_donei (W := wR q cI) RET h dX8_sail_13
theorem mX8_sail {E : (Nat → Prop) → State → Heap → Prop} (hE : vEok E) {l : Launch} {D : va_G} {cI cF cC cS cO : ClassId} {q : Nat → Nat} {r0 : Int32} {u0 : vS}  {x1 : Int32} {u : vS} (h : fX8_sail x1 u = some (r0, u0)) : vM E l yX8_sail cX8_sail 2 (some .int) 3 65 D (vT5 cI cF cC cS cO) [.ref (q 0), .int x1] (wR q cI u) (vQi D (wR q cI u0) r0) :=
  vM_of hE (by decide +kernel) (Nat.le_of_ble_eq_true rfl) (fun p e s m args below meth c A C hr => kX8_sail_e C (vi_reti C hr) h)
-- ---- X8_forgets
def fX8_forgets_7 : Nat → Int32 → vS → Option (vS)
  | 0, _, _ => none
  | n + 1, x1, u => (if (66 : Int32) ≤ x1 then bd (up2 u 1 3 ((u 1 3) - (1 : Int32))) fun u2 => some u2 else (if (66 : Int32) ≤ x1 + (3 : Int32) then if x1 < 0 ∨ 66 ≤ Int32.toNatClampNeg x1 then none else bd (up2 u 1 (Int32.toNatClampNeg x1) (0 : Int32)) fun u5 => bd ((x1 + 1 : Int32)) fun y6 => fX8_forgets_7 n y6 u5 else if x1 + (3 : Int32) < 0 ∨ 66 ≤ Int32.toNatClampNeg (x1 + (3 : Int32)) then none else if x1 < 0 ∨ 66 ≤ Int32.toNatClampNeg x1 then none else bd (up2 u 1 (Int32.toNatClampNeg x1) (u 1 (Int32.toNatClampNeg (x1 + (3 : Int32))))) fun u9 => bd ((x1 + 1 : Int32)) fun y10 => fX8_forgets_7 n y10 u9))
set_option maxRecDepth 100000 in
set_option maxHeartbeats 4000000 in
theorem kX8_forgets_7 {E : (Nat → Prop) → State → Heap → Prop} {p : Program} {l : Launch} {e : Env} {s : State} {m : MethodId} {args : Array Value} {below : List Frame} {meth : Method} {c : Code} {A : Nat → Prop} {D : va_G} {cI cF cC cS cO : ClassId} {Q : State → Prop} {q : Nat → Nat} (C : vC E p l s m args meth c A D (vT5 cI cF cC cS cO) cX8_forgets 3 RX8) {u0 : vS} (RET : ∀ (pc : Nat) (lv : List (Nat × Value)), decode cX8_forgets pc = .ok (.return_, 1) → vV p l e { frames := 0, cells := 0, slots := 0, locals := 0 } s m args below meth c A D 3 0 0 Q (wR q cI u0) pc lv []) : ∀ (n : Nat) (x1 : Int32) (u : vS), fX8_forgets_7 n x1 u = some u0 → vV p l e { frames := 0, cells := 0, slots := 0, locals := 0 } s m args below meth c A D 3 0 0 Q (wR q cI u) 7 [(0, .ref (q 0)), (2, .int x1)] [] := by
  intro n
  induction n with
  | zero => intro x1 u h; rw [fX8_forgets_7] at h; cases h
  | succ n ih =>
    intro x1 u h
    rw [fX8_forgets_7] at h
    refine vi_iload_n C 1 dX8_forgets_7 rfl ?_
    refine vi_bipush (v := 66) C dX8_forgets_8 (by decide) ?_
    refine vi_icmp_ge (tgt := 45) C dX8_forgets_10 (by decide) (fun hc1 => ?_) (fun hc1 => ?_)
    · have h := ob_t h hc1
      refine vi_aload_n C 0 dX8_forgets_45 rfl ?_
      refine gR_8 C dX8_forgets_46 ?_
      refine vi_iconst (v := 3) C dX8_forgets_49 (by decide) ?_
      refine vi_dup2 C dX8_forgets_50 rfl rfl ?_
      refine lR_1 (n := 3) C (by decide) rfl dX8_forgets_51 ?_
      refine vi_iconst (v := 1) C dX8_forgets_52 (by decide) ?_
      refine vi_isub C dX8_forgets_53 ?_
      obtain ⟨u2, eu2, h⟩ := ob_nm h
      refine sR_1 (n := 3) C (by decide) rfl dX8_forgets_54 eu2.symm ?_
      exact vi_donev (W := wR q cI) RET h dX8_forgets_55
    · have h := ob_f h hc1
      refine vi_aload_n C 0 dX8_forgets_13 rfl ?_
      refine gR_8 C dX8_forgets_14 ?_
      refine vi_iload_n C 1 dX8_forgets_17 rfl ?_
      refine vi_iload_n C 1 dX8_forgets_18 rfl ?_
      refine vi_iconst (v := 3) C dX8_forgets_19 (by decide) ?_
      refine vi_iadd C dX8_forgets_20 ?_
      refine vi_bipush (v := 66) C dX8_forgets_21 (by decide) ?_
      refine vi_icmp_ge (tgt := 37) C dX8_forgets_23 (by decide) (fun hc3 => ?_) (fun hc3 => ?_)
      · have h := ob_t h hc3
        refine vi_iconst (v := 0) C dX8_forgets_37 (by decide) ?_
        obtain ⟨hz4, h⟩ := ob_if h
        obtain ⟨u5, eu5, h⟩ := ob_nm h
        refine sR_1 (n := (Int32.toNatClampNeg x1)) C hz4 rfl dX8_forgets_38 eu5.symm ?_
        obtain ⟨y6, ey6, h⟩ := ob_nm h
        refine vi_iinc (v := y6) (lv' := [(2, .int y6), (0, .ref (q 0))]) C 1 dX8_forgets_39 rfl (by rw [ey6]; rfl) (by decide) rfl ?_
        refine vi_goto (tgt := 7) C dX8_forgets_42 (by decide) ?_
        refine vi_sub C [1, 0] rfl ?_
        exact ih _ _ h
      · have h := ob_f h hc3
        refine vi_aload_n C 0 dX8_forgets_26 rfl ?_
        refine gR_8 C dX8_forgets_27 ?_
        refine vi_iload_n C 1 dX8_forgets_30 rfl ?_
        refine vi_iconst (v := 3) C dX8_forgets_31 (by decide) ?_
        refine vi_iadd C dX8_forgets_32 ?_
        obtain ⟨hz7, h⟩ := ob_if h
        refine lR_1 (n := (Int32.toNatClampNeg (x1 + (3 : Int32)))) C hz7 rfl dX8_forgets_33 ?_
        refine vi_goto (tgt := 38) C dX8_forgets_34 (by decide) ?_
        obtain ⟨hz8, h⟩ := ob_if h
        obtain ⟨u9, eu9, h⟩ := ob_nm h
        refine sR_1 (n := (Int32.toNatClampNeg x1)) C hz8 rfl dX8_forgets_38 eu9.symm ?_
        obtain ⟨y10, ey10, h⟩ := ob_nm h
        refine vi_iinc (v := y10) (lv' := [(2, .int y10), (0, .ref (q 0))]) C 1 dX8_forgets_39 rfl (by rw [ey10]; rfl) (by decide) rfl ?_
        refine vi_goto (tgt := 7) C dX8_forgets_42 (by decide) ?_
        refine vi_sub C [1, 0] rfl ?_
        exact ih _ _ h
def fX8_forgets (x1 : Int32) (u : vS) : Option (vS) := bd (((36 : Int32) + ((3 : Int32) * x1) : Int32)) fun y1 => fX8_forgets_7 vF y1 u
set_option maxRecDepth 100000 in
set_option maxHeartbeats 4000000 in
theorem kX8_forgets_e {E : (Nat → Prop) → State → Heap → Prop} {p : Program} {l : Launch} {e : Env} {s : State} {m : MethodId} {args : Array Value} {below : List Frame} {meth : Method} {c : Code} {A : Nat → Prop} {D : va_G} {cI cF cC cS cO : ClassId} {Q : State → Prop} {q : Nat → Nat} (C : vC E p l s m args meth c A D (vT5 cI cF cC cS cO) cX8_forgets 3 RX8) {u0 : vS} (RET : ∀ (pc : Nat) (lv : List (Nat × Value)), decode cX8_forgets pc = .ok (.return_, 1) → vV p l e { frames := 0, cells := 0, slots := 0, locals := 0 } s m args below meth c A D 3 0 0 Q (wR q cI u0) pc lv []) {x1 : Int32} {u : vS} (h : fX8_forgets x1 u = some u0) : vV p l e { frames := 0, cells := 0, slots := 0, locals := 0 } s m args below meth c A D 3 0 0 Q (wR q cI u) 0 [(0, .ref (q 0)), (1, .int x1)] [] := by
  rw [fX8_forgets] at h
  refine vi_bipush (v := 36) C dX8_forgets_0 (by decide) ?_
  refine vi_iconst (v := 3) C dX8_forgets_2 (by decide) ?_
  refine vi_iload_n C 1 dX8_forgets_3 rfl ?_
  refine vi_imul C dX8_forgets_4 ?_
  refine vi_iadd C dX8_forgets_5 ?_
  obtain ⟨y1, ey1, h⟩ := ob_nm h
  refine vi_nmi ey1 ?_
  refine vi_istore_n (lv' := [(2, .int y1), (0, .ref (q 0)), (1, .int x1)]) C dX8_forgets_6 rfl (by decide) rfl ?_
  refine vi_sub C [1, 0] rfl ?_
  exact kX8_forgets_7 C RET  vF _ _ h
theorem mX8_forgets {E : (Nat → Prop) → State → Heap → Prop} (hE : vEok E) {l : Launch} {D : va_G} {cI cF cC cS cO : ClassId} {q : Nat → Nat} {u0 : vS}  {x1 : Int32} {u : vS} (h : fX8_forgets x1 u = some u0) : vM E l yX8_forgets cX8_forgets 3 none 0 0 D (vT5 cI cF cC cS cO) [.ref (q 0), .int x1] (wR q cI u) (vQv D (wR q cI u0)) :=
  vM_of hE (by decide +kernel) (Nat.le_of_ble_eq_true rfl) (fun p e s m args below meth c A C hr => kX8_forgets_e C (vi_retv C hr) h)
-- ---- X8_goes
def fX8_goes_102 : Nat → Int32 → vS → Option (Int32 × vS)
  | 0, _, _ => none
  | n + 1, x1, u => (if (36 : Int32) ≤ x1 then bd (up2 u 1 0 ((u 1 0) - (1 : Int32))) fun u2 => some (u2 1 0, u2) else (if (36 : Int32) ≤ x1 + (3 : Int32) then if x1 < 0 ∨ 66 ≤ Int32.toNatClampNeg x1 then none else bd (up2 u 1 (Int32.toNatClampNeg x1) (0 : Int32)) fun u5 => bd ((x1 + 1 : Int32)) fun y6 => fX8_goes_102 n y6 u5 else if x1 + (3 : Int32) < 0 ∨ 66 ≤ Int32.toNatClampNeg (x1 + (3 : Int32)) then none else if x1 < 0 ∨ 66 ≤ Int32.toNatClampNeg x1 then none else bd (up2 u 1 (Int32.toNatClampNeg x1) (u 1 (Int32.toNatClampNeg (x1 + (3 : Int32))))) fun u9 => bd ((x1 + 1 : Int32)) fun y10 => fX8_goes_102 n y10 u9))
set_option maxRecDepth 100000 in
set_option maxHeartbeats 4000000 in
theorem kX8_goes_102 {E : (Nat → Prop) → State → Heap → Prop} {p : Program} {l : Launch} {e : Env} {s : State} {m : MethodId} {args : Array Value} {below : List Frame} {meth : Method} {c : Code} {A : Nat → Prop} {D : va_G} {cI cF cC cS cO : ClassId} {Q : State → Prop} {q : Nat → Nat} (C : vC E p l s m args meth c A D (vT5 cI cF cC cS cO) cX8_goes 4 RX8) {r0 : Int32} {u0 : vS} (RET : ∀ (pc : Nat) (lv : List (Nat × Value)), decode cX8_goes pc = .ok (.ireturn, 1) → vV p l e { frames := 2, cells := 0, slots := 0, locals := 43 } s m args below meth c A D 4 0 0 Q (wR q cI u0) pc lv [.int r0]) : ∀ (n : Nat) (x1 : Int32) (u : vS), fX8_goes_102 n x1 u = some (r0, u0) → vV p l e { frames := 2, cells := 0, slots := 0, locals := 43 } s m args below meth c A D 4 0 0 Q (wR q cI u) 102 [(0, .ref (q 0)), (2, .int x1)] [] := by
  intro n
  induction n with
  | zero => intro x1 u h; rw [fX8_goes_102] at h; cases h
  | succ n ih =>
    intro x1 u h
    rw [fX8_goes_102] at h
    refine vi_iload_n C 1 dX8_goes_102 rfl ?_
    refine vi_bipush (v := 36) C dX8_goes_103 (by decide) ?_
    refine vi_icmp_ge (tgt := 140) C dX8_goes_105 (by decide) (fun hc1 => ?_) (fun hc1 => ?_)
    · have h := ob_t h hc1
      refine vi_aload_n C 0 dX8_goes_140 rfl ?_
      refine gR_8 C dX8_goes_141 ?_
      refine vi_iconst (v := 0) C dX8_goes_144 (by decide) ?_
      refine vi_dup2 C dX8_goes_145 rfl rfl ?_
      refine lR_1 (n := 0) C (by decide) rfl dX8_goes_146 ?_
      refine vi_iconst (v := 1) C dX8_goes_147 (by decide) ?_
      refine vi_isub C dX8_goes_148 ?_
      obtain ⟨u2, eu2, h⟩ := ob_nm h
      refine sR_1 (n := 0) C (by decide) rfl dX8_goes_149 eu2.symm ?_
      refine vi_aload_n C 0 dX8_goes_150 rfl ?_
      refine gR_8 C dX8_goes_151 ?_
      refine vi_iconst (v := 0) C dX8_goes_154 (by decide) ?_
      refine lR_1 (n := 0) C (by decide) rfl dX8_goes_155 ?_
      exact vi_donei (W := wR q cI) RET h dX8_goes_156
    · have h := ob_f h hc1
      refine vi_aload_n C 0 dX8_goes_108 rfl ?_
      refine gR_8 C dX8_goes_109 ?_
      refine vi_iload_n C 1 dX8_goes_112 rfl ?_
      refine vi_iload_n C 1 dX8_goes_113 rfl ?_
      refine vi_iconst (v := 3) C dX8_goes_114 (by decide) ?_
      refine vi_iadd C dX8_goes_115 ?_
      refine vi_bipush (v := 36) C dX8_goes_116 (by decide) ?_
      refine vi_icmp_ge (tgt := 132) C dX8_goes_118 (by decide) (fun hc3 => ?_) (fun hc3 => ?_)
      · have h := ob_t h hc3
        refine vi_iconst (v := 0) C dX8_goes_132 (by decide) ?_
        obtain ⟨hz4, h⟩ := ob_if h
        obtain ⟨u5, eu5, h⟩ := ob_nm h
        refine sR_1 (n := (Int32.toNatClampNeg x1)) C hz4 rfl dX8_goes_133 eu5.symm ?_
        obtain ⟨y6, ey6, h⟩ := ob_nm h
        refine vi_iinc (v := y6) (lv' := [(2, .int y6), (0, .ref (q 0))]) C 1 dX8_goes_134 rfl (by rw [ey6]; rfl) (by decide) rfl ?_
        refine vi_goto (tgt := 102) C dX8_goes_137 (by decide) ?_
        refine vi_sub C [1, 0] rfl ?_
        exact ih _ _ h
      · have h := ob_f h hc3
        refine vi_aload_n C 0 dX8_goes_121 rfl ?_
        refine gR_8 C dX8_goes_122 ?_
        refine vi_iload_n C 1 dX8_goes_125 rfl ?_
        refine vi_iconst (v := 3) C dX8_goes_126 (by decide) ?_
        refine vi_iadd C dX8_goes_127 ?_
        obtain ⟨hz7, h⟩ := ob_if h
        refine lR_1 (n := (Int32.toNatClampNeg (x1 + (3 : Int32)))) C hz7 rfl dX8_goes_128 ?_
        refine vi_goto (tgt := 133) C dX8_goes_129 (by decide) ?_
        obtain ⟨hz8, h⟩ := ob_if h
        obtain ⟨u9, eu9, h⟩ := ob_nm h
        refine sR_1 (n := (Int32.toNatClampNeg x1)) C hz8 rfl dX8_goes_133 eu9.symm ?_
        obtain ⟨y10, ey10, h⟩ := ob_nm h
        refine vi_iinc (v := y10) (lv' := [(2, .int y10), (0, .ref (q 0))]) C 1 dX8_goes_134 rfl (by rw [ey10]; rfl) (by decide) rfl ?_
        refine vi_goto (tgt := 102) C dX8_goes_137 (by decide) ?_
        refine vi_sub C [1, 0] rfl ?_
        exact ih _ _ h
def fX8_goes_70 (rec_44 : Int32 → Int32 → vS → Option (Int32 × vS)) (x1 : Int32) (x2 : Int32) (x3 : Int32) (u : vS) : Option (Int32 × vS) := (if x3 ≤ x1 then bd ((x2 + (-1) : Int32)) fun y2 => rec_44 x1 y2 u else if (36 : Int32) + ((3 : Int32) * x2) < 0 ∨ 66 ≤ Int32.toNatClampNeg ((36 : Int32) + ((3 : Int32) * x2)) then none else if (36 : Int32) + ((3 : Int32) * x2) < 0 ∨ 66 ≤ Int32.toNatClampNeg ((36 : Int32) + ((3 : Int32) * x2)) then none else bd (up2 u 1 (Int32.toNatClampNeg ((36 : Int32) + ((3 : Int32) * x2))) ((u 1 (Int32.toNatClampNeg ((36 : Int32) + ((3 : Int32) * x2)))) - (1 : Int32))) fun u5 => bd ((x2 + (-1) : Int32)) fun y6 => rec_44 x1 y6 u5)
set_option maxRecDepth 100000 in
set_option maxHeartbeats 4000000 in
theorem kX8_goes_70 {E : (Nat → Prop) → State → Heap → Prop} {p : Program} {l : Launch} {e : Env} {s : State} {m : MethodId} {args : Array Value} {below : List Frame} {meth : Method} {c : Code} {A : Nat → Prop} {D : va_G} {cI cF cC cS cO : ClassId} {Q : State → Prop} {q : Nat → Nat} (C : vC E p l s m args meth c A D (vT5 cI cF cC cS cO) cX8_goes 4 RX8) {r0 : Int32} {u0 : vS} (RET : ∀ (pc : Nat) (lv : List (Nat × Value)), decode cX8_goes pc = .ok (.ireturn, 1) → vV p l e { frames := 2, cells := 0, slots := 0, locals := 43 } s m args below meth c A D 4 0 0 Q (wR q cI u0) pc lv [.int r0]) {rec_44 : Int32 → Int32 → vS → Option (Int32 × vS)} (REC_44 : ∀ (x1 : Int32) (x2 : Int32) (u : vS), rec_44 x1 x2 u = some (r0, u0) → vV p l e { frames := 2, cells := 0, slots := 0, locals := 43 } s m args below meth c A D 4 0 0 Q (wR q cI u) 44 [(0, .ref (q 0)), (1, .int x1), (2, .int x2)] []) : ∀ (x1 : Int32) (x2 : Int32) (x3 : Int32) (u : vS), fX8_goes_70 rec_44 x1 x2 x3 u = some (r0, u0) → vV p l e { frames := 2, cells := 0, slots := 0, locals := 43 } s m args below meth c A D 4 0 0 Q (wR q cI u) 70 [(0, .ref (q 0)), (1, .int x1), (2, .int x2), (3, .int x3)] [] := by
  intro x1 x2 x3 u h
  rw [fX8_goes_70] at h
  refine vi_iload_n C 3 dX8_goes_70 rfl ?_
  refine vi_iload_n C 1 dX8_goes_71 rfl ?_
  refine vi_icmp_le (tgt := 90) C dX8_goes_72 (by decide) (fun hc1 => ?_) (fun hc1 => ?_)
  · have h := ob_t h hc1
    obtain ⟨y2, ey2, h⟩ := ob_nm h
    refine vi_iinc (v := y2) (lv' := [(2, .int y2), (0, .ref (q 0)), (1, .int x1), (3, .int x3)]) C 2 dX8_goes_90 rfl (by rw [ey2]; rfl) (by decide) rfl ?_
    refine vi_goto (tgt := 44) C dX8_goes_93 (by decide) ?_
    refine vi_sub C [1, 2, 0] rfl ?_
    exact REC_44 _ _ _ h
  · have h := ob_f h hc1
    refine vi_aload_n C 0 dX8_goes_75 rfl ?_
    refine gR_8 C dX8_goes_76 ?_
    refine vi_bipush (v := 36) C dX8_goes_79 (by decide) ?_
    refine vi_iconst (v := 3) C dX8_goes_81 (by decide) ?_
    refine vi_iload_n C 2 dX8_goes_82 rfl ?_
    refine vi_imul C dX8_goes_83 ?_
    refine vi_iadd C dX8_goes_84 ?_
    refine vi_dup2 C dX8_goes_85 rfl rfl ?_
    obtain ⟨hz3, h⟩ := ob_if h
    refine lR_1 (n := (Int32.toNatClampNeg ((36 : Int32) + ((3 : Int32) * x2)))) C hz3 rfl dX8_goes_86 ?_
    refine vi_iconst (v := 1) C dX8_goes_87 (by decide) ?_
    refine vi_isub C dX8_goes_88 ?_
    obtain ⟨hz4, h⟩ := ob_if h
    obtain ⟨u5, eu5, h⟩ := ob_nm h
    refine sR_1 (n := (Int32.toNatClampNeg ((36 : Int32) + ((3 : Int32) * x2)))) C hz4 rfl dX8_goes_89 eu5.symm ?_
    obtain ⟨y6, ey6, h⟩ := ob_nm h
    refine vi_iinc (v := y6) (lv' := [(2, .int y6), (0, .ref (q 0)), (1, .int x1), (3, .int x3)]) C 2 dX8_goes_90 rfl (by rw [ey6]; rfl) (by decide) rfl ?_
    refine vi_goto (tgt := 44) C dX8_goes_93 (by decide) ?_
    refine vi_sub C [1, 2, 0] rfl ?_
    exact REC_44 _ _ _ h
def fX8_goes_44 : Nat → Int32 → Int32 → vS → Option (Int32 × vS)
  | 0, _, _, _ => none
  | n + 1, x1, x2, u => (if x2 < 0 then (fX8_at x1 (0 : Int32)).bind fun y2 => fX8_goes_102 vF y2 u else if (36 : Int32) + ((3 : Int32) * x2) < 0 ∨ 66 ≤ Int32.toNatClampNeg ((36 : Int32) + ((3 : Int32) * x2)) then none else bd ((u 1 (Int32.toNatClampNeg ((36 : Int32) + ((3 : Int32) * x2))) : Int32)) fun y4 => (if y4 = x1 then (fX8_forgets x2 u).bind fun u6 => fX8_goes_70 (fun a0 a1 a2 => fX8_goes_44 n  a0 a1 a2) x1 x2 y4 u6 else fX8_goes_70 (fun a0 a1 a2 => fX8_goes_44 n  a0 a1 a2) x1 x2 y4 u))
set_option maxRecDepth 100000 in
set_option maxHeartbeats 4000000 in
theorem kX8_goes_44 {E : (Nat → Prop) → State → Heap → Prop} {p : Program} {l : Launch} {e : Env} {s : State} {m : MethodId} {args : Array Value} {below : List Frame} {meth : Method} {c : Code} {A : Nat → Prop} {D : va_G} {cI cF cC cS cO : ClassId} {Q : State → Prop} {q : Nat → Nat} (C : vC E p l s m args meth c A D (vT5 cI cF cC cS cO) cX8_goes 4 RX8) {r0 : Int32} {u0 : vS} (RET : ∀ (pc : Nat) (lv : List (Nat × Value)), decode cX8_goes pc = .ok (.ireturn, 1) → vV p l e { frames := 2, cells := 0, slots := 0, locals := 43 } s m args below meth c A D 4 0 0 Q (wR q cI u0) pc lv [.int r0]) : ∀ (n : Nat) (x1 : Int32) (x2 : Int32) (u : vS), fX8_goes_44 n x1 x2 u = some (r0, u0) → vV p l e { frames := 2, cells := 0, slots := 0, locals := 43 } s m args below meth c A D 4 0 0 Q (wR q cI u) 44 [(0, .ref (q 0)), (1, .int x1), (2, .int x2)] [] := by
  intro n
  induction n with
  | zero => intro x1 x2 u h; rw [fX8_goes_44] at h; cases h
  | succ n ih =>
    intro x1 x2 u h
    rw [fX8_goes_44] at h
    refine vi_iload_n C 2 dX8_goes_44 rfl ?_
    refine vi_if_lt (tgt := 96) C dX8_goes_45 (by decide) (fun hc1 => ?_) (fun hc1 => ?_)
    · have h := ob_t h hc1
      refine vi_iload_n C 1 dX8_goes_96 rfl ?_
      refine vi_iconst (v := 0) C dX8_goes_97 (by decide) ?_
      obtain ⟨y2, hgy2, h⟩ := ob_bd h
      refine vi_callS0i (As := [.int x1, .int (0 : Int32)]) (rest := []) C (mX8_at C.2.2.2.2.2.2.2.2.1 hgy2) 2 rfl tcX8_at tlX8_73 ttX8_at tnX8 tdX8_at ⟨Nat.le_of_ble_eq_true rfl, Nat.le_of_ble_eq_true rfl⟩ rfl (Nat.le_of_ble_eq_true rfl) dX8_goes_98 ?_
      refine vi_istore_n (lv' := [(2, .int y2), (0, .ref (q 0)), (1, .int x1)]) C dX8_goes_101 rfl (by decide) rfl ?_
      refine vi_sub C [1, 0] rfl ?_
      exact kX8_goes_102 C RET  vF _ _ h
    · have h := ob_f h hc1
      refine vi_aload_n C 0 dX8_goes_48 rfl ?_
      refine gR_8 C dX8_goes_49 ?_
      refine vi_bipush (v := 36) C dX8_goes_52 (by decide) ?_
      refine vi_iconst (v := 3) C dX8_goes_54 (by decide) ?_
      refine vi_iload_n C 2 dX8_goes_55 rfl ?_
      refine vi_imul C dX8_goes_56 ?_
      refine vi_iadd C dX8_goes_57 ?_
      obtain ⟨hz3, h⟩ := ob_if h
      refine lR_1 (n := (Int32.toNatClampNeg ((36 : Int32) + ((3 : Int32) * x2)))) C hz3 rfl dX8_goes_58 ?_
      obtain ⟨y4, ey4, h⟩ := ob_nm h
      refine vi_nmi ey4 ?_
      refine vi_istore_n (lv' := [(3, .int y4), (0, .ref (q 0)), (1, .int x1), (2, .int x2)]) C dX8_goes_59 rfl (by decide) rfl ?_
      refine vi_iload_n C 0 dX8_goes_60 rfl ?_
      refine vi_iload_n C 2 dX8_goes_61 rfl ?_
      refine vi_icmp_ne (tgt := 70) C dX8_goes_62 (by decide) (fun hc5 => ?_) (fun hc5 => ?_)
      · have h := ob_f h hc5
        refine vi_sub C [1, 2, 3, 0] rfl ?_
        exact kX8_goes_70 C RET ih  _ _ _ _ h
      · have h := ob_t h hc5
        refine vi_aload_n C 1 dX8_goes_65 rfl ?_
        refine vi_iload_n C 3 dX8_goes_66 rfl ?_
        obtain ⟨u6, hgu6, h⟩ := ob_bd h
        refine vR_callv (As := [.int x2]) (rest := []) C (mX8_forgets C.2.2.2.2.2.2.2.2.1 hgu6) 1 rfl tcX8_forgets tlX8_112 tiX8_forgets tsX8_forgets rfl tnX8 tdX8_forgets ⟨Nat.le_of_ble_eq_true rfl, Nat.le_of_ble_eq_true rfl⟩ rfl (Nat.le_of_ble_eq_true rfl) dX8_goes_67 ?_
        refine vi_sub C [1, 2, 3, 0] rfl ?_
        exact kX8_goes_70 C RET ih  _ _ _ _ h
def fX8_goes (x1 : Int32) (u : vS) : Option (Int32 × vS) := obp (fX8_isSailor x1 u) fun y2 u1 => (if y2 = 0 then obp (fX8_fail (-100001 : Int32) u1) fun y9 u8 => some (y9, u8) else (fX8_at x1 (1 : Int32)).bind fun y4 => if y4 < 0 ∨ 66 ≤ Int32.toNatClampNeg y4 then none else bd (up2 u1 1 7 ((u1 1 7) + (u1 1 (Int32.toNatClampNeg y4)))) fun u6 => bd (((u6 1 3) - (1 : Int32) : Int32)) fun y7 => fX8_goes_44 vF x1 y7 u6)
set_option maxRecDepth 100000 in
set_option maxHeartbeats 4000000 in
theorem kX8_goes_e {E : (Nat → Prop) → State → Heap → Prop} {p : Program} {l : Launch} {e : Env} {s : State} {m : MethodId} {args : Array Value} {below : List Frame} {meth : Method} {c : Code} {A : Nat → Prop} {D : va_G} {cI cF cC cS cO : ClassId} {Q : State → Prop} {q : Nat → Nat} (C : vC E p l s m args meth c A D (vT5 cI cF cC cS cO) cX8_goes 4 RX8) {r0 : Int32} {u0 : vS} (RET : ∀ (pc : Nat) (lv : List (Nat × Value)), decode cX8_goes pc = .ok (.ireturn, 1) → vV p l e { frames := 2, cells := 0, slots := 0, locals := 43 } s m args below meth c A D 4 0 0 Q (wR q cI u0) pc lv [.int r0]) {x1 : Int32} {u : vS} (h : fX8_goes x1 u = some (r0, u0)) : vV p l e { frames := 2, cells := 0, slots := 0, locals := 43 } s m args below meth c A D 4 0 0 Q (wR q cI u) 0 [(0, .ref (q 0)), (1, .int x1)] [] := by
  rw [fX8_goes] at h
  refine vi_aload_n C 0 dX8_goes_0 rfl ?_
  refine vi_iload_n C 1 dX8_goes_1 rfl ?_
  obtain ⟨y2, u1, hgu1, h⟩ := ob_p h
  refine vR_calli (As := [.int x1]) (rest := []) C (mX8_isSailor C.2.2.2.2.2.2.2.2.1 hgu1) 1 rfl tcX8_isSailor tlX8_108 tiX8_isSailor tsX8_isSailor rfl tnX8 tdX8_isSailor ⟨Nat.le_of_ble_eq_true rfl, Nat.le_of_ble_eq_true rfl⟩ rfl (Nat.le_of_ble_eq_true rfl) dX8_goes_2 ?_
  refine vi_if_ne (tgt := 15) C dX8_goes_5 (by decide) (fun hc3 => ?_) (fun hc3 => ?_)
  · have h := ob_f h hc3
    refine vi_aload_n C 0 dX8_goes_15 rfl ?_
    refine gR_8 C dX8_goes_16 ?_
    refine vi_bipush (v := 7) C dX8_goes_19 (by decide) ?_
    refine vi_dup2 C dX8_goes_21 rfl rfl ?_
    refine lR_1 (n := 7) C (by decide) rfl dX8_goes_22 ?_
    refine vi_aload_n C 0 dX8_goes_23 rfl ?_
    refine gR_8 C dX8_goes_24 ?_
    refine vi_iload_n C 1 dX8_goes_27 rfl ?_
    refine vi_iconst (v := 1) C dX8_goes_28 (by decide) ?_
    obtain ⟨y4, hgy4, h⟩ := ob_bd h
    refine vi_callS0i (As := [.int x1, .int (1 : Int32)]) (rest := [.ref (q 1), .int (u1 1 7), .int (7 : Int32), .ref (q 1)]) C (mX8_at C.2.2.2.2.2.2.2.2.1 hgy4) 2 rfl tcX8_at tlX8_73 ttX8_at tnX8 tdX8_at ⟨Nat.le_of_ble_eq_true rfl, Nat.le_of_ble_eq_true rfl⟩ rfl (Nat.le_of_ble_eq_true rfl) dX8_goes_29 ?_
    obtain ⟨hz5, h⟩ := ob_if h
    refine lR_1 (n := (Int32.toNatClampNeg y4)) C hz5 rfl dX8_goes_32 ?_
    refine vi_iadd C dX8_goes_33 ?_
    obtain ⟨u6, eu6, h⟩ := ob_nm h
    refine sR_1 (n := 7) C (by decide) rfl dX8_goes_34 eu6.symm ?_
    refine vi_aload_n C 0 dX8_goes_35 rfl ?_
    refine gR_8 C dX8_goes_36 ?_
    refine vi_iconst (v := 3) C dX8_goes_39 (by decide) ?_
    refine lR_1 (n := 3) C (by decide) rfl dX8_goes_40 ?_
    refine vi_iconst (v := 1) C dX8_goes_41 (by decide) ?_
    refine vi_isub C dX8_goes_42 ?_
    obtain ⟨y7, ey7, h⟩ := ob_nm h
    refine vi_nmi ey7 ?_
    refine vi_istore_n (lv' := [(2, .int y7), (0, .ref (q 0)), (1, .int x1)]) C dX8_goes_43 rfl (by decide) rfl ?_
    refine vi_sub C [1, 2, 0] rfl ?_
    exact kX8_goes_44 C RET  vF _ _ _ h
  · have h := ob_t h hc3
    refine vi_aload_n C 0 dX8_goes_8 rfl ?_
    refine vi_ldc (v := (-100001)) C dX8_goes_9 tkX8_111 ?_
    obtain ⟨y9, u8, hgu8, h⟩ := ob_p h
    refine vR_calli (As := [.int (-100001 : Int32)]) (rest := []) C (mX8_fail C.2.2.2.2.2.2.2.2.1 hgu8) 1 rfl tcX8_fail tlX8_57 tiX8_fail tsX8_fail rfl tnX8 tdX8_fail ⟨Nat.le_of_ble_eq_true rfl, Nat.le_of_ble_eq_true rfl⟩ rfl (Nat.le_of_ble_eq_true rfl) dX8_goes_11 ?_
    exact vi_donei (W := wR q cI) RET h dX8_goes_14
theorem mX8_goes {E : (Nat → Prop) → State → Heap → Prop} (hE : vEok E) {l : Launch} {D : va_G} {cI cF cC cS cO : ClassId} {q : Nat → Nat} {r0 : Int32} {u0 : vS}  {x1 : Int32} {u : vS} (h : fX8_goes x1 u = some (r0, u0)) : vM E l yX8_goes cX8_goes 4 (some .int) 2 43 D (vT5 cI cF cC cS cO) [.ref (q 0), .int x1] (wR q cI u) (vQi D (wR q cI u0) r0) :=
  vM_of hE (by decide +kernel) (Nat.le_of_ble_eq_true rfl) (fun p e s m args below meth c A C hr => kX8_goes_e C (vi_reti C hr) h)
