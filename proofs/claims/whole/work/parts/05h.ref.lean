-- ---- X8_lays_1_3
def fX8_lays_1_3_2 : Nat → Int32 → vS → Option (vS)
  | 0, _, _ => none
  | n + 1, x1, u => (if (66 : Int32) ≤ x1 then some u else if x1 < 0 ∨ 66 ≤ Int32.toNatClampNeg x1 then none else if x1 < 0 ∨ 66 ≤ Int32.toNatClampNeg x1 then none else bd (up2 u 1 (Int32.toNatClampNeg x1) (u 3 (Int32.toNatClampNeg x1))) fun u4 => bd ((x1 + 1 : Int32)) fun y5 => fX8_lays_1_3_2 n y5 u4)
set_option maxRecDepth 100000 in
set_option maxHeartbeats 4000000 in
theorem kX8_lays_1_3_2 {E : (Nat → Prop) → State → Heap → Prop} {p : Program} {l : Launch} {e : Env} {s : State} {m : MethodId} {args : Array Value} {below : List Frame} {meth : Method} {c : Code} {A : Nat → Prop} {D : va_G} {cI cF cC cS cO : ClassId} {Q : State → Prop} {q : Nat → Nat} (C : vC E p l s m args meth c A D (vT5 cI cF cC cS cO) cX8_lays 3 RX8) {u0 : vS} (RET : ∀ (pc : Nat) (lv : List (Nat × Value)), decode cX8_lays pc = .ok (.return_, 1) → vV p l e { frames := 0, cells := 0, slots := 0, locals := 0 } s m args below meth c A D 3 0 0 Q (wR q cI u0) pc lv []) : ∀ (n : Nat) (x1 : Int32) (u : vS), fX8_lays_1_3_2 n x1 u = some u0 → vV p l e { frames := 0, cells := 0, slots := 0, locals := 0 } s m args below meth c A D 3 0 0 Q (wR q cI u) 2 [(0, .ref (q 1)), (1, .ref (q 3)), (2, .int x1)] [] := by
  intro n
  induction n with
  | zero => intro x1 u h; rw [fX8_lays_1_3_2] at h; cases h
  | succ n ih =>
    intro x1 u h
    rw [fX8_lays_1_3_2] at h
    refine vi_iload_n C 2 dX8_lays_2 rfl ?_
    refine vi_bipush (v := 66) C dX8_lays_3 (by decide) ?_
    refine vi_icmp_ge (tgt := 20) C dX8_lays_5 (by decide) (fun hc1 => ?_) (fun hc1 => ?_)
    · have h := ob_t h hc1
      exact vi_donev (W := wR q cI) RET h dX8_lays_20
    · have h := ob_f h hc1
      refine vi_aload_n C 0 dX8_lays_8 rfl ?_
      refine vi_iload_n C 2 dX8_lays_9 rfl ?_
      refine vi_aload_n C 1 dX8_lays_10 rfl ?_
      refine vi_iload_n C 2 dX8_lays_11 rfl ?_
      obtain ⟨hz2, h⟩ := ob_if h
      refine lR_3 (n := (Int32.toNatClampNeg x1)) C hz2 rfl dX8_lays_12 ?_
      obtain ⟨hz3, h⟩ := ob_if h
      obtain ⟨u4, eu4, h⟩ := ob_nm h
      refine sR_1 (n := (Int32.toNatClampNeg x1)) C hz3 rfl dX8_lays_13 eu4.symm ?_
      obtain ⟨y5, ey5, h⟩ := ob_nm h
      refine vi_iinc (v := y5) (lv' := [(2, .int y5), (0, .ref (q 1)), (1, .ref (q 3))]) C 2 dX8_lays_14 rfl (by rw [ey5]; rfl) (by decide) rfl ?_
      refine vi_goto (tgt := 2) C dX8_lays_17 (by decide) ?_
      refine vi_sub C [1, 2, 0] rfl ?_
      exact ih _ _ h
def fX8_lays_1_3 (u : vS) : Option (vS) := fX8_lays_1_3_2 vF (0 : Int32) u
set_option maxRecDepth 100000 in
set_option maxHeartbeats 4000000 in
theorem kX8_lays_1_3_e {E : (Nat → Prop) → State → Heap → Prop} {p : Program} {l : Launch} {e : Env} {s : State} {m : MethodId} {args : Array Value} {below : List Frame} {meth : Method} {c : Code} {A : Nat → Prop} {D : va_G} {cI cF cC cS cO : ClassId} {Q : State → Prop} {q : Nat → Nat} (C : vC E p l s m args meth c A D (vT5 cI cF cC cS cO) cX8_lays 3 RX8) {u0 : vS} (RET : ∀ (pc : Nat) (lv : List (Nat × Value)), decode cX8_lays pc = .ok (.return_, 1) → vV p l e { frames := 0, cells := 0, slots := 0, locals := 0 } s m args below meth c A D 3 0 0 Q (wR q cI u0) pc lv []) {u : vS} (h : fX8_lays_1_3 u = some u0) : vV p l e { frames := 0, cells := 0, slots := 0, locals := 0 } s m args below meth c A D 3 0 0 Q (wR q cI u) 0 [(0, .ref (q 1)), (1, .ref (q 3))] [] := by
  rw [fX8_lays_1_3] at h
  refine vi_iconst (v := 0) C dX8_lays_0 (by decide) ?_
  refine vi_istore_n (lv' := [(2, .int (0 : Int32)), (0, .ref (q 1)), (1, .ref (q 3))]) C dX8_lays_1 rfl (by decide) rfl ?_
  refine vi_sub C [1, 2, 0] rfl ?_
  exact kX8_lays_1_3_2 C RET  vF _ _ h
theorem mX8_lays_1_3 {E : (Nat → Prop) → State → Heap → Prop} (hE : vEok E) {l : Launch} {D : va_G} {cI cF cC cS cO : ClassId} {q : Nat → Nat} {u0 : vS}  {u : vS} (h : fX8_lays_1_3 u = some u0) : vM E l yX8_lays cX8_lays 3 none 0 0 D (vT5 cI cF cC cS cO) [.ref (q 1), .ref (q 3)] (wR q cI u) (vQv D (wR q cI u0)) :=
  vM_of hE (by decide +kernel) (Nat.le_of_ble_eq_true rfl) (fun p e s m args below meth c A C hr => kX8_lays_1_3_e C (vi_retv C hr) h)
-- ---- X8_restore
def fX8_restore (u : vS) : Option (Int32 × vS) := (if u 0 7 = 0 then some ((-100003 : Int32), u) else (fX8_lays_1_3 u).bind fun u2 => bd (up2 u2 0 1 (0 : Int32)) fun u3 => some (u3 1 0, u3))
set_option maxRecDepth 100000 in
set_option maxHeartbeats 4000000 in
theorem kX8_restore_e {E : (Nat → Prop) → State → Heap → Prop} {p : Program} {l : Launch} {e : Env} {s : State} {m : MethodId} {args : Array Value} {below : List Frame} {meth : Method} {c : Code} {A : Nat → Prop} {D : va_G} {cI cF cC cS cO : ClassId} {Q : State → Prop} {q : Nat → Nat} (C : vC E p l s m args meth c A D (vT5 cI cF cC cS cO) cX8_restore 1 RX8) {r0 : Int32} {u0 : vS} (RET : ∀ (pc : Nat) (lv : List (Nat × Value)), decode cX8_restore pc = .ok (.ireturn, 1) → vV p l e { frames := 1, cells := 0, slots := 0, locals := 22 } s m args below meth c A D 1 0 0 Q (wR q cI u0) pc lv [.int r0]) {u : vS} (h : fX8_restore u = some (r0, u0)) : vV p l e { frames := 1, cells := 0, slots := 0, locals := 22 } s m args below meth c A D 1 0 0 Q (wR q cI u) 0 [(0, .ref (q 0))] [] := by
  rw [fX8_restore] at h
  refine vi_aload_n C 0 dX8_restore_0 rfl ?_
  refine gR_7 C dX8_restore_1 ?_
  refine vi_if_ne (tgt := 10) C dX8_restore_4 (by decide) (fun hc1 => ?_) (fun hc1 => ?_)
  · have h := ob_f h hc1
    refine vi_aload_n C 0 dX8_restore_10 rfl ?_
    refine gR_8 C dX8_restore_11 ?_
    refine vi_aload_n C 0 dX8_restore_14 rfl ?_
    refine gR_10 C dX8_restore_15 ?_
    obtain ⟨u2, hgu2, h⟩ := ob_bd h
    refine vR_callSv (As := [.ref (q 1), .ref (q 3)]) (rest := []) C (mX8_lays_1_3 C.2.2.2.2.2.2.2.2.1 hgu2) 2 rfl tcX8_lays tlX8_61 ttX8_lays tnX8 tdX8_lays ⟨Nat.le_of_ble_eq_true rfl, Nat.le_of_ble_eq_true rfl⟩ rfl (Nat.le_of_ble_eq_true rfl) dX8_restore_18 ?_
    refine vi_aload_n C 0 dX8_restore_21 rfl ?_
    refine vi_iconst (v := 0) C dX8_restore_22 (by decide) ?_
    obtain ⟨u3, eu3, h⟩ := ob_nm h
    refine pR_1 C dX8_restore_23 eu3.symm ?_
    refine vi_aload_n C 0 dX8_restore_26 rfl ?_
    refine gR_8 C dX8_restore_27 ?_
    refine vi_iconst (v := 0) C dX8_restore_30 (by decide) ?_
    refine lR_1 (n := 0) C (by decide) rfl dX8_restore_31 ?_
    exact vi_donei (W := wR q cI) RET h dX8_restore_32
  · have h := ob_t h hc1
    refine vi_ldc (v := (-100003)) C dX8_restore_7 tkX8_250 ?_
    exact vi_donei (W := wR q cI) RET h dX8_restore_9
theorem mX8_restore {E : (Nat → Prop) → State → Heap → Prop} (hE : vEok E) {l : Launch} {D : va_G} {cI cF cC cS cO : ClassId} {q : Nat → Nat} {r0 : Int32} {u0 : vS}  {u : vS} (h : fX8_restore u = some (r0, u0)) : vM E l yX8_restore cX8_restore 1 (some .int) 1 22 D (vT5 cI cF cC cS cO) [.ref (q 0)] (wR q cI u) (vQi D (wR q cI u0) r0) :=
  vM_of hE (by decide +kernel) (Nat.le_of_ble_eq_true rfl) (fun p e s m args below meth c A C hr => kX8_restore_e C (vi_reti C hr) h)
