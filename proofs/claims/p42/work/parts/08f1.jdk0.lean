def fJ6_stringSize_0f7a4_16 : Nat → Int32 → Int32 → Int32 → Int32 → Option (Int32)
  | 0, _, _, _, _ => none
  | n + 1, x1, x2, x3, x4 => (if (10 : Int32) ≤ x4 then some ((10 : Int32) + x2) else (if x1 ≤ x3 then bd (((10 : Int32) * x3 : Int32)) fun y3 => bd ((x4 + 1 : Int32)) fun y4 => fJ6_stringSize_0f7a4_16 n x1 x2 y3 y4 else some (x4 + x2)))
set_option maxRecDepth 100000 in
set_option maxHeartbeats 4000000 in
theorem kJ6_stringSize_0f7a4_16 {E : (Nat → Prop) → State → Heap → Prop} {p : Program} {l : Launch} {e : Env} {s : State} {m : MethodId} {args : Array Value} {below : List Frame} {meth : Method} {c : Code} {A : Nat → Prop} {D : va_G} {cI cF cC cS cO cB cZ : ClassId} {Q : State → Prop} (C : vC E p l s m args meth c A D (vT7 cI cF cC cS cO cB cZ) cJ6_stringSize_0f7a4 4 RJ6) {r0 : Int32} (RET : ∀ (pc : Nat) (lv : List (Nat × Value)), decode cJ6_stringSize_0f7a4 pc = .ok (.ireturn, 1) → vV p l e { frames := 0, cells := 0, slots := 0, locals := 0 } s m args below meth c A D 4 0 0 Q [] pc lv [.int r0]) : ∀ (n : Nat) (x1 : Int32) (x2 : Int32) (x3 : Int32) (x4 : Int32), fJ6_stringSize_0f7a4_16 n x1 x2 x3 x4 = some r0 → vV p l e { frames := 0, cells := 0, slots := 0, locals := 0 } s m args below meth c A D 4 0 0 Q [] 16 [(0, .int x1), (1, .int x2), (2, .int x3), (3, .int x4)] [] := by
  intro n
  induction n with
  | zero => intro x1 x2 x3 x4 h; rw [fJ6_stringSize_0f7a4_16] at h; cases h
  | succ n ih =>
    intro x1 x2 x3 x4 h
    rw [fJ6_stringSize_0f7a4_16] at h
    refine vi_iload_n C 3 dJ6_stringSize_0f7a4_16 rfl ?_
    refine vi_bipush (v := 10) C dJ6_stringSize_0f7a4_17 (by decide) ?_
    refine vi_icmp_ge (tgt := 42) C dJ6_stringSize_0f7a4_19 (by decide) (fun hc1 => ?_) (fun hc1 => ?_)
    · have h := ob_t h hc1
      refine vi_bipush (v := 10) C dJ6_stringSize_0f7a4_42 (by decide) ?_
      refine vi_iload_n C 1 dJ6_stringSize_0f7a4_44 rfl ?_
      refine vi_iadd C dJ6_stringSize_0f7a4_45 ?_
      exact vi_donei0  RET h dJ6_stringSize_0f7a4_46
    · have h := ob_f h hc1
      refine vi_iload_n C 0 dJ6_stringSize_0f7a4_22 rfl ?_
      refine vi_iload_n C 2 dJ6_stringSize_0f7a4_23 rfl ?_
      refine vi_icmp_le (tgt := 31) C dJ6_stringSize_0f7a4_24 (by decide) (fun hc2 => ?_) (fun hc2 => ?_)
      · have h := ob_t h hc2
        refine vi_bipush (v := 10) C dJ6_stringSize_0f7a4_31 (by decide) ?_
        refine vi_iload_n C 2 dJ6_stringSize_0f7a4_33 rfl ?_
        refine vi_imul C dJ6_stringSize_0f7a4_34 ?_
        obtain ⟨y3, ey3, h⟩ := ob_nm h
        refine vi_nmi ey3 ?_
        refine vi_istore_n (lv' := [(2, .int y3), (0, .int x1), (1, .int x2), (3, .int x4)]) C dJ6_stringSize_0f7a4_35 rfl (by decide) rfl ?_
        obtain ⟨y4, ey4, h⟩ := ob_nm h
        refine vi_iinc (v := y4) (lv' := [(3, .int y4), (2, .int y3), (0, .int x1), (1, .int x2)]) C 3 dJ6_stringSize_0f7a4_36 rfl (by rw [ey4]; rfl) (by decide) rfl ?_
        refine vi_goto (tgt := 16) C dJ6_stringSize_0f7a4_39 (by decide) ?_
        refine vi_sub C [2, 3, 1, 0] rfl ?_
        exact ih _ _ _ _ h
      · have h := ob_f h hc2
        refine vi_iload_n C 3 dJ6_stringSize_0f7a4_27 rfl ?_
        refine vi_iload_n C 1 dJ6_stringSize_0f7a4_28 rfl ?_
        refine vi_iadd C dJ6_stringSize_0f7a4_29 ?_
        exact vi_donei0  RET h dJ6_stringSize_0f7a4_30
def fJ6_stringSize_0f7a4 (x1 : Int32) : Option (Int32) := (if x1 < 0 then fJ6_stringSize_0f7a4_16 vF x1 (1 : Int32) (-10 : Int32) (1 : Int32) else bd ((-x1 : Int32)) fun y2 => fJ6_stringSize_0f7a4_16 vF y2 (0 : Int32) (-10 : Int32) (1 : Int32))
set_option maxRecDepth 100000 in
set_option maxHeartbeats 4000000 in
theorem kJ6_stringSize_0f7a4_e {E : (Nat → Prop) → State → Heap → Prop} {p : Program} {l : Launch} {e : Env} {s : State} {m : MethodId} {args : Array Value} {below : List Frame} {meth : Method} {c : Code} {A : Nat → Prop} {D : va_G} {cI cF cC cS cO cB cZ : ClassId} {Q : State → Prop} (C : vC E p l s m args meth c A D (vT7 cI cF cC cS cO cB cZ) cJ6_stringSize_0f7a4 4 RJ6) {r0 : Int32} (RET : ∀ (pc : Nat) (lv : List (Nat × Value)), decode cJ6_stringSize_0f7a4 pc = .ok (.ireturn, 1) → vV p l e { frames := 0, cells := 0, slots := 0, locals := 0 } s m args below meth c A D 4 0 0 Q [] pc lv [.int r0]) {x1 : Int32} (h : fJ6_stringSize_0f7a4 x1 = some r0) : vV p l e { frames := 0, cells := 0, slots := 0, locals := 0 } s m args below meth c A D 4 0 0 Q [] 0 [(0, .int x1)] [] := by
  rw [fJ6_stringSize_0f7a4] at h
  refine vi_iconst (v := 1) C dJ6_stringSize_0f7a4_0 (by decide) ?_
  refine vi_istore_n (lv' := [(1, .int (1 : Int32)), (0, .int x1)]) C dJ6_stringSize_0f7a4_1 rfl (by decide) rfl ?_
  refine vi_iload_n C 1 dJ6_stringSize_0f7a4_2 rfl ?_
  refine vi_if_lt (tgt := 11) C dJ6_stringSize_0f7a4_3 (by decide) (fun hc1 => ?_) (fun hc1 => ?_)
  · have h := ob_t h hc1
    refine vi_bipush (v := (-10)) C dJ6_stringSize_0f7a4_11 (by decide) ?_
    refine vi_istore_n (lv' := [(2, .int (-10 : Int32)), (1, .int (1 : Int32)), (0, .int x1)]) C dJ6_stringSize_0f7a4_13 rfl (by decide) rfl ?_
    refine vi_iconst (v := 1) C dJ6_stringSize_0f7a4_14 (by decide) ?_
    refine vi_istore_n (lv' := [(3, .int (1 : Int32)), (2, .int (-10 : Int32)), (1, .int (1 : Int32)), (0, .int x1)]) C dJ6_stringSize_0f7a4_15 rfl (by decide) rfl ?_
    refine vi_sub C [3, 2, 1, 0] rfl ?_
    exact kJ6_stringSize_0f7a4_16 C RET  vF _ _ _ _ h
  · have h := ob_f h hc1
    refine vi_iconst (v := 0) C dJ6_stringSize_0f7a4_6 (by decide) ?_
    refine vi_istore_n (lv' := [(1, .int (0 : Int32)), (0, .int x1)]) C dJ6_stringSize_0f7a4_7 rfl (by decide) rfl ?_
    refine vi_iload_n C 1 dJ6_stringSize_0f7a4_8 rfl ?_
    refine vi_ineg C dJ6_stringSize_0f7a4_9 ?_
    obtain ⟨y2, ey2, h⟩ := ob_nm h
    refine vi_nmi ey2 ?_
    refine vi_istore_n (lv' := [(0, .int y2), (1, .int (0 : Int32))]) C dJ6_stringSize_0f7a4_10 rfl (by decide) rfl ?_
    refine vi_bipush (v := (-10)) C dJ6_stringSize_0f7a4_11 (by decide) ?_
    refine vi_istore_n (lv' := [(2, .int (-10 : Int32)), (0, .int y2), (1, .int (0 : Int32))]) C dJ6_stringSize_0f7a4_13 rfl (by decide) rfl ?_
    refine vi_iconst (v := 1) C dJ6_stringSize_0f7a4_14 (by decide) ?_
    refine vi_istore_n (lv' := [(3, .int (1 : Int32)), (2, .int (-10 : Int32)), (0, .int y2), (1, .int (0 : Int32))]) C dJ6_stringSize_0f7a4_15 rfl (by decide) rfl ?_
    refine vi_sub C [2, 3, 1, 0] rfl ?_
    exact kJ6_stringSize_0f7a4_16 C RET  vF _ _ _ _ h
theorem mJ6_stringSize_0f7a4 {E : (Nat → Prop) → State → Heap → Prop} (hE : vEok E) {l : Launch} {D : va_G} {cI cF cC cS cO cB cZ : ClassId} {r0 : Int32}  {x1 : Int32} (h : fJ6_stringSize_0f7a4 x1 = some r0) : vM E l yJ6_stringSize_0f7a4 cJ6_stringSize_0f7a4 4 (some .int) 0 0 D (vT7 cI cF cC cS cO cB cZ) [.int x1] [] (vQi D [] r0) :=
  vM_ofF hE (by decide +kernel) (Nat.le_of_ble_eq_true rfl) (fun p e s m args below meth c A C hr => kJ6_stringSize_0f7a4_e C (vi_reti C hr) h)
def fJ6_numberOfLeadingZeros_0f7a4_61 (x1 : Int32) (x2 : Int32) : Option (Int32) := (if x1 < (4 : Int32) then some (x2 - ((Int32.toUInt32 x1 >>> (Int32.toUInt32 (1 : Int32) &&& Int32.toUInt32 31)).toInt32)) else bd ((x2 + (-2) : Int32)) fun y2 => bd (((Int32.toUInt32 x1 >>> (Int32.toUInt32 (2 : Int32) &&& Int32.toUInt32 31)).toInt32 : Int32)) fun y3 => some (y2 - ((Int32.toUInt32 y3 >>> (Int32.toUInt32 (1 : Int32) &&& Int32.toUInt32 31)).toInt32)))
set_option maxRecDepth 100000 in
set_option maxHeartbeats 4000000 in
theorem kJ6_numberOfLeadingZeros_0f7a4_61 {E : (Nat → Prop) → State → Heap → Prop} {p : Program} {l : Launch} {e : Env} {s : State} {m : MethodId} {args : Array Value} {below : List Frame} {meth : Method} {c : Code} {A : Nat → Prop} {D : va_G} {cI cF cC cS cO cB cZ : ClassId} {Q : State → Prop} (C : vC E p l s m args meth c A D (vT7 cI cF cC cS cO cB cZ) cJ6_numberOfLeadingZeros_0f7a4 2 RJ6) {r0 : Int32} (RET : ∀ (pc : Nat) (lv : List (Nat × Value)), decode cJ6_numberOfLeadingZeros_0f7a4 pc = .ok (.ireturn, 1) → vV p l e { frames := 0, cells := 0, slots := 0, locals := 0 } s m args below meth c A D 2 0 0 Q [] pc lv [.int r0]) : ∀ (x1 : Int32) (x2 : Int32), fJ6_numberOfLeadingZeros_0f7a4_61 x1 x2 = some r0 → vV p l e { frames := 0, cells := 0, slots := 0, locals := 0 } s m args below meth c A D 2 0 0 Q [] 61 [(0, .int x1), (1, .int x2)] [] := by
  intro x1 x2 h
  rw [fJ6_numberOfLeadingZeros_0f7a4_61] at h
  refine vi_iload_n C 0 dJ6_numberOfLeadingZeros_0f7a4_61 rfl ?_
  refine vi_iconst (v := 4) C dJ6_numberOfLeadingZeros_0f7a4_62 (by decide) ?_
  refine vi_icmp_lt (tgt := 73) C dJ6_numberOfLeadingZeros_0f7a4_63 (by decide) (fun hc1 => ?_) (fun hc1 => ?_)
  · have h := ob_t h hc1
    refine vi_iload_n C 1 dJ6_numberOfLeadingZeros_0f7a4_73 rfl ?_
    refine vi_iload_n C 0 dJ6_numberOfLeadingZeros_0f7a4_74 rfl ?_
    refine vi_iconst (v := 1) C dJ6_numberOfLeadingZeros_0f7a4_75 (by decide) ?_
    refine vi_iushr C dJ6_numberOfLeadingZeros_0f7a4_76 ?_
    refine vi_isub C dJ6_numberOfLeadingZeros_0f7a4_77 ?_
    exact vi_donei0  RET h dJ6_numberOfLeadingZeros_0f7a4_78
  · have h := ob_f h hc1
    obtain ⟨y2, ey2, h⟩ := ob_nm h
    refine vi_iinc (v := y2) (lv' := [(1, .int y2), (0, .int x1)]) C 1 dJ6_numberOfLeadingZeros_0f7a4_66 rfl (by rw [ey2]; rfl) (by decide) rfl ?_
    refine vi_iload_n C 1 dJ6_numberOfLeadingZeros_0f7a4_69 rfl ?_
    refine vi_iconst (v := 2) C dJ6_numberOfLeadingZeros_0f7a4_70 (by decide) ?_
    refine vi_iushr C dJ6_numberOfLeadingZeros_0f7a4_71 ?_
    obtain ⟨y3, ey3, h⟩ := ob_nm h
    refine vi_nmi ey3 ?_
    refine vi_istore_n (lv' := [(0, .int y3), (1, .int y2)]) C dJ6_numberOfLeadingZeros_0f7a4_72 rfl (by decide) rfl ?_
    refine vi_iload_n C 1 dJ6_numberOfLeadingZeros_0f7a4_73 rfl ?_
    refine vi_iload_n C 0 dJ6_numberOfLeadingZeros_0f7a4_74 rfl ?_
    refine vi_iconst (v := 1) C dJ6_numberOfLeadingZeros_0f7a4_75 (by decide) ?_
    refine vi_iushr C dJ6_numberOfLeadingZeros_0f7a4_76 ?_
    refine vi_isub C dJ6_numberOfLeadingZeros_0f7a4_77 ?_
    exact vi_donei0  RET h dJ6_numberOfLeadingZeros_0f7a4_78
def fJ6_numberOfLeadingZeros_0f7a4_48 (x1 : Int32) (x2 : Int32) : Option (Int32) := (if x1 < (16 : Int32) then fJ6_numberOfLeadingZeros_0f7a4_61 x1 x2 else bd ((x2 + (-4) : Int32)) fun y2 => bd (((Int32.toUInt32 x1 >>> (Int32.toUInt32 (4 : Int32) &&& Int32.toUInt32 31)).toInt32 : Int32)) fun y3 => fJ6_numberOfLeadingZeros_0f7a4_61 y3 y2)
set_option maxRecDepth 100000 in
set_option maxHeartbeats 4000000 in
theorem kJ6_numberOfLeadingZeros_0f7a4_48 {E : (Nat → Prop) → State → Heap → Prop} {p : Program} {l : Launch} {e : Env} {s : State} {m : MethodId} {args : Array Value} {below : List Frame} {meth : Method} {c : Code} {A : Nat → Prop} {D : va_G} {cI cF cC cS cO cB cZ : ClassId} {Q : State → Prop} (C : vC E p l s m args meth c A D (vT7 cI cF cC cS cO cB cZ) cJ6_numberOfLeadingZeros_0f7a4 2 RJ6) {r0 : Int32} (RET : ∀ (pc : Nat) (lv : List (Nat × Value)), decode cJ6_numberOfLeadingZeros_0f7a4 pc = .ok (.ireturn, 1) → vV p l e { frames := 0, cells := 0, slots := 0, locals := 0 } s m args below meth c A D 2 0 0 Q [] pc lv [.int r0]) : ∀ (x1 : Int32) (x2 : Int32), fJ6_numberOfLeadingZeros_0f7a4_48 x1 x2 = some r0 → vV p l e { frames := 0, cells := 0, slots := 0, locals := 0 } s m args below meth c A D 2 0 0 Q [] 48 [(0, .int x1), (1, .int x2)] [] := by
  intro x1 x2 h
  rw [fJ6_numberOfLeadingZeros_0f7a4_48] at h
  refine vi_iload_n C 0 dJ6_numberOfLeadingZeros_0f7a4_48 rfl ?_
  refine vi_bipush (v := 16) C dJ6_numberOfLeadingZeros_0f7a4_49 (by decide) ?_
  refine vi_icmp_lt (tgt := 61) C dJ6_numberOfLeadingZeros_0f7a4_51 (by decide) (fun hc1 => ?_) (fun hc1 => ?_)
  · have h := ob_t h hc1
    refine vi_sub C [0, 1] rfl ?_
    exact kJ6_numberOfLeadingZeros_0f7a4_61 C RET   _ _ h
  · have h := ob_f h hc1
    obtain ⟨y2, ey2, h⟩ := ob_nm h
    refine vi_iinc (v := y2) (lv' := [(1, .int y2), (0, .int x1)]) C 1 dJ6_numberOfLeadingZeros_0f7a4_54 rfl (by rw [ey2]; rfl) (by decide) rfl ?_
    refine vi_iload_n C 1 dJ6_numberOfLeadingZeros_0f7a4_57 rfl ?_
    refine vi_iconst (v := 4) C dJ6_numberOfLeadingZeros_0f7a4_58 (by decide) ?_
    refine vi_iushr C dJ6_numberOfLeadingZeros_0f7a4_59 ?_
    obtain ⟨y3, ey3, h⟩ := ob_nm h
    refine vi_nmi ey3 ?_
    refine vi_istore_n (lv' := [(0, .int y3), (1, .int y2)]) C dJ6_numberOfLeadingZeros_0f7a4_60 rfl (by decide) rfl ?_
    refine vi_sub C [0, 1] rfl ?_
    exact kJ6_numberOfLeadingZeros_0f7a4_61 C RET   _ _ h
def fJ6_numberOfLeadingZeros_0f7a4_33 (x1 : Int32) (x2 : Int32) : Option (Int32) := (if x1 < (256 : Int32) then fJ6_numberOfLeadingZeros_0f7a4_48 x1 x2 else bd ((x2 + (-8) : Int32)) fun y2 => bd (((Int32.toUInt32 x1 >>> (Int32.toUInt32 (8 : Int32) &&& Int32.toUInt32 31)).toInt32 : Int32)) fun y3 => fJ6_numberOfLeadingZeros_0f7a4_48 y3 y2)
set_option maxRecDepth 100000 in
set_option maxHeartbeats 4000000 in
theorem kJ6_numberOfLeadingZeros_0f7a4_33 {E : (Nat → Prop) → State → Heap → Prop} {p : Program} {l : Launch} {e : Env} {s : State} {m : MethodId} {args : Array Value} {below : List Frame} {meth : Method} {c : Code} {A : Nat → Prop} {D : va_G} {cI cF cC cS cO cB cZ : ClassId} {Q : State → Prop} (C : vC E p l s m args meth c A D (vT7 cI cF cC cS cO cB cZ) cJ6_numberOfLeadingZeros_0f7a4 2 RJ6) {r0 : Int32} (RET : ∀ (pc : Nat) (lv : List (Nat × Value)), decode cJ6_numberOfLeadingZeros_0f7a4 pc = .ok (.ireturn, 1) → vV p l e { frames := 0, cells := 0, slots := 0, locals := 0 } s m args below meth c A D 2 0 0 Q [] pc lv [.int r0]) : ∀ (x1 : Int32) (x2 : Int32), fJ6_numberOfLeadingZeros_0f7a4_33 x1 x2 = some r0 → vV p l e { frames := 0, cells := 0, slots := 0, locals := 0 } s m args below meth c A D 2 0 0 Q [] 33 [(0, .int x1), (1, .int x2)] [] := by
  intro x1 x2 h
  rw [fJ6_numberOfLeadingZeros_0f7a4_33] at h
  refine vi_iload_n C 0 dJ6_numberOfLeadingZeros_0f7a4_33 rfl ?_
  refine vi_sipush (v := 256) C dJ6_numberOfLeadingZeros_0f7a4_34 (by decide) ?_
  refine vi_icmp_lt (tgt := 48) C dJ6_numberOfLeadingZeros_0f7a4_37 (by decide) (fun hc1 => ?_) (fun hc1 => ?_)
  · have h := ob_t h hc1
    refine vi_sub C [0, 1] rfl ?_
    exact kJ6_numberOfLeadingZeros_0f7a4_48 C RET   _ _ h
  · have h := ob_f h hc1
    obtain ⟨y2, ey2, h⟩ := ob_nm h
    refine vi_iinc (v := y2) (lv' := [(1, .int y2), (0, .int x1)]) C 1 dJ6_numberOfLeadingZeros_0f7a4_40 rfl (by rw [ey2]; rfl) (by decide) rfl ?_
    refine vi_iload_n C 1 dJ6_numberOfLeadingZeros_0f7a4_43 rfl ?_
    refine vi_bipush (v := 8) C dJ6_numberOfLeadingZeros_0f7a4_44 (by decide) ?_
    refine vi_iushr C dJ6_numberOfLeadingZeros_0f7a4_46 ?_
    obtain ⟨y3, ey3, h⟩ := ob_nm h
    refine vi_nmi ey3 ?_
    refine vi_istore_n (lv' := [(0, .int y3), (1, .int y2)]) C dJ6_numberOfLeadingZeros_0f7a4_47 rfl (by decide) rfl ?_
    refine vi_sub C [0, 1] rfl ?_
    exact kJ6_numberOfLeadingZeros_0f7a4_48 C RET   _ _ h
def fJ6_numberOfLeadingZeros_0f7a4 (x1 : Int32) : Option (Int32) := (if 0 < x1 then (if x1 < (65536 : Int32) then fJ6_numberOfLeadingZeros_0f7a4_33 x1 (31 : Int32) else bd (((31 : Int32) + (-16) : Int32)) fun y3 => bd (((Int32.toUInt32 x1 >>> (Int32.toUInt32 (16 : Int32) &&& Int32.toUInt32 31)).toInt32 : Int32)) fun y4 => fJ6_numberOfLeadingZeros_0f7a4_33 y4 y3) else (if x1 = 0 then some (32 : Int32) else some (0 : Int32)))
set_option maxRecDepth 100000 in
set_option maxHeartbeats 4000000 in
theorem kJ6_numberOfLeadingZeros_0f7a4_e {E : (Nat → Prop) → State → Heap → Prop} {p : Program} {l : Launch} {e : Env} {s : State} {m : MethodId} {args : Array Value} {below : List Frame} {meth : Method} {c : Code} {A : Nat → Prop} {D : va_G} {cI cF cC cS cO cB cZ : ClassId} {Q : State → Prop} (C : vC E p l s m args meth c A D (vT7 cI cF cC cS cO cB cZ) cJ6_numberOfLeadingZeros_0f7a4 2 RJ6) {r0 : Int32} (RET : ∀ (pc : Nat) (lv : List (Nat × Value)), decode cJ6_numberOfLeadingZeros_0f7a4 pc = .ok (.ireturn, 1) → vV p l e { frames := 0, cells := 0, slots := 0, locals := 0 } s m args below meth c A D 2 0 0 Q [] pc lv [.int r0]) {x1 : Int32} (h : fJ6_numberOfLeadingZeros_0f7a4 x1 = some r0) : vV p l e { frames := 0, cells := 0, slots := 0, locals := 0 } s m args below meth c A D 2 0 0 Q [] 0 [(0, .int x1)] [] := by
  rw [fJ6_numberOfLeadingZeros_0f7a4] at h
  refine vi_iload_n C 0 dJ6_numberOfLeadingZeros_0f7a4_0 rfl ?_
  refine vi_if_gt (tgt := 15) C dJ6_numberOfLeadingZeros_0f7a4_1 (by decide) (fun hc1 => ?_) (fun hc1 => ?_)
  · have h := ob_t h hc1
    refine vi_bipush (v := 31) C dJ6_numberOfLeadingZeros_0f7a4_15 (by decide) ?_
    refine vi_istore_n (lv' := [(1, .int (31 : Int32)), (0, .int x1)]) C dJ6_numberOfLeadingZeros_0f7a4_17 rfl (by decide) rfl ?_
    refine vi_iload_n C 1 dJ6_numberOfLeadingZeros_0f7a4_18 rfl ?_
    refine vi_ldcw (v := 65536) C dJ6_numberOfLeadingZeros_0f7a4_19 tkJ6_264 ?_
    refine vi_icmp_lt (tgt := 33) C dJ6_numberOfLeadingZeros_0f7a4_22 (by decide) (fun hc2 => ?_) (fun hc2 => ?_)
    · have h := ob_t h hc2
      refine vi_sub C [1, 0] rfl ?_
      exact kJ6_numberOfLeadingZeros_0f7a4_33 C RET   _ _ h
    · have h := ob_f h hc2
      obtain ⟨y3, ey3, h⟩ := ob_nm h
      refine vi_iinc (v := y3) (lv' := [(1, .int y3), (0, .int x1)]) C 0 dJ6_numberOfLeadingZeros_0f7a4_25 rfl (by rw [ey3]; rfl) (by decide) rfl ?_
      refine vi_iload_n C 1 dJ6_numberOfLeadingZeros_0f7a4_28 rfl ?_
      refine vi_bipush (v := 16) C dJ6_numberOfLeadingZeros_0f7a4_29 (by decide) ?_
      refine vi_iushr C dJ6_numberOfLeadingZeros_0f7a4_31 ?_
      obtain ⟨y4, ey4, h⟩ := ob_nm h
      refine vi_nmi ey4 ?_
      refine vi_istore_n (lv' := [(0, .int y4), (1, .int y3)]) C dJ6_numberOfLeadingZeros_0f7a4_32 rfl (by decide) rfl ?_
      refine vi_sub C [0, 1] rfl ?_
      exact kJ6_numberOfLeadingZeros_0f7a4_33 C RET   _ _ h
  · have h := ob_f h hc1
    refine vi_iload_n C 0 dJ6_numberOfLeadingZeros_0f7a4_4 rfl ?_
    refine vi_if_ne (tgt := 13) C dJ6_numberOfLeadingZeros_0f7a4_5 (by decide) (fun hc5 => ?_) (fun hc5 => ?_)
    · have h := ob_f h hc5
      refine vi_iconst (v := 0) C dJ6_numberOfLeadingZeros_0f7a4_13 (by decide) ?_
      exact vi_donei0  RET h dJ6_numberOfLeadingZeros_0f7a4_14
    · have h := ob_t h hc5
      refine vi_bipush (v := 32) C dJ6_numberOfLeadingZeros_0f7a4_8 (by decide) ?_
      refine vi_goto (tgt := 14) C dJ6_numberOfLeadingZeros_0f7a4_10 (by decide) ?_
      exact vi_donei0  RET h dJ6_numberOfLeadingZeros_0f7a4_14
theorem mJ6_numberOfLeadingZeros_0f7a4 {E : (Nat → Prop) → State → Heap → Prop} (hE : vEok E) {l : Launch} {D : va_G} {cI cF cC cS cO cB cZ : ClassId} {r0 : Int32}  {x1 : Int32} (h : fJ6_numberOfLeadingZeros_0f7a4 x1 = some r0) : vM E l yJ6_numberOfLeadingZeros_0f7a4 cJ6_numberOfLeadingZeros_0f7a4 2 (some .int) 0 0 D (vT7 cI cF cC cS cO cB cZ) [.int x1] [] (vQi D [] r0) :=
  vM_ofF hE (by decide +kernel) (Nat.le_of_ble_eq_true rfl) (fun p e s m args below meth c A C hr => kJ6_numberOfLeadingZeros_0f7a4_e C (vi_reti C hr) h)
def fJ6_numberOfTrailingZeros_0f7a4_62 (x1 : Int32) (x2 : Int32) : Option (Int32) := (if x1 ≤ (4 : Int32) then some (x2 + ((Int32.toUInt32 x1 >>> (Int32.toUInt32 (1 : Int32) &&& Int32.toUInt32 31)).toInt32)) else bd ((x2 + 2 : Int32)) fun y2 => bd (((Int32.toUInt32 x1 >>> (Int32.toUInt32 (2 : Int32) &&& Int32.toUInt32 31)).toInt32 : Int32)) fun y3 => some (y2 + ((Int32.toUInt32 y3 >>> (Int32.toUInt32 (1 : Int32) &&& Int32.toUInt32 31)).toInt32)))
set_option maxRecDepth 100000 in
set_option maxHeartbeats 4000000 in
theorem kJ6_numberOfTrailingZeros_0f7a4_62 {E : (Nat → Prop) → State → Heap → Prop} {p : Program} {l : Launch} {e : Env} {s : State} {m : MethodId} {args : Array Value} {below : List Frame} {meth : Method} {c : Code} {A : Nat → Prop} {D : va_G} {cI cF cC cS cO cB cZ : ClassId} {Q : State → Prop} (C : vC E p l s m args meth c A D (vT7 cI cF cC cS cO cB cZ) cJ6_numberOfTrailingZeros_0f7a4 2 RJ6) {r0 : Int32} (RET : ∀ (pc : Nat) (lv : List (Nat × Value)), decode cJ6_numberOfTrailingZeros_0f7a4 pc = .ok (.ireturn, 1) → vV p l e { frames := 0, cells := 0, slots := 0, locals := 0 } s m args below meth c A D 2 0 0 Q [] pc lv [.int r0]) : ∀ (x1 : Int32) (x2 : Int32), fJ6_numberOfTrailingZeros_0f7a4_62 x1 x2 = some r0 → vV p l e { frames := 0, cells := 0, slots := 0, locals := 0 } s m args below meth c A D 2 0 0 Q [] 62 [(0, .int x1), (1, .int x2)] [] := by
  intro x1 x2 h
  rw [fJ6_numberOfTrailingZeros_0f7a4_62] at h
  refine vi_iload_n C 0 dJ6_numberOfTrailingZeros_0f7a4_62 rfl ?_
  refine vi_iconst (v := 4) C dJ6_numberOfTrailingZeros_0f7a4_63 (by decide) ?_
  refine vi_icmp_le (tgt := 74) C dJ6_numberOfTrailingZeros_0f7a4_64 (by decide) (fun hc1 => ?_) (fun hc1 => ?_)
  · have h := ob_t h hc1
    refine vi_iload_n C 1 dJ6_numberOfTrailingZeros_0f7a4_74 rfl ?_
    refine vi_iload_n C 0 dJ6_numberOfTrailingZeros_0f7a4_75 rfl ?_
    refine vi_iconst (v := 1) C dJ6_numberOfTrailingZeros_0f7a4_76 (by decide) ?_
    refine vi_iushr C dJ6_numberOfTrailingZeros_0f7a4_77 ?_
    refine vi_iadd C dJ6_numberOfTrailingZeros_0f7a4_78 ?_
    exact vi_donei0  RET h dJ6_numberOfTrailingZeros_0f7a4_79
  · have h := ob_f h hc1
    obtain ⟨y2, ey2, h⟩ := ob_nm h
    refine vi_iinc (v := y2) (lv' := [(1, .int y2), (0, .int x1)]) C 1 dJ6_numberOfTrailingZeros_0f7a4_67 rfl (by rw [ey2]; rfl) (by decide) rfl ?_
    refine vi_iload_n C 1 dJ6_numberOfTrailingZeros_0f7a4_70 rfl ?_
    refine vi_iconst (v := 2) C dJ6_numberOfTrailingZeros_0f7a4_71 (by decide) ?_
    refine vi_iushr C dJ6_numberOfTrailingZeros_0f7a4_72 ?_
    obtain ⟨y3, ey3, h⟩ := ob_nm h
    refine vi_nmi ey3 ?_
    refine vi_istore_n (lv' := [(0, .int y3), (1, .int y2)]) C dJ6_numberOfTrailingZeros_0f7a4_73 rfl (by decide) rfl ?_
    refine vi_iload_n C 1 dJ6_numberOfTrailingZeros_0f7a4_74 rfl ?_
    refine vi_iload_n C 0 dJ6_numberOfTrailingZeros_0f7a4_75 rfl ?_
    refine vi_iconst (v := 1) C dJ6_numberOfTrailingZeros_0f7a4_76 (by decide) ?_
    refine vi_iushr C dJ6_numberOfTrailingZeros_0f7a4_77 ?_
    refine vi_iadd C dJ6_numberOfTrailingZeros_0f7a4_78 ?_
    exact vi_donei0  RET h dJ6_numberOfTrailingZeros_0f7a4_79
def fJ6_numberOfTrailingZeros_0f7a4_49 (x1 : Int32) (x2 : Int32) : Option (Int32) := (if x1 ≤ (16 : Int32) then fJ6_numberOfTrailingZeros_0f7a4_62 x1 x2 else bd ((x2 + 4 : Int32)) fun y2 => bd (((Int32.toUInt32 x1 >>> (Int32.toUInt32 (4 : Int32) &&& Int32.toUInt32 31)).toInt32 : Int32)) fun y3 => fJ6_numberOfTrailingZeros_0f7a4_62 y3 y2)
set_option maxRecDepth 100000 in
set_option maxHeartbeats 4000000 in
theorem kJ6_numberOfTrailingZeros_0f7a4_49 {E : (Nat → Prop) → State → Heap → Prop} {p : Program} {l : Launch} {e : Env} {s : State} {m : MethodId} {args : Array Value} {below : List Frame} {meth : Method} {c : Code} {A : Nat → Prop} {D : va_G} {cI cF cC cS cO cB cZ : ClassId} {Q : State → Prop} (C : vC E p l s m args meth c A D (vT7 cI cF cC cS cO cB cZ) cJ6_numberOfTrailingZeros_0f7a4 2 RJ6) {r0 : Int32} (RET : ∀ (pc : Nat) (lv : List (Nat × Value)), decode cJ6_numberOfTrailingZeros_0f7a4 pc = .ok (.ireturn, 1) → vV p l e { frames := 0, cells := 0, slots := 0, locals := 0 } s m args below meth c A D 2 0 0 Q [] pc lv [.int r0]) : ∀ (x1 : Int32) (x2 : Int32), fJ6_numberOfTrailingZeros_0f7a4_49 x1 x2 = some r0 → vV p l e { frames := 0, cells := 0, slots := 0, locals := 0 } s m args below meth c A D 2 0 0 Q [] 49 [(0, .int x1), (1, .int x2)] [] := by
  intro x1 x2 h
  rw [fJ6_numberOfTrailingZeros_0f7a4_49] at h
  refine vi_iload_n C 0 dJ6_numberOfTrailingZeros_0f7a4_49 rfl ?_
  refine vi_bipush (v := 16) C dJ6_numberOfTrailingZeros_0f7a4_50 (by decide) ?_
  refine vi_icmp_le (tgt := 62) C dJ6_numberOfTrailingZeros_0f7a4_52 (by decide) (fun hc1 => ?_) (fun hc1 => ?_)
  · have h := ob_t h hc1
    refine vi_sub C [0, 1] rfl ?_
    exact kJ6_numberOfTrailingZeros_0f7a4_62 C RET   _ _ h
  · have h := ob_f h hc1
    obtain ⟨y2, ey2, h⟩ := ob_nm h
    refine vi_iinc (v := y2) (lv' := [(1, .int y2), (0, .int x1)]) C 1 dJ6_numberOfTrailingZeros_0f7a4_55 rfl (by rw [ey2]; rfl) (by decide) rfl ?_
    refine vi_iload_n C 1 dJ6_numberOfTrailingZeros_0f7a4_58 rfl ?_
    refine vi_iconst (v := 4) C dJ6_numberOfTrailingZeros_0f7a4_59 (by decide) ?_
    refine vi_iushr C dJ6_numberOfTrailingZeros_0f7a4_60 ?_
    obtain ⟨y3, ey3, h⟩ := ob_nm h
    refine vi_nmi ey3 ?_
    refine vi_istore_n (lv' := [(0, .int y3), (1, .int y2)]) C dJ6_numberOfTrailingZeros_0f7a4_61 rfl (by decide) rfl ?_
    refine vi_sub C [0, 1] rfl ?_
    exact kJ6_numberOfTrailingZeros_0f7a4_62 C RET   _ _ h
def fJ6_numberOfTrailingZeros_0f7a4_34 (x1 : Int32) (x2 : Int32) : Option (Int32) := (if x1 ≤ (256 : Int32) then fJ6_numberOfTrailingZeros_0f7a4_49 x1 x2 else bd ((x2 + 8 : Int32)) fun y2 => bd (((Int32.toUInt32 x1 >>> (Int32.toUInt32 (8 : Int32) &&& Int32.toUInt32 31)).toInt32 : Int32)) fun y3 => fJ6_numberOfTrailingZeros_0f7a4_49 y3 y2)
set_option maxRecDepth 100000 in
set_option maxHeartbeats 4000000 in
theorem kJ6_numberOfTrailingZeros_0f7a4_34 {E : (Nat → Prop) → State → Heap → Prop} {p : Program} {l : Launch} {e : Env} {s : State} {m : MethodId} {args : Array Value} {below : List Frame} {meth : Method} {c : Code} {A : Nat → Prop} {D : va_G} {cI cF cC cS cO cB cZ : ClassId} {Q : State → Prop} (C : vC E p l s m args meth c A D (vT7 cI cF cC cS cO cB cZ) cJ6_numberOfTrailingZeros_0f7a4 2 RJ6) {r0 : Int32} (RET : ∀ (pc : Nat) (lv : List (Nat × Value)), decode cJ6_numberOfTrailingZeros_0f7a4 pc = .ok (.ireturn, 1) → vV p l e { frames := 0, cells := 0, slots := 0, locals := 0 } s m args below meth c A D 2 0 0 Q [] pc lv [.int r0]) : ∀ (x1 : Int32) (x2 : Int32), fJ6_numberOfTrailingZeros_0f7a4_34 x1 x2 = some r0 → vV p l e { frames := 0, cells := 0, slots := 0, locals := 0 } s m args below meth c A D 2 0 0 Q [] 34 [(0, .int x1), (1, .int x2)] [] := by
  intro x1 x2 h
  rw [fJ6_numberOfTrailingZeros_0f7a4_34] at h
  refine vi_iload_n C 0 dJ6_numberOfTrailingZeros_0f7a4_34 rfl ?_
  refine vi_sipush (v := 256) C dJ6_numberOfTrailingZeros_0f7a4_35 (by decide) ?_
  refine vi_icmp_le (tgt := 49) C dJ6_numberOfTrailingZeros_0f7a4_38 (by decide) (fun hc1 => ?_) (fun hc1 => ?_)
  · have h := ob_t h hc1
    refine vi_sub C [0, 1] rfl ?_
    exact kJ6_numberOfTrailingZeros_0f7a4_49 C RET   _ _ h
  · have h := ob_f h hc1
    obtain ⟨y2, ey2, h⟩ := ob_nm h
    refine vi_iinc (v := y2) (lv' := [(1, .int y2), (0, .int x1)]) C 1 dJ6_numberOfTrailingZeros_0f7a4_41 rfl (by rw [ey2]; rfl) (by decide) rfl ?_
    refine vi_iload_n C 1 dJ6_numberOfTrailingZeros_0f7a4_44 rfl ?_
    refine vi_bipush (v := 8) C dJ6_numberOfTrailingZeros_0f7a4_45 (by decide) ?_
    refine vi_iushr C dJ6_numberOfTrailingZeros_0f7a4_47 ?_
    obtain ⟨y3, ey3, h⟩ := ob_nm h
    refine vi_nmi ey3 ?_
    refine vi_istore_n (lv' := [(0, .int y3), (1, .int y2)]) C dJ6_numberOfTrailingZeros_0f7a4_48 rfl (by decide) rfl ?_
    refine vi_sub C [0, 1] rfl ?_
    exact kJ6_numberOfTrailingZeros_0f7a4_49 C RET   _ _ h
def fJ6_numberOfTrailingZeros_0f7a4 (x1 : Int32) : Option (Int32) := bd (((x1 ^^^ (-1 : Int32)) &&& (x1 - (1 : Int32)) : Int32)) fun y1 => (if 0 < y1 then (if y1 ≤ (65536 : Int32) then fJ6_numberOfTrailingZeros_0f7a4_34 y1 (1 : Int32) else bd (((1 : Int32) + 16 : Int32)) fun y4 => bd (((Int32.toUInt32 y1 >>> (Int32.toUInt32 (16 : Int32) &&& Int32.toUInt32 31)).toInt32 : Int32)) fun y5 => fJ6_numberOfTrailingZeros_0f7a4_34 y5 y4) else some (y1 &&& (32 : Int32)))
set_option maxRecDepth 100000 in
set_option maxHeartbeats 4000000 in
theorem kJ6_numberOfTrailingZeros_0f7a4_e {E : (Nat → Prop) → State → Heap → Prop} {p : Program} {l : Launch} {e : Env} {s : State} {m : MethodId} {args : Array Value} {below : List Frame} {meth : Method} {c : Code} {A : Nat → Prop} {D : va_G} {cI cF cC cS cO cB cZ : ClassId} {Q : State → Prop} (C : vC E p l s m args meth c A D (vT7 cI cF cC cS cO cB cZ) cJ6_numberOfTrailingZeros_0f7a4 2 RJ6) {r0 : Int32} (RET : ∀ (pc : Nat) (lv : List (Nat × Value)), decode cJ6_numberOfTrailingZeros_0f7a4 pc = .ok (.ireturn, 1) → vV p l e { frames := 0, cells := 0, slots := 0, locals := 0 } s m args below meth c A D 2 0 0 Q [] pc lv [.int r0]) {x1 : Int32} (h : fJ6_numberOfTrailingZeros_0f7a4 x1 = some r0) : vV p l e { frames := 0, cells := 0, slots := 0, locals := 0 } s m args below meth c A D 2 0 0 Q [] 0 [(0, .int x1)] [] := by
  rw [fJ6_numberOfTrailingZeros_0f7a4] at h
  refine vi_iload_n C 0 dJ6_numberOfTrailingZeros_0f7a4_0 rfl ?_
  refine vi_iconst (v := (-1)) C dJ6_numberOfTrailingZeros_0f7a4_1 (by decide) ?_
  refine vi_ixor C dJ6_numberOfTrailingZeros_0f7a4_2 ?_
  refine vi_iload_n C 0 dJ6_numberOfTrailingZeros_0f7a4_3 rfl ?_
  refine vi_iconst (v := 1) C dJ6_numberOfTrailingZeros_0f7a4_4 (by decide) ?_
  refine vi_isub C dJ6_numberOfTrailingZeros_0f7a4_5 ?_
  refine vi_iand C dJ6_numberOfTrailingZeros_0f7a4_6 ?_
  obtain ⟨y1, ey1, h⟩ := ob_nm h
  refine vi_nmi ey1 ?_
  refine vi_istore_n (lv' := [(0, .int y1)]) C dJ6_numberOfTrailingZeros_0f7a4_7 rfl (by decide) rfl ?_
  refine vi_iload_n C 0 dJ6_numberOfTrailingZeros_0f7a4_8 rfl ?_
  refine vi_if_gt (tgt := 17) C dJ6_numberOfTrailingZeros_0f7a4_9 (by decide) (fun hc2 => ?_) (fun hc2 => ?_)
  · have h := ob_t h hc2
    refine vi_iconst (v := 1) C dJ6_numberOfTrailingZeros_0f7a4_17 (by decide) ?_
    refine vi_istore_n (lv' := [(1, .int (1 : Int32)), (0, .int y1)]) C dJ6_numberOfTrailingZeros_0f7a4_18 rfl (by decide) rfl ?_
    refine vi_iload_n C 1 dJ6_numberOfTrailingZeros_0f7a4_19 rfl ?_
    refine vi_ldcw (v := 65536) C dJ6_numberOfTrailingZeros_0f7a4_20 tkJ6_264 ?_
    refine vi_icmp_le (tgt := 34) C dJ6_numberOfTrailingZeros_0f7a4_23 (by decide) (fun hc3 => ?_) (fun hc3 => ?_)
    · have h := ob_t h hc3
      refine vi_sub C [1, 0] rfl ?_
      exact kJ6_numberOfTrailingZeros_0f7a4_34 C RET   _ _ h
    · have h := ob_f h hc3
      obtain ⟨y4, ey4, h⟩ := ob_nm h
      refine vi_iinc (v := y4) (lv' := [(1, .int y4), (0, .int y1)]) C 0 dJ6_numberOfTrailingZeros_0f7a4_26 rfl (by rw [ey4]; rfl) (by decide) rfl ?_
      refine vi_iload_n C 1 dJ6_numberOfTrailingZeros_0f7a4_29 rfl ?_
      refine vi_bipush (v := 16) C dJ6_numberOfTrailingZeros_0f7a4_30 (by decide) ?_
      refine vi_iushr C dJ6_numberOfTrailingZeros_0f7a4_32 ?_
      obtain ⟨y5, ey5, h⟩ := ob_nm h
      refine vi_nmi ey5 ?_
      refine vi_istore_n (lv' := [(0, .int y5), (1, .int y4)]) C dJ6_numberOfTrailingZeros_0f7a4_33 rfl (by decide) rfl ?_
      refine vi_sub C [0, 1] rfl ?_
      exact kJ6_numberOfTrailingZeros_0f7a4_34 C RET   _ _ h
  · have h := ob_f h hc2
    refine vi_iload_n C 0 dJ6_numberOfTrailingZeros_0f7a4_12 rfl ?_
    refine vi_bipush (v := 32) C dJ6_numberOfTrailingZeros_0f7a4_13 (by decide) ?_
    refine vi_iand C dJ6_numberOfTrailingZeros_0f7a4_15 ?_
    exact vi_donei0  RET h dJ6_numberOfTrailingZeros_0f7a4_16
theorem mJ6_numberOfTrailingZeros_0f7a4 {E : (Nat → Prop) → State → Heap → Prop} (hE : vEok E) {l : Launch} {D : va_G} {cI cF cC cS cO cB cZ : ClassId} {r0 : Int32}  {x1 : Int32} (h : fJ6_numberOfTrailingZeros_0f7a4 x1 = some r0) : vM E l yJ6_numberOfTrailingZeros_0f7a4 cJ6_numberOfTrailingZeros_0f7a4 2 (some .int) 0 0 D (vT7 cI cF cC cS cO cB cZ) [.int x1] [] (vQi D [] r0) :=
  vM_ofF hE (by decide +kernel) (Nat.le_of_ble_eq_true rfl) (fun p e s m args below meth c A C hr => kJ6_numberOfTrailingZeros_0f7a4_e C (vi_reti C hr) h)
def fJxf58ca_isNaN_12338 (x1 : UInt32) : Option (Int32) := (if Op.cmpValue (FP.fcmp x1 x1) CmpOp.l = 0 then some (0 : Int32) else some (1 : Int32))
set_option maxRecDepth 100000 in
set_option maxHeartbeats 4000000 in
theorem kJxf58ca_isNaN_12338_e {E : (Nat → Prop) → State → Heap → Prop} {p : Program} {l : Launch} {e : Env} {s : State} {m : MethodId} {args : Array Value} {below : List Frame} {meth : Method} {c : Code} {A : Nat → Prop} {D : va_G} {cI cF cC cS cO cB cZ : ClassId} {Q : State → Prop} (C : vC E p l s m args meth c A D (vT7 cI cF cC cS cO cB cZ) cJxf58ca_isNaN_12338 1 RJxf58ca) {r0 : Int32} (RET : ∀ (pc : Nat) (lv : List (Nat × Value)), decode cJxf58ca_isNaN_12338 pc = .ok (.ireturn, 1) → (r0 = 0 ∨ r0 = 1) → vV p l e { frames := 0, cells := 0, slots := 0, locals := 0 } s m args below meth c A D 1 0 0 Q [] pc lv [.int r0]) {x1 : UInt32} (h : fJxf58ca_isNaN_12338 x1 = some r0) : vV p l e { frames := 0, cells := 0, slots := 0, locals := 0 } s m args below meth c A D 1 0 0 Q [] 0 [(0, .float x1)] [] := by
  rw [fJxf58ca_isNaN_12338] at h
  refine vi_fload_n C 0 dJxf58ca_isNaN_12338_0 rfl ?_
  refine vi_fload_n C 0 dJxf58ca_isNaN_12338_1 rfl ?_
  refine vi_fcmp C dJxf58ca_isNaN_12338_2 ?_
  refine vi_if_eq (tgt := 10) C dJxf58ca_isNaN_12338_3 (by decide) (fun hc1 => ?_) (fun hc1 => ?_)
  · have h := ob_t h hc1
    refine vi_iconst (v := 0) C dJxf58ca_isNaN_12338_10 (by decide) ?_
    exact vi_donez0  RET h (by decide) dJxf58ca_isNaN_12338_11
  · have h := ob_f h hc1
    refine vi_iconst (v := 1) C dJxf58ca_isNaN_12338_6 (by decide) ?_
    refine vi_goto (tgt := 11) C dJxf58ca_isNaN_12338_7 (by decide) ?_
    exact vi_donez0  RET h (by decide) dJxf58ca_isNaN_12338_11
theorem mJxf58ca_isNaN_12338 {E : (Nat → Prop) → State → Heap → Prop} (hE : vEok E) {l : Launch} {D : va_G} {cI cF cC cS cO cB cZ : ClassId} {r0 : Int32}  {x1 : UInt32} (h : fJxf58ca_isNaN_12338 x1 = some r0) : vM E l yJxf58ca_isNaN_12338 cJxf58ca_isNaN_12338 1 (some .boolean) 0 0 D (vT7 cI cF cC cS cO cB cZ) [.float x1] [] (vQi D [] r0) :=
  vM_ofF hE (by decide +kernel) (Nat.le_of_ble_eq_true rfl) (fun p e s m args below meth c A C hr => kJxf58ca_isNaN_12338_e C (vi_retzz C hr) h)
def fJxf58ca_floatToIntBits_5c35a (x1 : UInt32) : Option (Int32) := (fJxf58ca_isNaN_12338 x1).bind fun y1 => (if y1 = 0 then some (UInt32.toInt32 x1) else some (2143289344 : Int32))
set_option maxRecDepth 100000 in
set_option maxHeartbeats 4000000 in
theorem kJxf58ca_floatToIntBits_5c35a_e {E : (Nat → Prop) → State → Heap → Prop} {p : Program} {l : Launch} {e : Env} {s : State} {m : MethodId} {args : Array Value} {below : List Frame} {meth : Method} {c : Code} {A : Nat → Prop} {D : va_G} {cI cF cC cS cO cB cZ : ClassId} {Q : State → Prop} (C : vC E p l s m args meth c A D (vT7 cI cF cC cS cO cB cZ) cJxf58ca_floatToIntBits_5c35a 1 RJxf58ca) {r0 : Int32} (RET : ∀ (pc : Nat) (lv : List (Nat × Value)), decode cJxf58ca_floatToIntBits_5c35a pc = .ok (.ireturn, 1) → vV p l e { frames := 1, cells := 0, slots := 0, locals := 20 } s m args below meth c A D 1 0 0 Q [] pc lv [.int r0]) {x1 : UInt32} (h : fJxf58ca_floatToIntBits_5c35a x1 = some r0) : vV p l e { frames := 1, cells := 0, slots := 0, locals := 20 } s m args below meth c A D 1 0 0 Q [] 0 [(0, .float x1)] [] := by
  rw [fJxf58ca_floatToIntBits_5c35a] at h
  refine vi_fload_n C 0 dJxf58ca_floatToIntBits_5c35a_0 rfl ?_
  obtain ⟨y1, hgy1, h⟩ := ob_bd h
  refine vi_callS0i (As := [.float x1]) (rest := []) C (mJxf58ca_isNaN_12338 C.2.2.2.2.2.2.2.2.1 hgy1) 1 rfl tcJxf58ca_isNaN_12338 tlJxf58ca_59 ttJxf58ca_isNaN_12338 tnJxf58ca tdJxf58ca_isNaN_12338 ⟨Nat.le_of_ble_eq_true rfl, Nat.le_of_ble_eq_true rfl⟩ rfl (Nat.le_of_ble_eq_true rfl) dJxf58ca_floatToIntBits_5c35a_1 ?_
  refine vi_if_ne (tgt := 12) C dJxf58ca_floatToIntBits_5c35a_4 (by decide) (fun hc2 => ?_) (fun hc2 => ?_)
  · have h := ob_f h hc2
    refine vi_ldc (v := 2143289344) C dJxf58ca_floatToIntBits_5c35a_12 tkJxf58ca_77 ?_
    exact vi_donei0  RET h dJxf58ca_floatToIntBits_5c35a_14
  · have h := ob_t h hc2
    refine vi_fload_n C 0 dJxf58ca_floatToIntBits_5c35a_7 rfl ?_
    refine vi_f2ib C dJxf58ca_floatToIntBits_5c35a_8 tlJxf58ca_74 tnat_floatToRawIntBits tstat_floatToRawIntBits tnJxf58ca (Nat.le_of_ble_eq_true rfl) (Nat.le_of_ble_eq_true rfl) ?_
    exact vi_donei0  RET h dJxf58ca_floatToIntBits_5c35a_11
theorem mJxf58ca_floatToIntBits_5c35a {E : (Nat → Prop) → State → Heap → Prop} (hE : vEok E) {l : Launch} {D : va_G} {cI cF cC cS cO cB cZ : ClassId} {r0 : Int32}  {x1 : UInt32} (h : fJxf58ca_floatToIntBits_5c35a x1 = some r0) : vM E l yJxf58ca_floatToIntBits_5c35a cJxf58ca_floatToIntBits_5c35a 1 (some .int) 1 20 D (vT7 cI cF cC cS cO cB cZ) [.float x1] [] (vQi D [] r0) :=
  vM_ofF hE (by decide +kernel) (Nat.le_of_ble_eq_true rfl) (fun p e s m args below meth c A C hr => kJxf58ca_floatToIntBits_5c35a_e C (vi_reti C hr) h)
def fJ1_canEncode_fc78d (x1 : Int32) : Option (Int32) := (if (255 : Int32) < x1 then some (0 : Int32) else some (1 : Int32))
set_option maxRecDepth 100000 in
set_option maxHeartbeats 4000000 in
theorem kJ1_canEncode_fc78d_e {E : (Nat → Prop) → State → Heap → Prop} {p : Program} {l : Launch} {e : Env} {s : State} {m : MethodId} {args : Array Value} {below : List Frame} {meth : Method} {c : Code} {A : Nat → Prop} {D : va_G} {cI cF cC cS cO cB cZ : ClassId} {Q : State → Prop} (C : vC E p l s m args meth c A D (vT7 cI cF cC cS cO cB cZ) cJ1_canEncode_fc78d 1 RJ1) {r0 : Int32} (RET : ∀ (pc : Nat) (lv : List (Nat × Value)), decode cJ1_canEncode_fc78d pc = .ok (.ireturn, 1) → (r0 = 0 ∨ r0 = 1) → vV p l e { frames := 0, cells := 0, slots := 0, locals := 0 } s m args below meth c A D 1 0 0 Q [] pc lv [.int r0]) {x1 : Int32} (h : fJ1_canEncode_fc78d x1 = some r0) : vV p l e { frames := 0, cells := 0, slots := 0, locals := 0 } s m args below meth c A D 1 0 0 Q [] 0 [(0, .int x1)] [] := by
  rw [fJ1_canEncode_fc78d] at h
  refine vi_iload_n C 0 dJ1_canEncode_fc78d_0 rfl ?_
  refine vi_sipush (v := 255) C dJ1_canEncode_fc78d_1 (by decide) ?_
  refine vi_icmp_gt (tgt := 11) C dJ1_canEncode_fc78d_4 (by decide) (fun hc1 => ?_) (fun hc1 => ?_)
  · have h := ob_t h hc1
    refine vi_iconst (v := 0) C dJ1_canEncode_fc78d_11 (by decide) ?_
    exact vi_donez0  RET h (by decide) dJ1_canEncode_fc78d_12
  · have h := ob_f h hc1
    refine vi_iconst (v := 1) C dJ1_canEncode_fc78d_7 (by decide) ?_
    refine vi_goto (tgt := 12) C dJ1_canEncode_fc78d_8 (by decide) ?_
    exact vi_donez0  RET h (by decide) dJ1_canEncode_fc78d_12
theorem mJ1_canEncode_fc78d {E : (Nat → Prop) → State → Heap → Prop} (hE : vEok E) {l : Launch} {D : va_G} {cI cF cC cS cO cB cZ : ClassId} {r0 : Int32}  {x1 : Int32} (h : fJ1_canEncode_fc78d x1 = some r0) : vM E l yJ1_canEncode_fc78d cJ1_canEncode_fc78d 1 (some .boolean) 0 0 D (vT7 cI cF cC cS cO cB cZ) [.int x1] [] (vQi D [] r0) :=
  vM_ofF hE (by decide +kernel) (Nat.le_of_ble_eq_true rfl) (fun p e s m args below meth c A C hr => kJ1_canEncode_fc78d_e C (vi_retzz C hr) h)
def fJ3_checkFromToIndex_8c36e_null (x1 : Int32) (x2 : Int32) (x3 : Int32) : Option (Int32) := (if x1 < 0 then none else (if x2 < x1 then none else (if x2 ≤ x3 then some x1 else none)))
set_option maxRecDepth 100000 in
set_option maxHeartbeats 4000000 in
theorem kJ3_checkFromToIndex_8c36e_null_e {ad adK adV : Nat → Nat} {tS tF : Nat} {tX sK sV : Nat → Nat} {p : Program} {l : Launch} {e : Env} {s : State} {m : MethodId} {args : Array Value} {below : List Frame} {meth : Method} {c : Code} {A : Nat → Prop} {D : va_G} {cI cF cC cS cO cB cZ : ClassId} {Q : State → Prop} (C : vC (vE ad adK adV tS tF tX sK sV) p l s m args meth c A D (vT7 cI cF cC cS cO cB cZ) cJ3_checkFromToIndex_8c36e 4 RJ3) {r0 : Int32} (RET : ∀ (pc : Nat) (lv : List (Nat × Value)), decode cJ3_checkFromToIndex_8c36e pc = .ok (.ireturn, 1) → vV p l e { frames := 0, cells := 0, slots := 0, locals := 0 } s m args below meth c A D 4 0 0 Q [] pc lv [.int r0]) {x1 : Int32} {x2 : Int32} {x3 : Int32} (h : fJ3_checkFromToIndex_8c36e_null x1 x2 x3 = some r0) : vV p l e { frames := 0, cells := 0, slots := 0, locals := 0 } s m args below meth c A D 4 0 0 Q [] 0 [(0, .int x1), (1, .int x2), (2, .int x3), (3, .null)] [] := by
  rw [fJ3_checkFromToIndex_8c36e_null] at h
  refine vi_iload_n C 0 dJ3_checkFromToIndex_8c36e_0 rfl ?_
  refine vi_if_lt (tgt := 14) C dJ3_checkFromToIndex_8c36e_1 (by decide) (fun hc1 => ?_) (fun hc1 => ?_)
  · have h := ob_t h hc1
    refine vi_aload_nN C 3 dJ3_checkFromToIndex_8c36e_14 rfl ?_
    refine vi_iload_n C 0 dJ3_checkFromToIndex_8c36e_15 rfl ?_
    refine vi_iload_n C 1 dJ3_checkFromToIndex_8c36e_16 rfl ?_
    refine vi_iload_n C 2 dJ3_checkFromToIndex_8c36e_17 rfl ?_
    cases h
  · have h := ob_f h hc1
    refine vi_iload_n C 0 dJ3_checkFromToIndex_8c36e_4 rfl ?_
    refine vi_iload_n C 1 dJ3_checkFromToIndex_8c36e_5 rfl ?_
    refine vi_icmp_gt (tgt := 14) C dJ3_checkFromToIndex_8c36e_6 (by decide) (fun hc2 => ?_) (fun hc2 => ?_)
    · have h := ob_t h hc2
      refine vi_aload_nN C 3 dJ3_checkFromToIndex_8c36e_14 rfl ?_
      refine vi_iload_n C 0 dJ3_checkFromToIndex_8c36e_15 rfl ?_
      refine vi_iload_n C 1 dJ3_checkFromToIndex_8c36e_16 rfl ?_
      refine vi_iload_n C 2 dJ3_checkFromToIndex_8c36e_17 rfl ?_
      cases h
    · have h := ob_f h hc2
      refine vi_iload_n C 1 dJ3_checkFromToIndex_8c36e_9 rfl ?_
      refine vi_iload_n C 2 dJ3_checkFromToIndex_8c36e_10 rfl ?_
      refine vi_icmp_le (tgt := 22) C dJ3_checkFromToIndex_8c36e_11 (by decide) (fun hc3 => ?_) (fun hc3 => ?_)
      · have h := ob_t h hc3
        refine vi_iload_n C 0 dJ3_checkFromToIndex_8c36e_22 rfl ?_
        exact vi_donei0  RET h dJ3_checkFromToIndex_8c36e_23
      · have h := ob_f h hc3
        refine vi_aload_nN C 3 dJ3_checkFromToIndex_8c36e_14 rfl ?_
        refine vi_iload_n C 0 dJ3_checkFromToIndex_8c36e_15 rfl ?_
        refine vi_iload_n C 1 dJ3_checkFromToIndex_8c36e_16 rfl ?_
        refine vi_iload_n C 2 dJ3_checkFromToIndex_8c36e_17 rfl ?_
        cases h
theorem mJ3_checkFromToIndex_8c36e_null {ad adK adV : Nat → Nat} {tS tF : Nat} {tX sK sV : Nat → Nat} (hE : vEok (vE ad adK adV tS tF tX sK sV)) {l : Launch} {D : va_G} {cI cF cC cS cO cB cZ : ClassId} {r0 : Int32}  {x1 : Int32} {x2 : Int32} {x3 : Int32} (h : fJ3_checkFromToIndex_8c36e_null x1 x2 x3 = some r0) : vM (vE ad adK adV tS tF tX sK sV) l yJ3_checkFromToIndex_8c36e cJ3_checkFromToIndex_8c36e 4 (some .int) 0 0 D (vT7 cI cF cC cS cO cB cZ) [.int x1, .int x2, .int x3, .null] [] (vQi D [] r0) :=
  vM_ofF hE (by decide +kernel) (Nat.le_of_ble_eq_true rfl) (fun p e s m args below meth c A C hr => kJ3_checkFromToIndex_8c36e_null_e C (vi_reti C hr) h)
set_option maxRecDepth 100000 in
set_option maxHeartbeats 4000000 in
theorem kJ3_checkFromToIndex_8c36e_any_e {ad adK adV : Nat → Nat} {tS tF : Nat} {tX sK sV : Nat → Nat} {t0 : Nat} {p : Program} {l : Launch} {e : Env} {s : State} {m : MethodId} {args : Array Value} {below : List Frame} {meth : Method} {c : Code} {A : Nat → Prop} {D : va_G} {cI cF cC cS cO cB cZ : ClassId} {Q : State → Prop} (C : vC (vE ad adK adV tS tF tX sK sV) p l s m args meth c A D (vT7 cI cF cC cS cO cB cZ) cJ3_checkFromToIndex_8c36e 4 RJ3) {r0 : Int32} (RET : ∀ (pc : Nat) (lv : List (Nat × Value)), decode cJ3_checkFromToIndex_8c36e pc = .ok (.ireturn, 1) → vV p l e { frames := 0, cells := 0, slots := 0, locals := 0 } s m args below meth c A D 4 0 0 Q [] pc lv [.int r0]) {x1 : Int32} {x2 : Int32} {x3 : Int32} (h : fJ3_checkFromToIndex_8c36e_null x1 x2 x3 = some r0) : vV p l e { frames := 0, cells := 0, slots := 0, locals := 0 } s m args below meth c A D 4 0 0 Q [] 0 [(0, .int x1), (1, .int x2), (2, .int x3), (3, .ref t0)] [] := by
  rw [fJ3_checkFromToIndex_8c36e_null] at h
  refine vi_iload_n C 0 dJ3_checkFromToIndex_8c36e_0 rfl ?_
  refine vi_if_lt (tgt := 14) C dJ3_checkFromToIndex_8c36e_1 (by decide) (fun hc1 => ?_) (fun hc1 => ?_)
  · have h := ob_t h hc1
    refine vi_aload_n C 3 dJ3_checkFromToIndex_8c36e_14 rfl ?_
    refine vi_iload_n C 0 dJ3_checkFromToIndex_8c36e_15 rfl ?_
    refine vi_iload_n C 1 dJ3_checkFromToIndex_8c36e_16 rfl ?_
    refine vi_iload_n C 2 dJ3_checkFromToIndex_8c36e_17 rfl ?_
    cases h
  · have h := ob_f h hc1
    refine vi_iload_n C 0 dJ3_checkFromToIndex_8c36e_4 rfl ?_
    refine vi_iload_n C 1 dJ3_checkFromToIndex_8c36e_5 rfl ?_
    refine vi_icmp_gt (tgt := 14) C dJ3_checkFromToIndex_8c36e_6 (by decide) (fun hc2 => ?_) (fun hc2 => ?_)
    · have h := ob_t h hc2
      refine vi_aload_n C 3 dJ3_checkFromToIndex_8c36e_14 rfl ?_
      refine vi_iload_n C 0 dJ3_checkFromToIndex_8c36e_15 rfl ?_
      refine vi_iload_n C 1 dJ3_checkFromToIndex_8c36e_16 rfl ?_
      refine vi_iload_n C 2 dJ3_checkFromToIndex_8c36e_17 rfl ?_
      cases h
    · have h := ob_f h hc2
      refine vi_iload_n C 1 dJ3_checkFromToIndex_8c36e_9 rfl ?_
      refine vi_iload_n C 2 dJ3_checkFromToIndex_8c36e_10 rfl ?_
      refine vi_icmp_le (tgt := 22) C dJ3_checkFromToIndex_8c36e_11 (by decide) (fun hc3 => ?_) (fun hc3 => ?_)
      · have h := ob_t h hc3
        refine vi_iload_n C 0 dJ3_checkFromToIndex_8c36e_22 rfl ?_
        exact vi_donei0  RET h dJ3_checkFromToIndex_8c36e_23
      · have h := ob_f h hc3
        refine vi_aload_n C 3 dJ3_checkFromToIndex_8c36e_14 rfl ?_
        refine vi_iload_n C 0 dJ3_checkFromToIndex_8c36e_15 rfl ?_
        refine vi_iload_n C 1 dJ3_checkFromToIndex_8c36e_16 rfl ?_
        refine vi_iload_n C 2 dJ3_checkFromToIndex_8c36e_17 rfl ?_
        cases h
theorem mJ3_checkFromToIndex_8c36e_any {ad adK adV : Nat → Nat} {tS tF : Nat} {tX sK sV : Nat → Nat} {t0 : Nat} (hE : vEok (vE ad adK adV tS tF tX sK sV)) {l : Launch} {D : va_G} {cI cF cC cS cO cB cZ : ClassId} {r0 : Int32}  {x1 : Int32} {x2 : Int32} {x3 : Int32} (h : fJ3_checkFromToIndex_8c36e_null x1 x2 x3 = some r0) : vM (vE ad adK adV tS tF tX sK sV) l yJ3_checkFromToIndex_8c36e cJ3_checkFromToIndex_8c36e 4 (some .int) 0 0 D (vT7 cI cF cC cS cO cB cZ) [.int x1, .int x2, .int x3, .ref t0] [] (vQi D [] r0) :=
  vM_ofF hE (by decide +kernel) (Nat.le_of_ble_eq_true rfl) (fun p e s m args below meth c A C hr => kJ3_checkFromToIndex_8c36e_any_e C (vi_reti C hr) h)
def fJ0_checkBoundsBeginEnd_23922 (x1 : Int32) (x2 : Int32) (x3 : Int32) : Option (Unit) := (fJ3_checkFromToIndex_8c36e_null x1 x2 x3).bind fun y1 => some ()
set_option maxRecDepth 100000 in
set_option maxHeartbeats 4000000 in
theorem kJ0_checkBoundsBeginEnd_23922_e {ad adK adV : Nat → Nat} {tS tF : Nat} {tX sK sV : Nat → Nat} {p : Program} {l : Launch} {e : Env} {s : State} {m : MethodId} {args : Array Value} {below : List Frame} {meth : Method} {c : Code} {A : Nat → Prop} {D : va_G} {cI cF cC cS cO cB cZ : ClassId} {Q : State → Prop} (C : vC (vE ad adK adV tS tF tX sK sV) p l s m args meth c A D (vT7 cI cF cC cS cO cB cZ) cJ0_checkBoundsBeginEnd_23922 3 RJ0) (RET : ∀ (pc : Nat) (lv : List (Nat × Value)), decode cJ0_checkBoundsBeginEnd_23922 pc = .ok (.return_, 1) → vV p l e { frames := 1, cells := 0, slots := 0, locals := 23 } s m args below meth c A D 3 0 0 Q [] pc lv []) {x1 : Int32} {x2 : Int32} {x3 : Int32} (h : fJ0_checkBoundsBeginEnd_23922 x1 x2 x3 = some ()) : vV p l e { frames := 1, cells := 0, slots := 0, locals := 23 } s m args below meth c A D 3 0 0 Q [] 0 [(0, .int x1), (1, .int x2), (2, .int x3)] [] := by
  rw [fJ0_checkBoundsBeginEnd_23922] at h
  refine vi_iload_n C 0 dJ0_checkBoundsBeginEnd_23922_0 rfl ?_
  refine vi_iload_n C 1 dJ0_checkBoundsBeginEnd_23922_1 rfl ?_
  refine vi_iload_n C 2 dJ0_checkBoundsBeginEnd_23922_2 rfl ?_
  refine vi_getSi C tfJ0_1053 dJ0_checkBoundsBeginEnd_23922_3 ?_ (fun t0 => ?_)
  · obtain ⟨y1, hgy1, h⟩ := ob_bd h
    refine vi_callS0i (As := [.int x1, .int x2, .int x3, .null]) (rest := []) C (mJ3_checkFromToIndex_8c36e_null C.2.2.2.2.2.2.2.2.1 hgy1) 4 rfl tcJ3_checkFromToIndex_8c36e tlJ0_1062 ttJ3_checkFromToIndex_8c36e tnJ3 tdJ3_checkFromToIndex_8c36e ⟨Nat.le_of_ble_eq_true rfl, Nat.le_of_ble_eq_true rfl⟩ rfl (Nat.le_of_ble_eq_true rfl) dJ0_checkBoundsBeginEnd_23922_6 ?_
    refine vi_pop C dJ0_checkBoundsBeginEnd_23922_9 rfl ?_
    exact RET _ _ dJ0_checkBoundsBeginEnd_23922_10
  · obtain ⟨y1, hgy1, h⟩ := ob_bd h
    refine vi_callS0i (As := [.int x1, .int x2, .int x3, .ref t0]) (rest := []) C (mJ3_checkFromToIndex_8c36e_any C.2.2.2.2.2.2.2.2.1 hgy1) 4 rfl tcJ3_checkFromToIndex_8c36e tlJ0_1062 ttJ3_checkFromToIndex_8c36e tnJ3 tdJ3_checkFromToIndex_8c36e ⟨Nat.le_of_ble_eq_true rfl, Nat.le_of_ble_eq_true rfl⟩ rfl (Nat.le_of_ble_eq_true rfl) dJ0_checkBoundsBeginEnd_23922_6 ?_
    refine vi_pop C dJ0_checkBoundsBeginEnd_23922_9 rfl ?_
    exact RET _ _ dJ0_checkBoundsBeginEnd_23922_10
theorem mJ0_checkBoundsBeginEnd_23922 {ad adK adV : Nat → Nat} {tS tF : Nat} {tX sK sV : Nat → Nat} (hE : vEok (vE ad adK adV tS tF tX sK sV)) {l : Launch} {D : va_G} {cI cF cC cS cO cB cZ : ClassId}  {x1 : Int32} {x2 : Int32} {x3 : Int32} (h : fJ0_checkBoundsBeginEnd_23922 x1 x2 x3 = some ()) : vM (vE ad adK adV tS tF tX sK sV) l yJ0_checkBoundsBeginEnd_23922 cJ0_checkBoundsBeginEnd_23922 3 none 1 23 D (vT7 cI cF cC cS cO cB cZ) [.int x1, .int x2, .int x3] [] (vQv D []) :=
  vM_ofF hE (by decide +kernel) (Nat.le_of_ble_eq_true rfl) (fun p e s m args below meth c A C hr => kJ0_checkBoundsBeginEnd_23922_e C (vi_retv C hr) h)
