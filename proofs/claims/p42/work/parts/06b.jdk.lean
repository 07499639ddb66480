def fJx29ce0_ordinal_8abf5 (x1 : Nat) : Option (Int32) := if x1 < 10 then some (nI x1) else none
set_option maxRecDepth 100000 in
set_option maxHeartbeats 4000000 in
theorem kJx29ce0_ordinal_8abf5_e {ad adK adV : Nat → Nat} {tS tF : Nat} {tX sK sV : Nat → Nat} {p : Program} {l : Launch} {e : Env} {s : State} {m : MethodId} {args : Array Value} {below : List Frame} {meth : Method} {c : Code} {A : Nat → Prop} {D : va_G} {cI cF cC cS cO cB cZ : ClassId} {Q : State → Prop} (C : vC (vE ad adK adV tS tF tX sK sV) p l s m args meth c A D (vT7 cI cF cC cS cO cB cZ) cJx29ce0_ordinal_8abf5 1 RJx29ce0) {r0 : Int32} (RET : ∀ (pc : Nat) (lv : List (Nat × Value)), decode cJx29ce0_ordinal_8abf5 pc = .ok (.ireturn, 1) → vV p l e { frames := 0, cells := 0, slots := 0, locals := 0 } s m args below meth c A D 1 0 0 Q [] pc lv [.int r0]) {x1 : Nat} (h : fJx29ce0_ordinal_8abf5 x1 = some r0) : vV p l e { frames := 0, cells := 0, slots := 0, locals := 0 } s m args below meth c A D 1 0 0 Q [] 0 [(0, .ref (ad x1))] [] := by
  rw [fJx29ce0_ordinal_8abf5] at h
  refine vi_aload_n C 0 dJx29ce0_ordinal_8abf5_0 rfl ?_
  obtain ⟨hz1, h⟩ := ob_ok h
  refine vi_getOrd C hz1 tfJx29ce0_7 dJx29ce0_ordinal_8abf5_1 ?_
  exact vi_donei0  RET h dJx29ce0_ordinal_8abf5_4
theorem mJx29ce0_ordinal_8abf5 {ad adK adV : Nat → Nat} {tS tF : Nat} {tX sK sV : Nat → Nat} (hE : vEok (vE ad adK adV tS tF tX sK sV)) {l : Launch} {D : va_G} {cI cF cC cS cO cB cZ : ClassId} {r0 : Int32}  {x1 : Nat} (h : fJx29ce0_ordinal_8abf5 x1 = some r0) : vM (vE ad adK adV tS tF tX sK sV) l yJx29ce0_ordinal_8abf5 cJx29ce0_ordinal_8abf5 1 (some .int) 0 0 D (vT7 cI cF cC cS cO cB cZ) [.ref (ad x1)] [] (vQi D [] r0) :=
  vM_ofF hE (by decide +kernel) (Nat.le_of_ble_eq_true rfl) (fun p e s m args below meth c A C hr => kJx29ce0_ordinal_8abf5_e C (vi_reti C hr) h)
def fJ9_max_7cf53 (x1 : Int32) (x2 : Int32) : Option (Int32) := (if x1 < x2 then some x2 else some x1)
set_option maxRecDepth 100000 in
set_option maxHeartbeats 4000000 in
theorem kJ9_max_7cf53_e {E : (Nat → Prop) → State → Heap → Prop} {p : Program} {l : Launch} {e : Env} {s : State} {m : MethodId} {args : Array Value} {below : List Frame} {meth : Method} {c : Code} {A : Nat → Prop} {D : va_G} {cI cF cC cS cO cB cZ : ClassId} {Q : State → Prop} (C : vC E p l s m args meth c A D (vT7 cI cF cC cS cO cB cZ) cJ9_max_7cf53 2 RJ9) {r0 : Int32} (RET : ∀ (pc : Nat) (lv : List (Nat × Value)), decode cJ9_max_7cf53 pc = .ok (.ireturn, 1) → vV p l e { frames := 0, cells := 0, slots := 0, locals := 0 } s m args below meth c A D 2 0 0 Q [] pc lv [.int r0]) {x1 : Int32} {x2 : Int32} (h : fJ9_max_7cf53 x1 x2 = some r0) : vV p l e { frames := 0, cells := 0, slots := 0, locals := 0 } s m args below meth c A D 2 0 0 Q [] 0 [(0, .int x1), (1, .int x2)] [] := by
  rw [fJ9_max_7cf53] at h
  refine vi_iload_n C 0 dJ9_max_7cf53_0 rfl ?_
  refine vi_iload_n C 1 dJ9_max_7cf53_1 rfl ?_
  refine vi_icmp_lt (tgt := 9) C dJ9_max_7cf53_2 (by decide) (fun hc1 => ?_) (fun hc1 => ?_)
  · have h := ob_t h hc1
    refine vi_iload_n C 1 dJ9_max_7cf53_9 rfl ?_
    exact vi_donei0  RET h dJ9_max_7cf53_10
  · have h := ob_f h hc1
    refine vi_iload_n C 0 dJ9_max_7cf53_5 rfl ?_
    refine vi_goto (tgt := 10) C dJ9_max_7cf53_6 (by decide) ?_
    exact vi_donei0  RET h dJ9_max_7cf53_10
theorem mJ9_max_7cf53 {E : (Nat → Prop) → State → Heap → Prop} (hE : vEok E) {l : Launch} {D : va_G} {cI cF cC cS cO cB cZ : ClassId} {r0 : Int32}  {x1 : Int32} {x2 : Int32} (h : fJ9_max_7cf53 x1 x2 = some r0) : vM E l yJ9_max_7cf53 cJ9_max_7cf53 2 (some .int) 0 0 D (vT7 cI cF cC cS cO cB cZ) [.int x1, .int x2] [] (vQi D [] r0) :=
  vM_ofF hE (by decide +kernel) (Nat.le_of_ble_eq_true rfl) (fun p e s m args below meth c A C hr => kJ9_max_7cf53_e C (vi_reti C hr) h)
def fJ9_min_7cf53 (x1 : Int32) (x2 : Int32) : Option (Int32) := (if x2 < x1 then some x2 else some x1)
set_option maxRecDepth 100000 in
set_option maxHeartbeats 4000000 in
theorem kJ9_min_7cf53_e {E : (Nat → Prop) → State → Heap → Prop} {p : Program} {l : Launch} {e : Env} {s : State} {m : MethodId} {args : Array Value} {below : List Frame} {meth : Method} {c : Code} {A : Nat → Prop} {D : va_G} {cI cF cC cS cO cB cZ : ClassId} {Q : State → Prop} (C : vC E p l s m args meth c A D (vT7 cI cF cC cS cO cB cZ) cJ9_min_7cf53 2 RJ9) {r0 : Int32} (RET : ∀ (pc : Nat) (lv : List (Nat × Value)), decode cJ9_min_7cf53 pc = .ok (.ireturn, 1) → vV p l e { frames := 0, cells := 0, slots := 0, locals := 0 } s m args below meth c A D 2 0 0 Q [] pc lv [.int r0]) {x1 : Int32} {x2 : Int32} (h : fJ9_min_7cf53 x1 x2 = some r0) : vV p l e { frames := 0, cells := 0, slots := 0, locals := 0 } s m args below meth c A D 2 0 0 Q [] 0 [(0, .int x1), (1, .int x2)] [] := by
  rw [fJ9_min_7cf53] at h
  refine vi_iload_n C 0 dJ9_min_7cf53_0 rfl ?_
  refine vi_iload_n C 1 dJ9_min_7cf53_1 rfl ?_
  refine vi_icmp_gt (tgt := 9) C dJ9_min_7cf53_2 (by decide) (fun hc1 => ?_) (fun hc1 => ?_)
  · have h := ob_t h hc1
    refine vi_iload_n C 1 dJ9_min_7cf53_9 rfl ?_
    exact vi_donei0  RET h dJ9_min_7cf53_10
  · have h := ob_f h hc1
    refine vi_iload_n C 0 dJ9_min_7cf53_5 rfl ?_
    refine vi_goto (tgt := 10) C dJ9_min_7cf53_6 (by decide) ?_
    exact vi_donei0  RET h dJ9_min_7cf53_10
theorem mJ9_min_7cf53 {E : (Nat → Prop) → State → Heap → Prop} (hE : vEok E) {l : Launch} {D : va_G} {cI cF cC cS cO cB cZ : ClassId} {r0 : Int32}  {x1 : Int32} {x2 : Int32} (h : fJ9_min_7cf53 x1 x2 = some r0) : vM E l yJ9_min_7cf53 cJ9_min_7cf53 2 (some .int) 0 0 D (vT7 cI cF cC cS cO cB cZ) [.int x1, .int x2] [] (vQi D [] r0) :=
  vM_ofF hE (by decide +kernel) (Nat.le_of_ble_eq_true rfl) (fun p e s m args below meth c A C hr => kJ9_min_7cf53_e C (vi_reti C hr) h)
def fJ9_floorMod_7cf53 (x1 : Int32) (x2 : Int32) : Option (Int32) := if x2 = 0 then none else bd ((x1 - x1 / x2 * x2 : Int32)) fun y2 => (if 0 ≤ x1 ^^^ x2 then some y2 else (if y2 = 0 then some y2 else some (y2 + x2)))
set_option maxRecDepth 100000 in
set_option maxHeartbeats 4000000 in
theorem kJ9_floorMod_7cf53_e {E : (Nat → Prop) → State → Heap → Prop} {p : Program} {l : Launch} {e : Env} {s : State} {m : MethodId} {args : Array Value} {below : List Frame} {meth : Method} {c : Code} {A : Nat → Prop} {D : va_G} {cI cF cC cS cO cB cZ : ClassId} {Q : State → Prop} (C : vC E p l s m args meth c A D (vT7 cI cF cC cS cO cB cZ) cJ9_floorMod_7cf53 3 RJ9) {r0 : Int32} (RET : ∀ (pc : Nat) (lv : List (Nat × Value)), decode cJ9_floorMod_7cf53 pc = .ok (.ireturn, 1) → vV p l e { frames := 0, cells := 0, slots := 0, locals := 0 } s m args below meth c A D 3 0 0 Q [] pc lv [.int r0]) {x1 : Int32} {x2 : Int32} (h : fJ9_floorMod_7cf53 x1 x2 = some r0) : vV p l e { frames := 0, cells := 0, slots := 0, locals := 0 } s m args below meth c A D 3 0 0 Q [] 0 [(0, .int x1), (1, .int x2)] [] := by
  rw [fJ9_floorMod_7cf53] at h
  refine vi_iload_n C 0 dJ9_floorMod_7cf53_0 rfl ?_
  refine vi_iload_n C 1 dJ9_floorMod_7cf53_1 rfl ?_
  obtain ⟨hz1, h⟩ := ob_if h
  refine vi_irem C dJ9_floorMod_7cf53_2 hz1 ?_
  obtain ⟨y2, ey2, h⟩ := ob_nm h
  refine vi_nmi ey2 ?_
  refine vi_istore_n (lv' := [(2, .int y2), (0, .int x1), (1, .int x2)]) C dJ9_floorMod_7cf53_3 rfl (by decide) rfl ?_
  refine vi_iload_n C 1 dJ9_floorMod_7cf53_4 rfl ?_
  refine vi_iload_n C 2 dJ9_floorMod_7cf53_5 rfl ?_
  refine vi_ixor C dJ9_floorMod_7cf53_6 ?_
  refine vi_if_ge (tgt := 18) C dJ9_floorMod_7cf53_7 (by decide) (fun hc3 => ?_) (fun hc3 => ?_)
  · have h := ob_t h hc3
    refine vi_iload_n C 0 dJ9_floorMod_7cf53_18 rfl ?_
    exact vi_donei0  RET h dJ9_floorMod_7cf53_19
  · have h := ob_f h hc3
    refine vi_iload_n C 0 dJ9_floorMod_7cf53_10 rfl ?_
    refine vi_if_eq (tgt := 18) C dJ9_floorMod_7cf53_11 (by decide) (fun hc4 => ?_) (fun hc4 => ?_)
    · have h := ob_t h hc4
      refine vi_iload_n C 0 dJ9_floorMod_7cf53_18 rfl ?_
      exact vi_donei0  RET h dJ9_floorMod_7cf53_19
    · have h := ob_f h hc4
      refine vi_iload_n C 0 dJ9_floorMod_7cf53_14 rfl ?_
      refine vi_iload_n C 2 dJ9_floorMod_7cf53_15 rfl ?_
      refine vi_iadd C dJ9_floorMod_7cf53_16 ?_
      exact vi_donei0  RET h dJ9_floorMod_7cf53_17
theorem mJ9_floorMod_7cf53 {E : (Nat → Prop) → State → Heap → Prop} (hE : vEok E) {l : Launch} {D : va_G} {cI cF cC cS cO cB cZ : ClassId} {r0 : Int32}  {x1 : Int32} {x2 : Int32} (h : fJ9_floorMod_7cf53 x1 x2 = some r0) : vM E l yJ9_floorMod_7cf53 cJ9_floorMod_7cf53 3 (some .int) 0 0 D (vT7 cI cF cC cS cO cB cZ) [.int x1, .int x2] [] (vQi D [] r0) :=
  vM_ofF hE (by decide +kernel) (Nat.le_of_ble_eq_true rfl) (fun p e s m args below meth c A C hr => kJ9_floorMod_7cf53_e C (vi_reti C hr) h)
def fJ9_floorDiv_7cf53 (x1 : Int32) (x2 : Int32) : Option (Int32) := if x2 = 0 then none else bd ((x1 / x2 : Int32)) fun y2 => (if 0 ≤ x1 ^^^ x2 then some y2 else (if y2 * x2 = x1 then some y2 else some (y2 - (1 : Int32))))
set_option maxRecDepth 100000 in
set_option maxHeartbeats 4000000 in
theorem kJ9_floorDiv_7cf53_e {E : (Nat → Prop) → State → Heap → Prop} {p : Program} {l : Launch} {e : Env} {s : State} {m : MethodId} {args : Array Value} {below : List Frame} {meth : Method} {c : Code} {A : Nat → Prop} {D : va_G} {cI cF cC cS cO cB cZ : ClassId} {Q : State → Prop} (C : vC E p l s m args meth c A D (vT7 cI cF cC cS cO cB cZ) cJ9_floorDiv_7cf53 3 RJ9) {r0 : Int32} (RET : ∀ (pc : Nat) (lv : List (Nat × Value)), decode cJ9_floorDiv_7cf53 pc = .ok (.ireturn, 1) → vV p l e { frames := 0, cells := 0, slots := 0, locals := 0 } s m args below meth c A D 3 0 0 Q [] pc lv [.int r0]) {x1 : Int32} {x2 : Int32} (h : fJ9_floorDiv_7cf53 x1 x2 = some r0) : vV p l e { frames := 0, cells := 0, slots := 0, locals := 0 } s m args below meth c A D 3 0 0 Q [] 0 [(0, .int x1), (1, .int x2)] [] := by
  rw [fJ9_floorDiv_7cf53] at h
  refine vi_iload_n C 0 dJ9_floorDiv_7cf53_0 rfl ?_
  refine vi_iload_n C 1 dJ9_floorDiv_7cf53_1 rfl ?_
  obtain ⟨hz1, h⟩ := ob_if h
  refine vi_idiv C dJ9_floorDiv_7cf53_2 hz1 ?_
  obtain ⟨y2, ey2, h⟩ := ob_nm h
  refine vi_nmi ey2 ?_
  refine vi_istore_n (lv' := [(2, .int y2), (0, .int x1), (1, .int x2)]) C dJ9_floorDiv_7cf53_3 rfl (by decide) rfl ?_
  refine vi_iload_n C 1 dJ9_floorDiv_7cf53_4 rfl ?_
  refine vi_iload_n C 2 dJ9_floorDiv_7cf53_5 rfl ?_
  refine vi_ixor C dJ9_floorDiv_7cf53_6 ?_
  refine vi_if_ge (tgt := 21) C dJ9_floorDiv_7cf53_7 (by decide) (fun hc3 => ?_) (fun hc3 => ?_)
  · have h := ob_t h hc3
    refine vi_iload_n C 0 dJ9_floorDiv_7cf53_21 rfl ?_
    exact vi_donei0  RET h dJ9_floorDiv_7cf53_22
  · have h := ob_f h hc3
    refine vi_iload_n C 0 dJ9_floorDiv_7cf53_10 rfl ?_
    refine vi_iload_n C 2 dJ9_floorDiv_7cf53_11 rfl ?_
    refine vi_imul C dJ9_floorDiv_7cf53_12 ?_
    refine vi_iload_n C 1 dJ9_floorDiv_7cf53_13 rfl ?_
    refine vi_icmp_eq (tgt := 21) C dJ9_floorDiv_7cf53_14 (by decide) (fun hc4 => ?_) (fun hc4 => ?_)
    · have h := ob_t h hc4
      refine vi_iload_n C 0 dJ9_floorDiv_7cf53_21 rfl ?_
      exact vi_donei0  RET h dJ9_floorDiv_7cf53_22
    · have h := ob_f h hc4
      refine vi_iload_n C 0 dJ9_floorDiv_7cf53_17 rfl ?_
      refine vi_iconst (v := 1) C dJ9_floorDiv_7cf53_18 (by decide) ?_
      refine vi_isub C dJ9_floorDiv_7cf53_19 ?_
      exact vi_donei0  RET h dJ9_floorDiv_7cf53_20
theorem mJ9_floorDiv_7cf53 {E : (Nat → Prop) → State → Heap → Prop} (hE : vEok E) {l : Launch} {D : va_G} {cI cF cC cS cO cB cZ : ClassId} {r0 : Int32}  {x1 : Int32} {x2 : Int32} (h : fJ9_floorDiv_7cf53 x1 x2 = some r0) : vM E l yJ9_floorDiv_7cf53 cJ9_floorDiv_7cf53 3 (some .int) 0 0 D (vT7 cI cF cC cS cO cB cZ) [.int x1, .int x2] [] (vQi D [] r0) :=
  vM_ofF hE (by decide +kernel) (Nat.le_of_ble_eq_true rfl) (fun p e s m args below meth c A C hr => kJ9_floorDiv_7cf53_e C (vi_reti C hr) h)
def fJ6_bitCount_0f7a4 (x1 : Int32) : Option (Int32) := bd ((x1 - (((Int32.toUInt32 x1 >>> (Int32.toUInt32 (1 : Int32) &&& Int32.toUInt32 31)).toInt32) &&& (1431655765 : Int32)) : Int32)) fun y1 => bd (((y1 &&& (858993459 : Int32)) + (((Int32.toUInt32 y1 >>> (Int32.toUInt32 (2 : Int32) &&& Int32.toUInt32 31)).toInt32) &&& (858993459 : Int32)) : Int32)) fun y2 => bd (((y2 + ((Int32.toUInt32 y2 >>> (Int32.toUInt32 (4 : Int32) &&& Int32.toUInt32 31)).toInt32)) &&& (252645135 : Int32) : Int32)) fun y3 => bd ((y3 + ((Int32.toUInt32 y3 >>> (Int32.toUInt32 (8 : Int32) &&& Int32.toUInt32 31)).toInt32) : Int32)) fun y4 => bd ((y4 + ((Int32.toUInt32 y4 >>> (Int32.toUInt32 (16 : Int32) &&& Int32.toUInt32 31)).toInt32) : Int32)) fun y5 => some (y5 &&& (63 : Int32))
set_option maxRecDepth 100000 in
set_option maxHeartbeats 4000000 in
theorem kJ6_bitCount_0f7a4_e {E : (Nat → Prop) → State → Heap → Prop} {p : Program} {l : Launch} {e : Env} {s : State} {m : MethodId} {args : Array Value} {below : List Frame} {meth : Method} {c : Code} {A : Nat → Prop} {D : va_G} {cI cF cC cS cO cB cZ : ClassId} {Q : State → Prop} (C : vC E p l s m args meth c A D (vT7 cI cF cC cS cO cB cZ) cJ6_bitCount_0f7a4 1 RJ6) {r0 : Int32} (RET : ∀ (pc : Nat) (lv : List (Nat × Value)), decode cJ6_bitCount_0f7a4 pc = .ok (.ireturn, 1) → vV p l e { frames := 0, cells := 0, slots := 0, locals := 0 } s m args below meth c A D 1 0 0 Q [] pc lv [.int r0]) {x1 : Int32} (h : fJ6_bitCount_0f7a4 x1 = some r0) : vV p l e { frames := 0, cells := 0, slots := 0, locals := 0 } s m args below meth c A D 1 0 0 Q [] 0 [(0, .int x1)] [] := by
  rw [fJ6_bitCount_0f7a4] at h
  refine vi_iload_n C 0 dJ6_bitCount_0f7a4_0 rfl ?_
  refine vi_iload_n C 0 dJ6_bitCount_0f7a4_1 rfl ?_
  refine vi_iconst (v := 1) C dJ6_bitCount_0f7a4_2 (by decide) ?_
  refine vi_iushr C dJ6_bitCount_0f7a4_3 ?_
  refine vi_ldcw (v := 1431655765) C dJ6_bitCount_0f7a4_4 tkJ6_265 ?_
  refine vi_iand C dJ6_bitCount_0f7a4_7 ?_
  refine vi_isub C dJ6_bitCount_0f7a4_8 ?_
  obtain ⟨y1, ey1, h⟩ := ob_nm h
  refine vi_nmi ey1 ?_
  refine vi_istore_n (lv' := [(0, .int y1)]) C dJ6_bitCount_0f7a4_9 rfl (by decide) rfl ?_
  refine vi_iload_n C 0 dJ6_bitCount_0f7a4_10 rfl ?_
  refine vi_ldcw (v := 858993459) C dJ6_bitCount_0f7a4_11 tkJ6_266 ?_
  refine vi_iand C dJ6_bitCount_0f7a4_14 ?_
  refine vi_iload_n C 0 dJ6_bitCount_0f7a4_15 rfl ?_
  refine vi_iconst (v := 2) C dJ6_bitCount_0f7a4_16 (by decide) ?_
  refine vi_iushr C dJ6_bitCount_0f7a4_17 ?_
  refine vi_ldcw (v := 858993459) C dJ6_bitCount_0f7a4_18 tkJ6_266 ?_
  refine vi_iand C dJ6_bitCount_0f7a4_21 ?_
  refine vi_iadd C dJ6_bitCount_0f7a4_22 ?_
  obtain ⟨y2, ey2, h⟩ := ob_nm h
  refine vi_nmi ey2 ?_
  refine vi_istore_n (lv' := [(0, .int y2)]) C dJ6_bitCount_0f7a4_23 rfl (by decide) rfl ?_
  refine vi_iload_n C 0 dJ6_bitCount_0f7a4_24 rfl ?_
  refine vi_iload_n C 0 dJ6_bitCount_0f7a4_25 rfl ?_
  refine vi_iconst (v := 4) C dJ6_bitCount_0f7a4_26 (by decide) ?_
  refine vi_iushr C dJ6_bitCount_0f7a4_27 ?_
  refine vi_iadd C dJ6_bitCount_0f7a4_28 ?_
  refine vi_ldcw (v := 252645135) C dJ6_bitCount_0f7a4_29 tkJ6_267 ?_
  refine vi_iand C dJ6_bitCount_0f7a4_32 ?_
  obtain ⟨y3, ey3, h⟩ := ob_nm h
  refine vi_nmi ey3 ?_
  refine vi_istore_n (lv' := [(0, .int y3)]) C dJ6_bitCount_0f7a4_33 rfl (by decide) rfl ?_
  refine vi_iload_n C 0 dJ6_bitCount_0f7a4_34 rfl ?_
  refine vi_iload_n C 0 dJ6_bitCount_0f7a4_35 rfl ?_
  refine vi_bipush (v := 8) C dJ6_bitCount_0f7a4_36 (by decide) ?_
  refine vi_iushr C dJ6_bitCount_0f7a4_38 ?_
  refine vi_iadd C dJ6_bitCount_0f7a4_39 ?_
  obtain ⟨y4, ey4, h⟩ := ob_nm h
  refine vi_nmi ey4 ?_
  refine vi_istore_n (lv' := [(0, .int y4)]) C dJ6_bitCount_0f7a4_40 rfl (by decide) rfl ?_
  refine vi_iload_n C 0 dJ6_bitCount_0f7a4_41 rfl ?_
  refine vi_iload_n C 0 dJ6_bitCount_0f7a4_42 rfl ?_
  refine vi_bipush (v := 16) C dJ6_bitCount_0f7a4_43 (by decide) ?_
  refine vi_iushr C dJ6_bitCount_0f7a4_45 ?_
  refine vi_iadd C dJ6_bitCount_0f7a4_46 ?_
  obtain ⟨y5, ey5, h⟩ := ob_nm h
  refine vi_nmi ey5 ?_
  refine vi_istore_n (lv' := [(0, .int y5)]) C dJ6_bitCount_0f7a4_47 rfl (by decide) rfl ?_
  refine vi_iload_n C 0 dJ6_bitCount_0f7a4_48 rfl ?_
  refine vi_bipush (v := 63) C dJ6_bitCount_0f7a4_49 (by decide) ?_
  refine vi_iand C dJ6_bitCount_0f7a4_51 ?_
  exact vi_donei0  RET h dJ6_bitCount_0f7a4_52
theorem mJ6_bitCount_0f7a4 {E : (Nat → Prop) → State → Heap → Prop} (hE : vEok E) {l : Launch} {D : va_G} {cI cF cC cS cO cB cZ : ClassId} {r0 : Int32}  {x1 : Int32} (h : fJ6_bitCount_0f7a4 x1 = some r0) : vM E l yJ6_bitCount_0f7a4 cJ6_bitCount_0f7a4 1 (some .int) 0 0 D (vT7 cI cF cC cS cO cB cZ) [.int x1] [] (vQi D [] r0) :=
  vM_ofF hE (by decide +kernel) (Nat.le_of_ble_eq_true rfl) (fun p e s m args below meth c A C hr => kJ6_bitCount_0f7a4_e C (vi_reti C hr) h)
def fJ0_coder_7d493 (x1 : Nat) : Option (Int32) := (if (1 : Int32) = 0 then some (1 : Int32) else if x1 < 10 then some (0 : Int32) else none)
set_option maxRecDepth 100000 in
set_option maxHeartbeats 4000000 in
theorem kJ0_coder_7d493_e {ad adK adV : Nat → Nat} {tS tF : Nat} {tX sK sV : Nat → Nat} {p : Program} {l : Launch} {e : Env} {s : State} {m : MethodId} {args : Array Value} {below : List Frame} {meth : Method} {c : Code} {A : Nat → Prop} {D : va_G} {cI cF cC cS cO cB cZ : ClassId} {Q : State → Prop} (C : vC (vE ad adK adV tS tF tX sK sV) p l s m args meth c A D (vT7 cI cF cC cS cO cB cZ) cJ0_coder_7d493 1 RJ0) {r0 : Int32} (RET : ∀ (pc : Nat) (lv : List (Nat × Value)), decode cJ0_coder_7d493 pc = .ok (.ireturn, 1) → r0.toInt8.toInt32 = r0 → vV p l e { frames := 0, cells := 0, slots := 0, locals := 0 } s m args below meth c A D 1 0 0 Q [] pc lv [.int r0]) {x1 : Nat} (h : fJ0_coder_7d493 x1 = some r0) : vV p l e { frames := 0, cells := 0, slots := 0, locals := 0 } s m args below meth c A D 1 0 0 Q [] 0 [(0, .ref (adK x1))] [] := by
  rw [fJ0_coder_7d493] at h
  refine vi_getCo C tfJ0_38 dJ0_coder_7d493_0 ?_
  refine vi_if_eq (tgt := 13) C dJ0_coder_7d493_3 (by decide) (fun hc1 => ?_) (fun hc1 => ?_)
  · have h := ob_t h hc1
    refine vi_iconst (v := 1) C dJ0_coder_7d493_13 (by decide) ?_
    exact vi_doneb0  RET h (by decide) dJ0_coder_7d493_14
  · have h := ob_f h hc1
    refine vi_aload_n C 0 dJ0_coder_7d493_6 rfl ?_
    obtain ⟨hz2, h⟩ := ob_ok h
    refine vi_getCoder C hz2 tfJ0_15 dJ0_coder_7d493_7 ?_
    refine vi_goto (tgt := 14) C dJ0_coder_7d493_10 (by decide) ?_
    exact vi_doneb0  RET h (by decide) dJ0_coder_7d493_14
theorem mJ0_coder_7d493 {ad adK adV : Nat → Nat} {tS tF : Nat} {tX sK sV : Nat → Nat} (hE : vEok (vE ad adK adV tS tF tX sK sV)) {l : Launch} {D : va_G} {cI cF cC cS cO cB cZ : ClassId} {r0 : Int32}  {x1 : Nat} (h : fJ0_coder_7d493 x1 = some r0) : vM (vE ad adK adV tS tF tX sK sV) l yJ0_coder_7d493 cJ0_coder_7d493 1 (some .byte) 0 0 D (vT7 cI cF cC cS cO cB cZ) [.ref (adK x1)] [] (vQi D [] r0) :=
  vM_ofF hE (by decide +kernel) (Nat.le_of_ble_eq_true rfl) (fun p e s m args below meth c A C hr => kJ0_coder_7d493_e C (vi_retbb C hr) h)
def fJ0_length_8abf5 (x1 : Nat) : Option (Int32) := if x1 < 10 then if x1 < 10 then if x1 < 10 then (fJ0_coder_7d493 x1).bind fun y4 => some ((Int32.ofNat (vlen.getD x1 0)) >>> (y4 &&& 31)) else none else none else none
set_option maxRecDepth 100000 in
set_option maxHeartbeats 4000000 in
theorem kJ0_length_8abf5_e {ad adK adV : Nat → Nat} {tS tF : Nat} {tX sK sV : Nat → Nat} {p : Program} {l : Launch} {e : Env} {s : State} {m : MethodId} {args : Array Value} {below : List Frame} {meth : Method} {c : Code} {A : Nat → Prop} {D : va_G} {cI cF cC cS cO cB cZ : ClassId} {Q : State → Prop} (C : vC (vE ad adK adV tS tF tX sK sV) p l s m args meth c A D (vT7 cI cF cC cS cO cB cZ) cJ0_length_8abf5 1 RJ0) {r0 : Int32} (RET : ∀ (pc : Nat) (lv : List (Nat × Value)), decode cJ0_length_8abf5 pc = .ok (.ireturn, 1) → vV p l e { frames := 1, cells := 0, slots := 0, locals := 20 } s m args below meth c A D 1 0 0 Q [] pc lv [.int r0]) {x1 : Nat} (h : fJ0_length_8abf5 x1 = some r0) : vV p l e { frames := 1, cells := 0, slots := 0, locals := 20 } s m args below meth c A D 1 0 0 Q [] 0 [(0, .ref (adK x1))] [] := by
  rw [fJ0_length_8abf5] at h
  refine vi_aload_n C 0 dJ0_length_8abf5_0 rfl ?_
  obtain ⟨hz1, h⟩ := ob_ok h
  refine vi_getValue C hz1 tfJ0_9 dJ0_length_8abf5_1 ?_
  obtain ⟨hz2, h⟩ := ob_ok h
  refine vi_lenB C hz2 dJ0_length_8abf5_4 ?_
  refine vi_aload_n C 0 dJ0_length_8abf5_5 rfl ?_
  obtain ⟨hz3, h⟩ := ob_ok h
  obtain ⟨y4, hgy4, h⟩ := ob_bd h
  refine vi_callK0i (As := []) (rest := [.int (Int32.ofNat (vlen.getD x1 0))]) C hz3 (mJ0_coder_7d493 C.2.2.2.2.2.2.2.2.1 hgy4) 0 rfl tcJ0_coder_7d493 tlJ0_335 tiJ0_coder_7d493 tsJ0_coder_7d493 rfl tnJ0 tdJ0_coder_7d493 ⟨Nat.le_of_ble_eq_true rfl, Nat.le_of_ble_eq_true rfl⟩ rfl (Nat.le_of_ble_eq_true rfl) dJ0_length_8abf5_6 ?_
  refine vi_ishr C dJ0_length_8abf5_9 ?_
  exact vi_donei0  RET h dJ0_length_8abf5_10
theorem mJ0_length_8abf5 {ad adK adV : Nat → Nat} {tS tF : Nat} {tX sK sV : Nat → Nat} (hE : vEok (vE ad adK adV tS tF tX sK sV)) {l : Launch} {D : va_G} {cI cF cC cS cO cB cZ : ClassId} {r0 : Int32}  {x1 : Nat} (h : fJ0_length_8abf5 x1 = some r0) : vM (vE ad adK adV tS tF tX sK sV) l yJ0_length_8abf5 cJ0_length_8abf5 1 (some .int) 1 20 D (vT7 cI cF cC cS cO cB cZ) [.ref (adK x1)] [] (vQi D [] r0) :=
  vM_ofF hE (by decide +kernel) (Nat.le_of_ble_eq_true rfl) (fun p e s m args below meth c A C hr => kJ0_length_8abf5_e C (vi_reti C hr) h)
def fJ0_isLatin1_aae02 (x1 : Nat) : Option (Int32) := (if (1 : Int32) = 0 then some (0 : Int32) else if x1 < 10 then (if (0 : Int32) = 0 then some (1 : Int32) else some (0 : Int32)) else none)
set_option maxRecDepth 100000 in
set_option maxHeartbeats 4000000 in
theorem kJ0_isLatin1_aae02_e {ad adK adV : Nat → Nat} {tS tF : Nat} {tX sK sV : Nat → Nat} {p : Program} {l : Launch} {e : Env} {s : State} {m : MethodId} {args : Array Value} {below : List Frame} {meth : Method} {c : Code} {A : Nat → Prop} {D : va_G} {cI cF cC cS cO cB cZ : ClassId} {Q : State → Prop} (C : vC (vE ad adK adV tS tF tX sK sV) p l s m args meth c A D (vT7 cI cF cC cS cO cB cZ) cJ0_isLatin1_aae02 1 RJ0) {r0 : Int32} (RET : ∀ (pc : Nat) (lv : List (Nat × Value)), decode cJ0_isLatin1_aae02 pc = .ok (.ireturn, 1) → (r0 = 0 ∨ r0 = 1) → vV p l e { frames := 0, cells := 0, slots := 0, locals := 0 } s m args below meth c A D 1 0 0 Q [] pc lv [.int r0]) {x1 : Nat} (h : fJ0_isLatin1_aae02 x1 = some r0) : vV p l e { frames := 0, cells := 0, slots := 0, locals := 0 } s m args below meth c A D 1 0 0 Q [] 0 [(0, .ref (adK x1))] [] := by
  rw [fJ0_isLatin1_aae02] at h
  refine vi_getCo C tfJ0_38 dJ0_isLatin1_aae02_0 ?_
  refine vi_if_eq (tgt := 17) C dJ0_isLatin1_aae02_3 (by decide) (fun hc1 => ?_) (fun hc1 => ?_)
  · have h := ob_t h hc1
    refine vi_iconst (v := 0) C dJ0_isLatin1_aae02_17 (by decide) ?_
    exact vi_donez0  RET h (by decide) dJ0_isLatin1_aae02_18
  · have h := ob_f h hc1
    refine vi_aload_n C 0 dJ0_isLatin1_aae02_6 rfl ?_
    obtain ⟨hz2, h⟩ := ob_ok h
    refine vi_getCoder C hz2 tfJ0_15 dJ0_isLatin1_aae02_7 ?_
    refine vi_if_ne (tgt := 17) C dJ0_isLatin1_aae02_10 (by decide) (fun hc3 => ?_) (fun hc3 => ?_)
    · have h := ob_f h hc3
      refine vi_iconst (v := 0) C dJ0_isLatin1_aae02_17 (by decide) ?_
      exact vi_donez0  RET h (by decide) dJ0_isLatin1_aae02_18
    · have h := ob_t h hc3
      refine vi_iconst (v := 1) C dJ0_isLatin1_aae02_13 (by decide) ?_
      refine vi_goto (tgt := 18) C dJ0_isLatin1_aae02_14 (by decide) ?_
      exact vi_donez0  RET h (by decide) dJ0_isLatin1_aae02_18
theorem mJ0_isLatin1_aae02 {ad adK adV : Nat → Nat} {tS tF : Nat} {tX sK sV : Nat → Nat} (hE : vEok (vE ad adK adV tS tF tX sK sV)) {l : Launch} {D : va_G} {cI cF cC cS cO cB cZ : ClassId} {r0 : Int32}  {x1 : Nat} (h : fJ0_isLatin1_aae02 x1 = some r0) : vM (vE ad adK adV tS tF tX sK sV) l yJ0_isLatin1_aae02 cJ0_isLatin1_aae02 1 (some .boolean) 0 0 D (vT7 cI cF cC cS cO cB cZ) [.ref (adK x1)] [] (vQi D [] r0) :=
  vM_ofF hE (by decide +kernel) (Nat.le_of_ble_eq_true rfl) (fun p e s m args below meth c A C hr => kJ0_isLatin1_aae02_e C (vi_retzz C hr) h)
def fJ3_checkIndex_8e157_null (x1 : Int32) (x2 : Int32) : Option (Int32) := (if x1 < 0 then none else (if x1 < x2 then some x1 else none))
set_option maxRecDepth 100000 in
set_option maxHeartbeats 4000000 in
theorem kJ3_checkIndex_8e157_null_e {ad adK adV : Nat → Nat} {tS tF : Nat} {tX sK sV : Nat → Nat} {p : Program} {l : Launch} {e : Env} {s : State} {m : MethodId} {args : Array Value} {below : List Frame} {meth : Method} {c : Code} {A : Nat → Prop} {D : va_G} {cI cF cC cS cO cB cZ : ClassId} {Q : State → Prop} (C : vC (vE ad adK adV tS tF tX sK sV) p l s m args meth c A D (vT7 cI cF cC cS cO cB cZ) cJ3_checkIndex_8e157 3 RJ3) {r0 : Int32} (RET : ∀ (pc : Nat) (lv : List (Nat × Value)), decode cJ3_checkIndex_8e157 pc = .ok (.ireturn, 1) → vV p l e { frames := 0, cells := 0, slots := 0, locals := 0 } s m args below meth c A D 3 0 0 Q [] pc lv [.int r0]) {x1 : Int32} {x2 : Int32} (h : fJ3_checkIndex_8e157_null x1 x2 = some r0) : vV p l e { frames := 0, cells := 0, slots := 0, locals := 0 } s m args below meth c A D 3 0 0 Q [] 0 [(0, .int x1), (1, .int x2), (2, .null)] [] := by
  rw [fJ3_checkIndex_8e157_null] at h
  refine vi_iload_n C 0 dJ3_checkIndex_8e157_0 rfl ?_
  refine vi_if_lt (tgt := 9) C dJ3_checkIndex_8e157_1 (by decide) (fun hc1 => ?_) (fun hc1 => ?_)
  · have h := ob_t h hc1
    refine vi_aload_nN C 2 dJ3_checkIndex_8e157_9 rfl ?_
    refine vi_iload_n C 0 dJ3_checkIndex_8e157_10 rfl ?_
    refine vi_iload_n C 1 dJ3_checkIndex_8e157_11 rfl ?_
    cases h
  · have h := ob_f h hc1
    refine vi_iload_n C 0 dJ3_checkIndex_8e157_4 rfl ?_
    refine vi_iload_n C 1 dJ3_checkIndex_8e157_5 rfl ?_
    refine vi_icmp_lt (tgt := 16) C dJ3_checkIndex_8e157_6 (by decide) (fun hc2 => ?_) (fun hc2 => ?_)
    · have h := ob_t h hc2
      refine vi_iload_n C 0 dJ3_checkIndex_8e157_16 rfl ?_
      exact vi_donei0  RET h dJ3_checkIndex_8e157_17
    · have h := ob_f h hc2
      refine vi_aload_nN C 2 dJ3_checkIndex_8e157_9 rfl ?_
      refine vi_iload_n C 0 dJ3_checkIndex_8e157_10 rfl ?_
      refine vi_iload_n C 1 dJ3_checkIndex_8e157_11 rfl ?_
      cases h
theorem mJ3_checkIndex_8e157_null {ad adK adV : Nat → Nat} {tS tF : Nat} {tX sK sV : Nat → Nat} (hE : vEok (vE ad adK adV tS tF tX sK sV)) {l : Launch} {D : va_G} {cI cF cC cS cO cB cZ : ClassId} {r0 : Int32}  {x1 : Int32} {x2 : Int32} (h : fJ3_checkIndex_8e157_null x1 x2 = some r0) : vM (vE ad adK adV tS tF tX sK sV) l yJ3_checkIndex_8e157 cJ3_checkIndex_8e157 3 (some .int) 0 0 D (vT7 cI cF cC cS cO cB cZ) [.int x1, .int x2, .null] [] (vQi D [] r0) :=
  vM_ofF hE (by decide +kernel) (Nat.le_of_ble_eq_true rfl) (fun p e s m args below meth c A C hr => kJ3_checkIndex_8e157_null_e C (vi_reti C hr) h)
set_option maxRecDepth 100000 in
set_option maxHeartbeats 4000000 in
theorem kJ3_checkIndex_8e157_any_e {ad adK adV : Nat → Nat} {tS tF : Nat} {tX sK sV : Nat → Nat} {t0 : Nat} {p : Program} {l : Launch} {e : Env} {s : State} {m : MethodId} {args : Array Value} {below : List Frame} {meth : Method} {c : Code} {A : Nat → Prop} {D : va_G} {cI cF cC cS cO cB cZ : ClassId} {Q : State → Prop} (C : vC (vE ad adK adV tS tF tX sK sV) p l s m args meth c A D (vT7 cI cF cC cS cO cB cZ) cJ3_checkIndex_8e157 3 RJ3) {r0 : Int32} (RET : ∀ (pc : Nat) (lv : List (Nat × Value)), decode cJ3_checkIndex_8e157 pc = .ok (.ireturn, 1) → vV p l e { frames := 0, cells := 0, slots := 0, locals := 0 } s m args below meth c A D 3 0 0 Q [] pc lv [.int r0]) {x1 : Int32} {x2 : Int32} (h : fJ3_checkIndex_8e157_null x1 x2 = some r0) : vV p l e { frames := 0, cells := 0, slots := 0, locals := 0 } s m args below meth c A D 3 0 0 Q [] 0 [(0, .int x1), (1, .int x2), (2, .ref t0)] [] := by
  rw [fJ3_checkIndex_8e157_null] at h
  refine vi_iload_n C 0 dJ3_checkIndex_8e157_0 rfl ?_
  refine vi_if_lt (tgt := 9) C dJ3_checkIndex_8e157_1 (by decide) (fun hc1 => ?_) (fun hc1 => ?_)
  · have h := ob_t h hc1
    refine vi_aload_n C 2 dJ3_checkIndex_8e157_9 rfl ?_
    refine vi_iload_n C 0 dJ3_checkIndex_8e157_10 rfl ?_
    refine vi_iload_n C 1 dJ3_checkIndex_8e157_11 rfl ?_
    cases h
  · have h := ob_f h hc1
    refine vi_iload_n C 0 dJ3_checkIndex_8e157_4 rfl ?_
    refine vi_iload_n C 1 dJ3_checkIndex_8e157_5 rfl ?_
    refine vi_icmp_lt (tgt := 16) C dJ3_checkIndex_8e157_6 (by decide) (fun hc2 => ?_) (fun hc2 => ?_)
    · have h := ob_t h hc2
      refine vi_iload_n C 0 dJ3_checkIndex_8e157_16 rfl ?_
      exact vi_donei0  RET h dJ3_checkIndex_8e157_17
    · have h := ob_f h hc2
      refine vi_aload_n C 2 dJ3_checkIndex_8e157_9 rfl ?_
      refine vi_iload_n C 0 dJ3_checkIndex_8e157_10 rfl ?_
      refine vi_iload_n C 1 dJ3_checkIndex_8e157_11 rfl ?_
      cases h
theorem mJ3_checkIndex_8e157_any {ad adK adV : Nat → Nat} {tS tF : Nat} {tX sK sV : Nat → Nat} {t0 : Nat} (hE : vEok (vE ad adK adV tS tF tX sK sV)) {l : Launch} {D : va_G} {cI cF cC cS cO cB cZ : ClassId} {r0 : Int32}  {x1 : Int32} {x2 : Int32} (h : fJ3_checkIndex_8e157_null x1 x2 = some r0) : vM (vE ad adK adV tS tF tX sK sV) l yJ3_checkIndex_8e157 cJ3_checkIndex_8e157 3 (some .int) 0 0 D (vT7 cI cF cC cS cO cB cZ) [.int x1, .int x2, .ref t0] [] (vQi D [] r0) :=
  vM_ofF hE (by decide +kernel) (Nat.le_of_ble_eq_true rfl) (fun p e s m args below meth c A C hr => kJ3_checkIndex_8e157_any_e C (vi_reti C hr) h)
def fJ0_checkIndex_df160 (x1 : Int32) (x2 : Int32) : Option (Unit) := (fJ3_checkIndex_8e157_null x1 x2).bind fun y1 => some ()
set_option maxRecDepth 100000 in
set_option maxHeartbeats 4000000 in
theorem kJ0_checkIndex_df160_e {ad adK adV : Nat → Nat} {tS tF : Nat} {tX sK sV : Nat → Nat} {p : Program} {l : Launch} {e : Env} {s : State} {m : MethodId} {args : Array Value} {below : List Frame} {meth : Method} {c : Code} {A : Nat → Prop} {D : va_G} {cI cF cC cS cO cB cZ : ClassId} {Q : State → Prop} (C : vC (vE ad adK adV tS tF tX sK sV) p l s m args meth c A D (vT7 cI cF cC cS cO cB cZ) cJ0_checkIndex_df160 2 RJ0) (RET : ∀ (pc : Nat) (lv : List (Nat × Value)), decode cJ0_checkIndex_df160 pc = .ok (.return_, 1) → vV p l e { frames := 1, cells := 0, slots := 0, locals := 22 } s m args below meth c A D 2 0 0 Q [] pc lv []) {x1 : Int32} {x2 : Int32} (h : fJ0_checkIndex_df160 x1 x2 = some ()) : vV p l e { frames := 1, cells := 0, slots := 0, locals := 22 } s m args below meth c A D 2 0 0 Q [] 0 [(0, .int x1), (1, .int x2)] [] := by
  rw [fJ0_checkIndex_df160] at h
  refine vi_iload_n C 0 dJ0_checkIndex_df160_0 rfl ?_
  refine vi_iload_n C 1 dJ0_checkIndex_df160_1 rfl ?_
  refine vi_getSi C tfJ0_1053 dJ0_checkIndex_df160_2 ?_ (fun t0 => ?_)
  · obtain ⟨y1, hgy1, h⟩ := ob_bd h
    refine vi_callS0i (As := [.int x1, .int x2, .null]) (rest := []) C (mJ3_checkIndex_8e157_null C.2.2.2.2.2.2.2.2.1 hgy1) 3 rfl tcJ3_checkIndex_8e157 tlJ0_1059 ttJ3_checkIndex_8e157 tnJ3 tdJ3_checkIndex_8e157 ⟨Nat.le_of_ble_eq_true rfl, Nat.le_of_ble_eq_true rfl⟩ rfl (Nat.le_of_ble_eq_true rfl) dJ0_checkIndex_df160_5 ?_
    refine vi_pop C dJ0_checkIndex_df160_8 rfl ?_
    exact RET _ _ dJ0_checkIndex_df160_9
  · obtain ⟨y1, hgy1, h⟩ := ob_bd h
    refine vi_callS0i (As := [.int x1, .int x2, .ref t0]) (rest := []) C (mJ3_checkIndex_8e157_any C.2.2.2.2.2.2.2.2.1 hgy1) 3 rfl tcJ3_checkIndex_8e157 tlJ0_1059 ttJ3_checkIndex_8e157 tnJ3 tdJ3_checkIndex_8e157 ⟨Nat.le_of_ble_eq_true rfl, Nat.le_of_ble_eq_true rfl⟩ rfl (Nat.le_of_ble_eq_true rfl) dJ0_checkIndex_df160_5 ?_
    refine vi_pop C dJ0_checkIndex_df160_8 rfl ?_
    exact RET _ _ dJ0_checkIndex_df160_9
theorem mJ0_checkIndex_df160 {ad adK adV : Nat → Nat} {tS tF : Nat} {tX sK sV : Nat → Nat} (hE : vEok (vE ad adK adV tS tF tX sK sV)) {l : Launch} {D : va_G} {cI cF cC cS cO cB cZ : ClassId}  {x1 : Int32} {x2 : Int32} (h : fJ0_checkIndex_df160 x1 x2 = some ()) : vM (vE ad adK adV tS tF tX sK sV) l yJ0_checkIndex_df160 cJ0_checkIndex_df160 2 none 1 22 D (vT7 cI cF cC cS cO cB cZ) [.int x1, .int x2] [] (vQv D []) :=
  vM_ofF hE (by decide +kernel) (Nat.le_of_ble_eq_true rfl) (fun p e s m args below meth c A C hr => kJ0_checkIndex_df160_e C (vi_retv C hr) h)
def fJ1_charAt_3b067 (x1 : Nat) (x2 : Int32) : Option (Int32) := if x1 < 10 then (fJ0_checkIndex_df160 x2 (Int32.ofNat (vlen.getD x1 0))).bind fun y2 => if x1 < 10 then if x2 < 0 ∨ vlen.getD x1 0 ≤ Int32.toNatClampNeg x2 then none else if ((Int32.toUInt32 (((vbyt.getD x1 []).getD (Int32.toNatClampNeg x2) 0) &&& (255 : Int32)) % 65536).toInt32 &&& 65535) = (Int32.toUInt32 (((vbyt.getD x1 []).getD (Int32.toNatClampNeg x2) 0) &&& (255 : Int32)) % 65536).toInt32 then some ((Int32.toUInt32 (((vbyt.getD x1 []).getD (Int32.toNatClampNeg x2) 0) &&& (255 : Int32)) % 65536).toInt32) else none else none else none
set_option maxRecDepth 100000 in
set_option maxHeartbeats 4000000 in
theorem kJ1_charAt_3b067_e {ad adK adV : Nat → Nat} {tS tF : Nat} {tX sK sV : Nat → Nat} {p : Program} {l : Launch} {e : Env} {s : State} {m : MethodId} {args : Array Value} {below : List Frame} {meth : Method} {c : Code} {A : Nat → Prop} {D : va_G} {cI cF cC cS cO cB cZ : ClassId} {Q : State → Prop} (C : vC (vE ad adK adV tS tF tX sK sV) p l s m args meth c A D (vT7 cI cF cC cS cO cB cZ) cJ1_charAt_3b067 2 RJ1) {r0 : Int32} (RET : ∀ (pc : Nat) (lv : List (Nat × Value)), decode cJ1_charAt_3b067 pc = .ok (.ireturn, 1) → (r0 &&& 65535) = r0 → vV p l e { frames := 2, cells := 0, slots := 0, locals := 43 } s m args below meth c A D 2 0 0 Q [] pc lv [.int r0]) {x1 : Nat} {x2 : Int32} (h : fJ1_charAt_3b067 x1 x2 = some r0) : vV p l e { frames := 2, cells := 0, slots := 0, locals := 43 } s m args below meth c A D 2 0 0 Q [] 0 [(0, .ref (adV x1)), (1, .int x2)] [] := by
  rw [fJ1_charAt_3b067] at h
  refine vi_iload_n C 1 dJ1_charAt_3b067_0 rfl ?_
  refine vi_aload_n C 0 dJ1_charAt_3b067_1 rfl ?_
  obtain ⟨hz1, h⟩ := ob_ok h
  refine vi_lenB C hz1 dJ1_charAt_3b067_2 ?_
  obtain ⟨y2, hgy2, h⟩ := ob_bd h
  refine vi_callS0v (As := [.int x2, .int (Int32.ofNat (vlen.getD x1 0))]) (rest := []) C (mJ0_checkIndex_df160 C.2.2.2.2.2.2.2.2.1 hgy2) 2 rfl tcJ0_checkIndex_df160 tlJ1_9 ttJ0_checkIndex_df160 tnJ0 tdJ0_checkIndex_df160 ⟨Nat.le_of_ble_eq_true rfl, Nat.le_of_ble_eq_true rfl⟩ rfl (Nat.le_of_ble_eq_true rfl) dJ1_charAt_3b067_3 ?_
  refine vi_aload_n C 0 dJ1_charAt_3b067_6 rfl ?_
  refine vi_iload_n C 1 dJ1_charAt_3b067_7 rfl ?_
  obtain ⟨hz3, h⟩ := ob_ok h
  obtain ⟨hz4, h⟩ := ob_if h
  refine vi_ldB (n := (Int32.toNatClampNeg x2)) C hz3 hz4 rfl dJ1_charAt_3b067_8 ?_
  refine vi_sipush (v := 255) C dJ1_charAt_3b067_9 (by decide) ?_
  refine vi_iand C dJ1_charAt_3b067_12 ?_
  refine vi_i2c C dJ1_charAt_3b067_13 ?_
  obtain ⟨hz5, h⟩ := ob_ok h
  exact vi_donec0  RET h hz5 dJ1_charAt_3b067_14
theorem mJ1_charAt_3b067 {ad adK adV : Nat → Nat} {tS tF : Nat} {tX sK sV : Nat → Nat} (hE : vEok (vE ad adK adV tS tF tX sK sV)) {l : Launch} {D : va_G} {cI cF cC cS cO cB cZ : ClassId} {r0 : Int32}  {x1 : Nat} {x2 : Int32} (h : fJ1_charAt_3b067 x1 x2 = some r0) : vM (vE ad adK adV tS tF tX sK sV) l yJ1_charAt_3b067 cJ1_charAt_3b067 2 (some .char) 2 43 D (vT7 cI cF cC cS cO cB cZ) [.ref (adV x1), .int x2] [] (vQi D [] r0) :=
  vM_ofF hE (by decide +kernel) (Nat.le_of_ble_eq_true rfl) (fun p e s m args below meth c A C hr => kJ1_charAt_3b067_e C (vi_retcc C hr) h)
def fJ0_charAt_5068e (x1 : Nat) (x2 : Int32) : Option (Int32) := if x1 < 10 then (fJ0_isLatin1_aae02 x1).bind fun y2 => (if y2 = 0 then if x1 < 10 then none else none else if x1 < 10 then (fJ1_charAt_3b067 x1 x2).bind fun y6 => if (y6 &&& 65535) = y6 then some y6 else none else none) else none
set_option maxRecDepth 100000 in
set_option maxHeartbeats 4000000 in
theorem kJ0_charAt_5068e_e {ad adK adV : Nat → Nat} {tS tF : Nat} {tX sK sV : Nat → Nat} {p : Program} {l : Launch} {e : Env} {s : State} {m : MethodId} {args : Array Value} {below : List Frame} {meth : Method} {c : Code} {A : Nat → Prop} {D : va_G} {cI cF cC cS cO cB cZ : ClassId} {Q : State → Prop} (C : vC (vE ad adK adV tS tF tX sK sV) p l s m args meth c A D (vT7 cI cF cC cS cO cB cZ) cJ0_charAt_5068e 2 RJ0) {r0 : Int32} (RET : ∀ (pc : Nat) (lv : List (Nat × Value)), decode cJ0_charAt_5068e pc = .ok (.ireturn, 1) → (r0 &&& 65535) = r0 → vV p l e { frames := 3, cells := 0, slots := 0, locals := 64 } s m args below meth c A D 2 0 0 Q [] pc lv [.int r0]) {x1 : Nat} {x2 : Int32} (h : fJ0_charAt_5068e x1 x2 = some r0) : vV p l e { frames := 3, cells := 0, slots := 0, locals := 64 } s m args below meth c A D 2 0 0 Q [] 0 [(0, .ref (adK x1)), (1, .int x2)] [] := by
  rw [fJ0_charAt_5068e] at h
  refine vi_aload_n C 0 dJ0_charAt_5068e_0 rfl ?_
  obtain ⟨hz1, h⟩ := ob_ok h
  obtain ⟨y2, hgy2, h⟩ := ob_bd h
  refine vi_callK0i (As := []) (rest := []) C hz1 (mJ0_isLatin1_aae02 C.2.2.2.2.2.2.2.2.1 hgy2) 0 rfl tcJ0_isLatin1_aae02 tlJ0_492 tiJ0_isLatin1_aae02 tsJ0_isLatin1_aae02 rfl tnJ0 tdJ0_isLatin1_aae02 ⟨Nat.le_of_ble_eq_true rfl, Nat.le_of_ble_eq_true rfl⟩ rfl (Nat.le_of_ble_eq_true rfl) dJ0_charAt_5068e_1 ?_
  refine vi_if_eq (tgt := 16) C dJ0_charAt_5068e_4 (by decide) (fun hc3 => ?_) (fun hc3 => ?_)
  · have h := ob_t h hc3
    refine vi_aload_n C 0 dJ0_charAt_5068e_16 rfl ?_
    obtain ⟨hz4, h⟩ := ob_ok h
    refine vi_getValue C hz4 tfJ0_9 dJ0_charAt_5068e_17 ?_
    refine vi_iload_n C 1 dJ0_charAt_5068e_20 rfl ?_
    cases h
  · have h := ob_f h hc3
    refine vi_aload_n C 0 dJ0_charAt_5068e_7 rfl ?_
    obtain ⟨hz5, h⟩ := ob_ok h
    refine vi_getValue C hz5 tfJ0_9 dJ0_charAt_5068e_8 ?_
    refine vi_iload_n C 1 dJ0_charAt_5068e_11 rfl ?_
    obtain ⟨y6, hgy6, h⟩ := ob_bd h
    refine vi_callS0i (As := [.ref (adV x1), .int x2]) (rest := []) C (mJ1_charAt_3b067 C.2.2.2.2.2.2.2.2.1 hgy6) 2 rfl tcJ1_charAt_3b067 tlJ0_495 ttJ1_charAt_3b067 tnJ1 tdJ1_charAt_3b067 ⟨Nat.le_of_ble_eq_true rfl, Nat.le_of_ble_eq_true rfl⟩ rfl (Nat.le_of_ble_eq_true rfl) dJ0_charAt_5068e_12 ?_
    obtain ⟨hz7, h⟩ := ob_ok h
    exact vi_donec0  RET h hz7 dJ0_charAt_5068e_15
theorem mJ0_charAt_5068e {ad adK adV : Nat → Nat} {tS tF : Nat} {tX sK sV : Nat → Nat} (hE : vEok (vE ad adK adV tS tF tX sK sV)) {l : Launch} {D : va_G} {cI cF cC cS cO cB cZ : ClassId} {r0 : Int32}  {x1 : Nat} {x2 : Int32} (h : fJ0_charAt_5068e x1 x2 = some r0) : vM (vE ad adK adV tS tF tX sK sV) l yJ0_charAt_5068e cJ0_charAt_5068e 2 (some .char) 3 64 D (vT7 cI cF cC cS cO cB cZ) [.ref (adK x1), .int x2] [] (vQi D [] r0) :=
  vM_ofF hE (by decide +kernel) (Nat.le_of_ble_eq_true rfl) (fun p e s m args below meth c A C hr => kJ0_charAt_5068e_e C (vi_retcc C hr) h)
section VORD
variable {p : Program} {l : Launch} {e : Env} {R : Room} {s : State} {m : MethodId} {args : Array Value} {below : List Frame} {meth : Method} {c : Code} {A : Nat → Prop} {D : va_G} {cc : ByteArray} {nL : Nat} {own : String} {kc ks : Nat} {Q : State → Prop} {w : va_W} {pc : Nat} {lv lv' : List (Nat × Value)} {st : List Value}
variable {ad adK adV : Nat → Nat} {tS tF : Nat} {tX sK sV : Nat → Nat}
variable {cI cF cC cS cO cB cZ : ClassId}
theorem vi_callOrd (C : vC (vE ad adK adV tS tF tX sK sV) p l s m args meth c A D (vT7 cI cF cC cS cO cB cZ) cc nL own) {rest : List Value} {idx i : Nat} (hi : i < 10) (hlink : Cond.methodLink own idx ⟨"MoodSextant$Form", "ordinal", "()I"⟩ ∈ wsL_law) (hR : 0 + 1 ≤ R.frames ∧ 8 + (1 + 11) + 0 ≤ R.locals) (hcat : (rest.map fun v => v.category).sum ≤ 8) (hdg : decode cc pc = .ok (.invokevirtual idx, 3)) (k : vV p l e R s m args below meth c A D nL 0 0 Q w (pc + 3) lv (.int (nI i) :: rest)) : vV p l e R s m args below meth c A D nL 0 0 Q w pc lv (.ref (ad i) :: rest) := by
  intro H locs ls hP hD hS hl
  obtain ⟨hkept, hnar, hmov, hsam⟩ := C.2.2.2.2.2.2.2.2.1
  have hE0 := C.2.2.2.2.2.2.2.2.2
  have ts := C.2.2.2.2.1
  have hw : w = [] ++ ([] ++ w) := rfl
  have hF := vfree hw hD hS C.2.2.2.2.2.2.1
  have hf : fJx29ce0_ordinal_8abf5 i = some (nI i) := by rw [fJx29ce0_ordinal_8abf5, if_pos hi]
  have hM := mJx29ce0_ordinal_8abf5 (l := l) (D := D) (cI := cI) (cF := cF) (cC := cC) (cS := cS) (cO := cO) (cB := cB) (cZ := cZ) C.2.2.2.2.2.2.2.2.1 hf
  refine va_calli (va_runU (As := []) (rest := rest) (C := "MoodSextant$Form") (owner := "java/lang/Enum") (x := ⟨"MoodSextant$Form", "ordinal", "()I"⟩) (n := 0) ⟨C.1, C.2.1, C.2.2.1, C.2.2.2.1, ts⟩ (hM H.size) ⟨⟨rfl, rfl, hR.1, hR.2, pay_in ts (vT_in tcJx29ce0_ordinal_8abf5), List.mem_cons_self⟩, ts _ tcJx29ce0_ordinal_8abf5, ts _ tnJx29ce0, ⟨by decide, by decide⟩, fun sig h => ?_, ts _ hlink, ts _ tqSameOrd, va_Decl.of (ts _ tiJx29ce0_ordinal_8abf5) (ts _ tcJx29ce0_ordinal_8abf5), ts _ tqSelOrd, ts _ tiJx29ce0_ordinal_8abf5⟩ ⟨fun a U g mk q => ?_, vE_recvF C hi hS, fun U hU hW => ?_⟩ rfl rfl hl.1 rfl (lv_room hcat) hdg ⟨Nat.zero_le _, Nat.zero_le _⟩) hS (fun q _ h => hF q h) hF (fun r1 u t H1 locs1 ht hvm hr hB hz hk hS1 => ?_)
  · have h2 : (parseMethodDescriptor "()I").map (fun d => d.parameters.length) = some 0 := by decide +kernel
    rw [h] at h2
    exact (Option.some.inj h2).symm
  · obtain ⟨q0, q1, qP, qK, qD, qE⟩ := q
    exact ⟨q0, q1, qP, va_K.moved (u := U) (U := U.calling g mk a) (Vm.Alike.refl U.vm) qK, qD, hsam _ U (U.calling g mk a) _ rfl qE⟩
  · refine ⟨rfl, by rw [hU], by rw [hU]; exact vsubP hw hP, va_K.moved hW.alike C.2.2.2.2.2.1, vsubD hw hD, ?_⟩
    rw [hU]
    exact hmov _ s U _ hW (hnar _ _ _ _ (hkept _ _ _ _ hE0 hS.2.1) hF)
  · subst hr
    rw [ht] at hB
    obtain ⟨hP1, hD1⟩ := vj hw rfl hP hD hk hB
    exact k H1 locs1 ls hP1 hD1 hS1 hl
end VORD
