-- ---- X2_remember
def fX2_remember_35 (x1 : Int32) (u : vHI) : Option (vHI) := bd ((u.1, (upd u.2.1 1 x1, u.2.2))) fun u1 => (if (8 : Int32) ≤ u1.2.1 2 then some u1 else bd ((u1.1, (upd u1.2.1 2 ((u1.2.1 2) + (1 : Int32)), u1.2.2))) fun u3 => some u3)
set_option maxRecDepth 100000 in
set_option maxHeartbeats 4000000 in
theorem kX2_remember_35 {ad adK adV : Nat → Nat} {tS tF : Nat} {tX sK sV : Nat → Nat} {p : Program} {l : Launch} {e : Env} {s : State} {m : MethodId} {args : Array Value} {below : List Frame} {meth : Method} {c : Code} {A : Nat → Prop} {D : va_G} {cI cF cC cS cO cB cZ : ClassId} {Q : State → Prop} {qs qo : Nat → Nat} {qh : Nat → Nat → Nat} (C : vC (vE ad adK adV tS tF tX sK sV) p l s m args meth c A D (vT7 cI cF cC cS cO cB cZ) cX2_remember 2 RX2) {u0 : vHI} (RET : ∀ (pc : Nat) (lv : List (Nat × Value)), decode cX2_remember pc = .ok (.return_, 1) → vV p l e { frames := 2, cells := 0, slots := 0, locals := 81 } s m args below meth c A D 2 0 0 Q (wHi qs qo qh cI cF cS u0) pc lv []) : ∀ (x1 : Int32) (u : vHI), fX2_remember_35 x1 u = some u0 → vV p l e { frames := 2, cells := 0, slots := 0, locals := 81 } s m args below meth c A D 2 0 0 Q (wHi qs qo qh cI cF cS u) 35 [(0, .ref (qo 0))] [.int x1, .ref (qo 0)] := by
  intro x1 u h
  rw [fX2_remember_35] at h
  obtain ⟨u1, eu1, h⟩ := ob_nm h
  refine pH_X2_8_1 C dX2_remember_35 eu1.symm ?_
  refine vi_aload_n C 0 dX2_remember_38 rfl ?_
  refine gH_X2_8_2 C dX2_remember_39 ?_
  refine vi_bipush (v := 8) C dX2_remember_42 (by decide) ?_
  refine vi_icmp_ge (tgt := 57) C dX2_remember_44 (by decide) (fun hc2 => ?_) (fun hc2 => ?_)
  · have h := ob_t h hc2
    exact vi_donev (W := wHi qs qo qh cI cF cS) RET h dX2_remember_57
  · have h := ob_f h hc2
    refine vi_aload_n C 0 dX2_remember_47 rfl ?_
    refine vi_dup C dX2_remember_48 rfl ?_
    refine gH_X2_8_2 C dX2_remember_49 ?_
    refine vi_iconst (v := 1) C dX2_remember_52 (by decide) ?_
    refine vi_iadd C dX2_remember_53 ?_
    obtain ⟨u3, eu3, h⟩ := ob_nm h
    refine pH_X2_8_2 C dX2_remember_54 eu3.symm ?_
    exact vi_donev (W := wHi qs qo qh cI cF cS) RET h dX2_remember_57
def fX2_remember (u : vHI) : Option (vHI) := if u.2.1 1 < 0 ∨ 8 ≤ Int32.toNatClampNeg (u.2.1 1) then none else (fX5_copyFrom (u.2.2 (Int32.toNatClampNeg (u.2.1 1)), u.1)).bind fun u2b => bd ((u2b.2, (u.2.1, va_up u.2.2 (Int32.toNatClampNeg (u.2.1 1)) u2b.1))) fun u2 => (if (8 : Int32) ≤ (u2.2.1 1) + (1 : Int32) then fX2_remember_35 (0 : Int32) u2 else fX2_remember_35 ((u2.2.1 1) + (1 : Int32)) u2)
set_option maxRecDepth 100000 in
set_option maxHeartbeats 4000000 in
theorem kX2_remember_e {ad adK adV : Nat → Nat} {tS tF : Nat} {tX sK sV : Nat → Nat} {p : Program} {l : Launch} {e : Env} {s : State} {m : MethodId} {args : Array Value} {below : List Frame} {meth : Method} {c : Code} {A : Nat → Prop} {D : va_G} {cI cF cC cS cO cB cZ : ClassId} {Q : State → Prop} {qs qo : Nat → Nat} {qh : Nat → Nat → Nat} (C : vC (vE ad adK adV tS tF tX sK sV) p l s m args meth c A D (vT7 cI cF cC cS cO cB cZ) cX2_remember 2 RX2) {u0 : vHI} (RET : ∀ (pc : Nat) (lv : List (Nat × Value)), decode cX2_remember pc = .ok (.return_, 1) → vV p l e { frames := 2, cells := 0, slots := 0, locals := 81 } s m args below meth c A D 2 0 0 Q (wHi qs qo qh cI cF cS u0) pc lv []) {u : vHI} (h : fX2_remember u = some u0) : vV p l e { frames := 2, cells := 0, slots := 0, locals := 81 } s m args below meth c A D 2 0 0 Q (wHi qs qo qh cI cF cS u) 0 [(0, .ref (qo 0)), (1, .ref (qs 0))] [] := by
  rw [fX2_remember] at h
  refine vi_aload_n C 0 dX2_remember_0 rfl ?_
  refine gH_X2_8_0 C dX2_remember_1 ?_
  refine vi_aload_n C 0 dX2_remember_4 rfl ?_
  refine gH_X2_8_1 C dX2_remember_5 ?_
  obtain ⟨hz1, h⟩ := ob_if h
  refine lH_X2_9 (n := (Int32.toNatClampNeg (u.2.1 1))) C hz1 rfl dX2_remember_8 ?_
  refine vi_aload_n C 1 dX2_remember_9 rfl ?_
  obtain ⟨u2b, hgu2, h⟩ := ob_bd h
  obtain ⟨u2, eu2, h⟩ := ob_nm h
  refine hH_to C (vlt8 hz1) (mX5_copyFrom C.2.2.2.2.2.2.2.2.1 hgu2) eu2 ⟨Nat.le_of_ble_eq_true rfl, Nat.le_of_ble_eq_true rfl⟩ (Nat.le_of_ble_eq_true rfl) dX2_remember_10 ?_
  refine vi_aload_n C 0 dX2_remember_13 rfl ?_
  refine vi_aload_n C 0 dX2_remember_14 rfl ?_
  refine gH_X2_8_1 C dX2_remember_15 ?_
  refine vi_iconst (v := 1) C dX2_remember_18 (by decide) ?_
  refine vi_iadd C dX2_remember_19 ?_
  refine vi_bipush (v := 8) C dX2_remember_20 (by decide) ?_
  refine vi_icmp_ge (tgt := 34) C dX2_remember_22 (by decide) (fun hc3 => ?_) (fun hc3 => ?_)
  · have h := ob_t h hc3
    refine vi_iconst (v := 0) C dX2_remember_34 (by decide) ?_
    refine vi_sub C [0] rfl ?_
    exact kX2_remember_35 C RET   _ _ h
  · have h := ob_f h hc3
    refine vi_aload_n C 0 dX2_remember_25 rfl ?_
    refine gH_X2_8_1 C dX2_remember_26 ?_
    refine vi_iconst (v := 1) C dX2_remember_29 (by decide) ?_
    refine vi_iadd C dX2_remember_30 ?_
    refine vi_goto (tgt := 35) C dX2_remember_31 (by decide) ?_
    refine vi_sub C [0] rfl ?_
    exact kX2_remember_35 C RET   _ _ h
theorem mX2_remember {ad adK adV : Nat → Nat} {tS tF : Nat} {tX sK sV : Nat → Nat} (hE : vEok (vE ad adK adV tS tF tX sK sV)) {l : Launch} {D : va_G} {cI cF cC cS cO cB cZ : ClassId} {qs qo : Nat → Nat} {qh : Nat → Nat → Nat} {u0 : vHI}  {u : vHI} (h : fX2_remember u = some u0) : vM (vE ad adK adV tS tF tX sK sV) l yX2_remember cX2_remember 2 none 2 81 D (vT7 cI cF cC cS cO cB cZ) [.ref (qo 0), .ref (qs 0)] (wHi qs qo qh cI cF cS u) (vQv D (wHi qs qo qh cI cF cS u0)) :=
  vM_of hE (by decide +kernel) (Nat.le_of_ble_eq_true rfl) (fun p e s m args below meth c A C hr => kX2_remember_e C (vi_retv C hr) h)
-- ---- X2_takeBack
def fX2_takeBack_28 (x1 : Int32) (u : vHI) : Option (Int32 × vHI) := bd ((u.1, (upd u.2.1 1 x1, u.2.2))) fun u1 => bd ((u1.1, (upd u1.2.1 2 ((u1.2.1 2) - (1 : Int32)), u1.2.2))) fun u2 => if u2.2.1 1 < 0 ∨ 8 ≤ Int32.toNatClampNeg (u2.2.1 1) then none else (fX5_copyFrom (u2.1, u2.2.2 (Int32.toNatClampNeg (u2.2.1 1)))).bind fun u4b => bd ((u4b.1, (u2.2.1, va_up u2.2.2 (Int32.toNatClampNeg (u2.2.1 1)) u4b.2))) fun u4 => some ((1 : Int32), u4)
set_option maxRecDepth 100000 in
set_option maxHeartbeats 4000000 in
theorem kX2_takeBack_28 {ad adK adV : Nat → Nat} {tS tF : Nat} {tX sK sV : Nat → Nat} {p : Program} {l : Launch} {e : Env} {s : State} {m : MethodId} {args : Array Value} {below : List Frame} {meth : Method} {c : Code} {A : Nat → Prop} {D : va_G} {cI cF cC cS cO cB cZ : ClassId} {Q : State → Prop} {qs qo : Nat → Nat} {qh : Nat → Nat → Nat} (C : vC (vE ad adK adV tS tF tX sK sV) p l s m args meth c A D (vT7 cI cF cC cS cO cB cZ) cX2_takeBack 2 RX2) {r0 : Int32} {u0 : vHI} (RET : ∀ (pc : Nat) (lv : List (Nat × Value)), decode cX2_takeBack pc = .ok (.ireturn, 1) → (r0 = 0 ∨ r0 = 1) → vV p l e { frames := 2, cells := 0, slots := 0, locals := 81 } s m args below meth c A D 2 0 0 Q (wHi qs qo qh cI cF cS u0) pc lv [.int r0]) : ∀ (x1 : Int32) (u : vHI), fX2_takeBack_28 x1 u = some (r0, u0) → vV p l e { frames := 2, cells := 0, slots := 0, locals := 81 } s m args below meth c A D 2 0 0 Q (wHi qs qo qh cI cF cS u) 28 [(0, .ref (qo 0)), (1, .ref (qs 0))] [.int x1, .ref (qo 0)] := by
  intro x1 u h
  rw [fX2_takeBack_28] at h
  obtain ⟨u1, eu1, h⟩ := ob_nm h
  refine pH_X2_8_1 C dX2_takeBack_28 eu1.symm ?_
  refine vi_aload_n C 0 dX2_takeBack_31 rfl ?_
  refine vi_dup C dX2_takeBack_32 rfl ?_
  refine gH_X2_8_2 C dX2_takeBack_33 ?_
  refine vi_iconst (v := 1) C dX2_takeBack_36 (by decide) ?_
  refine vi_isub C dX2_takeBack_37 ?_
  obtain ⟨u2, eu2, h⟩ := ob_nm h
  refine pH_X2_8_2 C dX2_takeBack_38 eu2.symm ?_
  refine vi_aload_n C 1 dX2_takeBack_41 rfl ?_
  refine vi_aload_n C 0 dX2_takeBack_42 rfl ?_
  refine gH_X2_8_0 C dX2_takeBack_43 ?_
  refine vi_aload_n C 0 dX2_takeBack_46 rfl ?_
  refine gH_X2_8_1 C dX2_takeBack_47 ?_
  obtain ⟨hz3, h⟩ := ob_if h
  refine lH_X2_9 (n := (Int32.toNatClampNeg (u2.2.1 1))) C hz3 rfl dX2_takeBack_50 ?_
  obtain ⟨u4b, hgu4, h⟩ := ob_bd h
  obtain ⟨u4, eu4, h⟩ := ob_nm h
  refine hH_from C (vlt8 hz3) (mX5_copyFrom C.2.2.2.2.2.2.2.2.1 hgu4) eu4 ⟨Nat.le_of_ble_eq_true rfl, Nat.le_of_ble_eq_true rfl⟩ (Nat.le_of_ble_eq_true rfl) dX2_takeBack_51 ?_
  refine vi_iconst (v := 1) C dX2_takeBack_54 (by decide) ?_
  exact vi_donez (W := wHi qs qo qh cI cF cS) RET h (by decide) dX2_takeBack_55
def fX2_takeBack (u : vHI) : Option (Int32 × vHI) := (if u.2.1 2 = 0 then some ((0 : Int32), u) else (if u.2.1 1 ≤ 0 then fX2_takeBack_28 (7 : Int32) u else fX2_takeBack_28 ((u.2.1 1) - (1 : Int32)) u))
set_option maxRecDepth 100000 in
set_option maxHeartbeats 4000000 in
theorem kX2_takeBack_e {ad adK adV : Nat → Nat} {tS tF : Nat} {tX sK sV : Nat → Nat} {p : Program} {l : Launch} {e : Env} {s : State} {m : MethodId} {args : Array Value} {below : List Frame} {meth : Method} {c : Code} {A : Nat → Prop} {D : va_G} {cI cF cC cS cO cB cZ : ClassId} {Q : State → Prop} {qs qo : Nat → Nat} {qh : Nat → Nat → Nat} (C : vC (vE ad adK adV tS tF tX sK sV) p l s m args meth c A D (vT7 cI cF cC cS cO cB cZ) cX2_takeBack 2 RX2) {r0 : Int32} {u0 : vHI} (RET : ∀ (pc : Nat) (lv : List (Nat × Value)), decode cX2_takeBack pc = .ok (.ireturn, 1) → (r0 = 0 ∨ r0 = 1) → vV p l e { frames := 2, cells := 0, slots := 0, locals := 81 } s m args below meth c A D 2 0 0 Q (wHi qs qo qh cI cF cS u0) pc lv [.int r0]) {u : vHI} (h : fX2_takeBack u = some (r0, u0)) : vV p l e { frames := 2, cells := 0, slots := 0, locals := 81 } s m args below meth c A D 2 0 0 Q (wHi qs qo qh cI cF cS u) 0 [(0, .ref (qo 0)), (1, .ref (qs 0))] [] := by
  rw [fX2_takeBack] at h
  refine vi_aload_n C 0 dX2_takeBack_0 rfl ?_
  refine gH_X2_8_2 C dX2_takeBack_1 ?_
  refine vi_if_ne (tgt := 9) C dX2_takeBack_4 (by decide) (fun hc1 => ?_) (fun hc1 => ?_)
  · have h := ob_f h hc1
    refine vi_aload_n C 0 dX2_takeBack_9 rfl ?_
    refine vi_aload_n C 0 dX2_takeBack_10 rfl ?_
    refine gH_X2_8_1 C dX2_takeBack_11 ?_
    refine vi_if_le (tgt := 26) C dX2_takeBack_14 (by decide) (fun hc2 => ?_) (fun hc2 => ?_)
    · have h := ob_t h hc2
      refine vi_bipush (v := 7) C dX2_takeBack_26 (by decide) ?_
      refine vi_sub C [0, 1] rfl ?_
      exact kX2_takeBack_28 C RET   _ _ h
    · have h := ob_f h hc2
      refine vi_aload_n C 0 dX2_takeBack_17 rfl ?_
      refine gH_X2_8_1 C dX2_takeBack_18 ?_
      refine vi_iconst (v := 1) C dX2_takeBack_21 (by decide) ?_
      refine vi_isub C dX2_takeBack_22 ?_
      refine vi_goto (tgt := 28) C dX2_takeBack_23 (by decide) ?_
      refine vi_sub C [0, 1] rfl ?_
      exact kX2_takeBack_28 C RET   _ _ h
  · have h := ob_t h hc1
    refine vi_iconst (v := 0) C dX2_takeBack_7 (by decide) ?_
    exact vi_donez (W := wHi qs qo qh cI cF cS) RET h (by decide) dX2_takeBack_8
theorem mX2_takeBack {ad adK adV : Nat → Nat} {tS tF : Nat} {tX sK sV : Nat → Nat} (hE : vEok (vE ad adK adV tS tF tX sK sV)) {l : Launch} {D : va_G} {cI cF cC cS cO cB cZ : ClassId} {qs qo : Nat → Nat} {qh : Nat → Nat → Nat} {r0 : Int32} {u0 : vHI}  {u : vHI} (h : fX2_takeBack u = some (r0, u0)) : vM (vE ad adK adV tS tF tX sK sV) l yX2_takeBack cX2_takeBack 2 (some .boolean) 2 81 D (vT7 cI cF cC cS cO cB cZ) [.ref (qo 0), .ref (qs 0)] (wHi qs qo qh cI cF cS u) (vQi D (wHi qs qo qh cI cF cS u0) r0) :=
  vM_of hE (by decide +kernel) (Nat.le_of_ble_eq_true rfl) (fun p e s m args below meth c A C hr => kX2_takeBack_e C (vi_retzz C hr) h)
-- ---- X2_forget
def fX2_forget (u : vHI) : Option (vHI) := bd ((u.1, (upd u.2.1 2 (0 : Int32), u.2.2))) fun u1 => some u1
set_option maxRecDepth 100000 in
set_option maxHeartbeats 4000000 in
theorem kX2_forget_e {ad adK adV : Nat → Nat} {tS tF : Nat} {tX sK sV : Nat → Nat} {p : Program} {l : Launch} {e : Env} {s : State} {m : MethodId} {args : Array Value} {below : List Frame} {meth : Method} {c : Code} {A : Nat → Prop} {D : va_G} {cI cF cC cS cO cB cZ : ClassId} {Q : State → Prop} {qs qo : Nat → Nat} {qh : Nat → Nat → Nat} (C : vC (vE ad adK adV tS tF tX sK sV) p l s m args meth c A D (vT7 cI cF cC cS cO cB cZ) cX2_forget 1 RX2) {u0 : vHI} (RET : ∀ (pc : Nat) (lv : List (Nat × Value)), decode cX2_forget pc = .ok (.return_, 1) → vV p l e { frames := 0, cells := 0, slots := 0, locals := 0 } s m args below meth c A D 1 0 0 Q (wHi qs qo qh cI cF cS u0) pc lv []) {u : vHI} (h : fX2_forget u = some u0) : vV p l e { frames := 0, cells := 0, slots := 0, locals := 0 } s m args below meth c A D 1 0 0 Q (wHi qs qo qh cI cF cS u) 0 [(0, .ref (qo 0))] [] := by
  rw [fX2_forget] at h
  refine vi_aload_n C 0 dX2_forget_0 rfl ?_
  refine vi_iconst (v := 0) C dX2_forget_1 (by decide) ?_
  obtain ⟨u1, eu1, h⟩ := ob_nm h
  refine pH_X2_8_2 C dX2_forget_2 eu1.symm ?_
  exact vi_donev (W := wHi qs qo qh cI cF cS) RET h dX2_forget_5
theorem mX2_forget {ad adK adV : Nat → Nat} {tS tF : Nat} {tX sK sV : Nat → Nat} (hE : vEok (vE ad adK adV tS tF tX sK sV)) {l : Launch} {D : va_G} {cI cF cC cS cO cB cZ : ClassId} {qs qo : Nat → Nat} {qh : Nat → Nat → Nat} {u0 : vHI}  {u : vHI} (h : fX2_forget u = some u0) : vM (vE ad adK adV tS tF tX sK sV) l yX2_forget cX2_forget 1 none 0 0 D (vT7 cI cF cC cS cO cB cZ) [.ref (qo 0)] (wHi qs qo qh cI cF cS u) (vQv D (wHi qs qo qh cI cF cS u0)) :=
  vM_of hE (by decide +kernel) (Nat.le_of_ble_eq_true rfl) (fun p e s m args below meth c A C hr => kX2_forget_e C (vi_retv C hr) h)
