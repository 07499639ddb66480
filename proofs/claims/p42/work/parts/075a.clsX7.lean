-- ---- X7_isRefused
def fX7_isRefused (x1 : Nat) (x2 : Int32) (x3 : Int32) (u : vZ) : Option (Int32 × vZ) := obp (fX5_reasonAgainst x1 x2 x3 u.2.1.1) fun y2 u1b => bd ((u.1, ((u1b, u.2.1.2), u.2.2))) fun u1 => (if y2 = 0 then some ((0 : Int32), u1) else obp (fX5_detailOf y2 x2 x3 u1.2.1.1) fun y5 u4b => bd ((u1.1, ((u4b, u1.2.1.2), u1.2.2))) fun u4 => (fX4_keep y2 y5 u4.2.2.2.2.1).bind fun u6b => bd ((u4.1, (u4.2.1, (u4.2.2.1, (u4.2.2.2.1, (u6b, u4.2.2.2.2.2)))))) fun u6 => some ((1 : Int32), u6))
set_option maxRecDepth 100000 in
set_option maxHeartbeats 4000000 in
theorem kX7_isRefused_e {ad adK adV : Nat → Nat} {tS tF : Nat} {tX sK sV : Nat → Nat} {p : Program} {l : Launch} {e : Env} {s : State} {m : MethodId} {args : Array Value} {below : List Frame} {meth : Method} {c : Code} {A : Nat → Prop} {D : va_G} {cI cF cC cS cO cB cZ : ClassId} {Q : State → Prop} {q0 qs qo qt qv qr qx ql : Nat → Nat} {qh : Nat → Nat → Nat} (C : vC (vE ad adK adV tS tF tX sK sV) p l s m args meth c A D (vT7 cI cF cC cS cO cB cZ) cX7_isRefused 5 RX7) {r0 : Int32} {u0 : vZ} (RET : ∀ (pc : Nat) (lv : List (Nat × Value)), decode cX7_isRefused pc = .ok (.ireturn, 1) → (r0 = 0 ∨ r0 = 1) → vV p l e { frames := 3, cells := 0, slots := 0, locals := 68 } s m args below meth c A D 5 0 0 Q (wX q0 qs qo qt qv qr qx ql ad qh cI cF cC cS cO u0) pc lv [.int r0]) {x1 : Nat} {x2 : Int32} {x3 : Int32} {u : vZ} (h : fX7_isRefused x1 x2 x3 u = some (r0, u0)) : vV p l e { frames := 3, cells := 0, slots := 0, locals := 68 } s m args below meth c A D 5 0 0 Q (wX q0 qs qo qt qv qr qx ql ad qh cI cF cC cS cO u) 0 [(0, .ref (q0 0)), (1, .ref (ad x1)), (2, .int x2), (3, .int x3)] [] := by
  rw [fX7_isRefused] at h
  refine vi_aload_n C 0 dX7_isRefused_0 rfl ?_
  refine gM_X7_0_0 C dX7_isRefused_1 ?_
  refine vi_aload_n C 1 dX7_isRefused_4 rfl ?_
  refine vi_iload_n C 2 dX7_isRefused_5 rfl ?_
  refine vi_iload_n C 3 dX7_isRefused_6 rfl ?_
  obtain ⟨y2, u1b, hgu1, h⟩ := ob_p h
  obtain ⟨u1, eu1, h⟩ := ob_nm h
  refine cM_ship_i (As := [.ref (ad x1), .int x2, .int x3]) (rest := []) C (mX5_reasonAgainst C.2.2.2.2.2.2.2.2.1 hgu1) 3 rfl tcX5_reasonAgainst tlX7_324 tiX5_reasonAgainst tsX5_reasonAgainst rfl tnX5 tdX5_reasonAgainst ⟨Nat.le_of_ble_eq_true rfl, Nat.le_of_ble_eq_true rfl⟩ eu1 rfl (Nat.le_of_ble_eq_true rfl) dX7_isRefused_7 ?_
  refine vi_istore (lv' := [(4, .int y2), (0, .ref (q0 0)), (1, .ref (ad x1)), (2, .int x2), (3, .int x3)]) C dX7_isRefused_10 (by decide) rfl ?_
  refine vi_iload C 0 dX7_isRefused_12 rfl ?_
  refine vi_if_ne (tgt := 19) C dX7_isRefused_14 (by decide) (fun hc3 => ?_) (fun hc3 => ?_)
  · have h := ob_f h hc3
    refine vi_aload_n C 1 dX7_isRefused_19 rfl ?_
    refine gM_X7_0_4 C dX7_isRefused_20 ?_
    refine vi_iload C 0 dX7_isRefused_23 rfl ?_
    refine vi_aload_n C 1 dX7_isRefused_25 rfl ?_
    refine gM_X7_0_0 C dX7_isRefused_26 ?_
    refine vi_iload C 0 dX7_isRefused_29 rfl ?_
    refine vi_iload_n C 3 dX7_isRefused_31 rfl ?_
    refine vi_iload_n C 4 dX7_isRefused_32 rfl ?_
    obtain ⟨y5, u4b, hgu4, h⟩ := ob_p h
    obtain ⟨u4, eu4, h⟩ := ob_nm h
    refine cM_ship_i (As := [.int y2, .int x2, .int x3]) (rest := [.int y2, .ref (qr 0)]) C (mX5_detailOf C.2.2.2.2.2.2.2.2.1 hgu4) 3 rfl tcX5_detailOf tlX7_328 tiX5_detailOf tsX5_detailOf rfl tnX5 tdX5_detailOf ⟨Nat.le_of_ble_eq_true rfl, Nat.le_of_ble_eq_true rfl⟩ eu4 rfl (Nat.le_of_ble_eq_true rfl) dX7_isRefused_33 ?_
    obtain ⟨u6b, hgu6, h⟩ := ob_bd h
    obtain ⟨u6, eu6, h⟩ := ob_nm h
    refine cM_reasons_v (As := [.int y2, .int y5]) (rest := []) C (mX4_keep C.2.2.2.2.2.2.2.2.1 hgu6) 2 rfl tcX4_keep tlX7_332 tiX4_keep tsX4_keep rfl tnX4 tdX4_keep ⟨Nat.le_of_ble_eq_true rfl, Nat.le_of_ble_eq_true rfl⟩ eu6 rfl (Nat.le_of_ble_eq_true rfl) dX7_isRefused_36 ?_
    refine vi_iconst (v := 1) C dX7_isRefused_39 (by decide) ?_
    exact vi_donez (W := wX q0 qs qo qt qv qr qx ql ad qh cI cF cC cS cO) RET h (by decide) dX7_isRefused_40
  · have h := ob_t h hc3
    refine vi_iconst (v := 0) C dX7_isRefused_17 (by decide) ?_
    exact vi_donez (W := wX q0 qs qo qt qv qr qx ql ad qh cI cF cC cS cO) RET h (by decide) dX7_isRefused_18
theorem mX7_isRefused {ad adK adV : Nat → Nat} {tS tF : Nat} {tX sK sV : Nat → Nat} (hE : vEok (vE ad adK adV tS tF tX sK sV)) {l : Launch} {D : va_G} {cI cF cC cS cO cB cZ : ClassId} {q0 qs qo qt qv qr qx ql : Nat → Nat} {qh : Nat → Nat → Nat} {r0 : Int32} {u0 : vZ}  {x1 : Nat} {x2 : Int32} {x3 : Int32} {u : vZ} (h : fX7_isRefused x1 x2 x3 u = some (r0, u0)) : vM (vE ad adK adV tS tF tX sK sV) l yX7_isRefused cX7_isRefused 5 (some .boolean) 3 68 D (vT7 cI cF cC cS cO cB cZ) [.ref (q0 0), .ref (ad x1), .int x2, .int x3] (wX q0 qs qo qt qv qr qx ql ad qh cI cF cC cS cO u) (vQi D (wX q0 qs qo qt qv qr qx ql ad qh cI cF cC cS cO u0) r0) :=
  vM_of hE (by decide +kernel) (Nat.le_of_ble_eq_true rfl) (fun p e s m args below meth c A C hr => kX7_isRefused_e C (vi_retzz C hr) h)
-- ---- X7_change
def fX7_change (x1 : Nat) (x2 : Int32) (x3 : Int32) (u : vZ) : Option (vZ) := (fX2_remember u.2.1).bind fun u1b => bd ((u.1, (u1b, u.2.2))) fun u1 => (fX5_carryOut x1 x2 x3 u1.2.1.1).bind fun u2b => bd ((u1.1, ((u2b, u1.2.1.2), u1.2.2))) fun u2 => some u2
set_option maxRecDepth 100000 in
set_option maxHeartbeats 4000000 in
theorem kX7_change_e {ad adK adV : Nat → Nat} {tS tF : Nat} {tX sK sV : Nat → Nat} {p : Program} {l : Launch} {e : Env} {s : State} {m : MethodId} {args : Array Value} {below : List Frame} {meth : Method} {c : Code} {A : Nat → Prop} {D : va_G} {cI cF cC cS cO cB cZ : ClassId} {Q : State → Prop} {q0 qs qo qt qv qr qx ql : Nat → Nat} {qh : Nat → Nat → Nat} (C : vC (vE ad adK adV tS tF tX sK sV) p l s m args meth c A D (vT7 cI cF cC cS cO cB cZ) cX7_change 4 RX7) {u0 : vZ} (RET : ∀ (pc : Nat) (lv : List (Nat × Value)), decode cX7_change pc = .ok (.return_, 1) → vV p l e { frames := 6, cells := 0, slots := 0, locals := 137 } s m args below meth c A D 4 0 0 Q (wX q0 qs qo qt qv qr qx ql ad qh cI cF cC cS cO u0) pc lv []) {x1 : Nat} {x2 : Int32} {x3 : Int32} {u : vZ} (h : fX7_change x1 x2 x3 u = some u0) : vV p l e { frames := 6, cells := 0, slots := 0, locals := 137 } s m args below meth c A D 4 0 0 Q (wX q0 qs qo qt qv qr qx ql ad qh cI cF cC cS cO u) 0 [(0, .ref (q0 0)), (1, .ref (ad x1)), (2, .int x2), (3, .int x3)] [] := by
  rw [fX7_change] at h
  refine vi_aload_n C 0 dX7_change_0 rfl ?_
  refine gM_X7_0_3 C dX7_change_1 ?_
  refine vi_aload_n C 0 dX7_change_4 rfl ?_
  refine gM_X7_0_0 C dX7_change_5 ?_
  obtain ⟨u1b, hgu1, h⟩ := ob_bd h
  obtain ⟨u1, eu1, h⟩ := ob_nm h
  refine cM_hi_v (As := [.ref (qs 0)]) (rest := []) C (mX2_remember C.2.2.2.2.2.2.2.2.1 hgu1) 1 rfl tcX2_remember tlX7_336 tiX2_remember tsX2_remember rfl tnX2 tdX2_remember ⟨Nat.le_of_ble_eq_true rfl, Nat.le_of_ble_eq_true rfl⟩ eu1 rfl (Nat.le_of_ble_eq_true rfl) dX7_change_8 ?_
  refine vi_aload_n C 0 dX7_change_11 rfl ?_
  refine gM_X7_0_0 C dX7_change_12 ?_
  refine vi_aload_n C 1 dX7_change_15 rfl ?_
  refine vi_iload_n C 2 dX7_change_16 rfl ?_
  refine vi_iload_n C 3 dX7_change_17 rfl ?_
  obtain ⟨u2b, hgu2, h⟩ := ob_bd h
  obtain ⟨u2, eu2, h⟩ := ob_nm h
  refine cM_ship_v (As := [.ref (ad x1), .int x2, .int x3]) (rest := []) C (mX5_carryOut C.2.2.2.2.2.2.2.2.1 hgu2) 3 rfl tcX5_carryOut tlX7_339 tiX5_carryOut tsX5_carryOut rfl tnX5 tdX5_carryOut ⟨Nat.le_of_ble_eq_true rfl, Nat.le_of_ble_eq_true rfl⟩ eu2 rfl (Nat.le_of_ble_eq_true rfl) dX7_change_18 ?_
  exact vi_donev (W := wX q0 qs qo qt qv qr qx ql ad qh cI cF cC cS cO) RET h dX7_change_21
theorem mX7_change {ad adK adV : Nat → Nat} {tS tF : Nat} {tX sK sV : Nat → Nat} (hE : vEok (vE ad adK adV tS tF tX sK sV)) {l : Launch} {D : va_G} {cI cF cC cS cO cB cZ : ClassId} {q0 qs qo qt qv qr qx ql : Nat → Nat} {qh : Nat → Nat → Nat} {u0 : vZ}  {x1 : Nat} {x2 : Int32} {x3 : Int32} {u : vZ} (h : fX7_change x1 x2 x3 u = some u0) : vM (vE ad adK adV tS tF tX sK sV) l yX7_change cX7_change 4 none 6 137 D (vT7 cI cF cC cS cO cB cZ) [.ref (q0 0), .ref (ad x1), .int x2, .int x3] (wX q0 qs qo qt qv qr qx ql ad qh cI cF cC cS cO u) (vQv D (wX q0 qs qo qt qv qr qx ql ad qh cI cF cC cS cO u0)) :=
  vM_of hE (by decide +kernel) (Nat.le_of_ble_eq_true rfl) (fun p e s m args below meth c A C hr => kX7_change_e C (vi_retv C hr) h)
-- ---- X7_sail
def fX7_sail (x1 : Int32) (u : vZ) : Option (Int32 × vZ) := (fX5_isMood x1).bind fun y1 => (if y1 = 0 then some ((-100002 : Int32), u) else obp (fX7_isRefused (0) (0 : Int32) x1 u) fun y4 u3 => (if y4 = 0 then (fX7_change (0) (0 : Int32) x1 u3).bind fun u6 => some ((u6.2.1.1.1 0 0) - (1 : Int32), u6) else some ((-100005 : Int32), u3)))
set_option maxRecDepth 100000 in
set_option maxHeartbeats 4000000 in
theorem kX7_sail_e {ad adK adV : Nat → Nat} {tS tF : Nat} {tX sK sV : Nat → Nat} {p : Program} {l : Launch} {e : Env} {s : State} {m : MethodId} {args : Array Value} {below : List Frame} {meth : Method} {c : Code} {A : Nat → Prop} {D : va_G} {cI cF cC cS cO cB cZ : ClassId} {Q : State → Prop} {q0 qs qo qt qv qr qx ql : Nat → Nat} {qh : Nat → Nat → Nat} (C : vC (vE ad adK adV tS tF tX sK sV) p l s m args meth c A D (vT7 cI cF cC cS cO cB cZ) cX7_sail 2 RX7) {r0 : Int32} {u0 : vZ} (RET : ∀ (pc : Nat) (lv : List (Nat × Value)), decode cX7_sail pc = .ok (.ireturn, 1) → vV p l e { frames := 7, cells := 0, slots := 0, locals := 160 } s m args below meth c A D 2 0 0 Q (wX q0 qs qo qt qv qr qx ql ad qh cI cF cC cS cO u0) pc lv [.int r0]) {x1 : Int32} {u : vZ} (h : fX7_sail x1 u = some (r0, u0)) : vV p l e { frames := 7, cells := 0, slots := 0, locals := 160 } s m args below meth c A D 2 0 0 Q (wX q0 qs qo qt qv qr qx ql ad qh cI cF cC cS cO u) 0 [(0, .ref (q0 0)), (1, .int x1)] [] := by
  rw [fX7_sail] at h
  refine vi_iload_n C 1 dX7_sail_0 rfl ?_
  obtain ⟨y1, hgy1, h⟩ := ob_bd h
  refine vi_callS0i (As := [.int x1]) (rest := []) C (mX5_isMood C.2.2.2.2.2.2.2.2.1 hgy1) 1 rfl tcX5_isMood tlX7_50 ttX5_isMood tnX5 tdX5_isMood ⟨Nat.le_of_ble_eq_true rfl, Nat.le_of_ble_eq_true rfl⟩ rfl (Nat.le_of_ble_eq_true rfl) dX7_sail_1 ?_
  refine vi_if_ne (tgt := 10) C dX7_sail_4 (by decide) (fun hc2 => ?_) (fun hc2 => ?_)
  · have h := ob_f h hc2
    refine vi_aload_n C 0 dX7_sail_10 rfl ?_
    refine vi_getF C 0 (by decide) tfX7_55 dX7_sail_11 ?_
    refine vi_iconst (v := 0) C dX7_sail_14 (by decide) ?_
    refine vi_iload_n C 1 dX7_sail_15 rfl ?_
    obtain ⟨y4, u3, hgu3, h⟩ := ob_p h
    refine cM_X7_i (As := [.ref (ad 0), .int (0 : Int32), .int x1]) (rest := []) C (mX7_isRefused C.2.2.2.2.2.2.2.2.1 hgu3) 3 rfl tcX7_isRefused tlX7_61 tiX7_isRefused tsX7_isRefused rfl tnX7 tdX7_isRefused ⟨Nat.le_of_ble_eq_true rfl, Nat.le_of_ble_eq_true rfl⟩ rfl (Nat.le_of_ble_eq_true rfl) dX7_sail_16 ?_
    refine vi_if_eq (tgt := 25) C dX7_sail_19 (by decide) (fun hc5 => ?_) (fun hc5 => ?_)
    · have h := ob_t h hc5
      refine vi_aload_n C 0 dX7_sail_25 rfl ?_
      refine vi_getF C 0 (by decide) tfX7_55 dX7_sail_26 ?_
      refine vi_iconst (v := 0) C dX7_sail_29 (by decide) ?_
      refine vi_iload_n C 1 dX7_sail_30 rfl ?_
      obtain ⟨u6, hgu6, h⟩ := ob_bd h
      refine cM_X7_v (As := [.ref (ad 0), .int (0 : Int32), .int x1]) (rest := []) C (mX7_change C.2.2.2.2.2.2.2.2.1 hgu6) 3 rfl tcX7_change tlX7_66 tiX7_change tsX7_change rfl tnX7 tdX7_change ⟨Nat.le_of_ble_eq_true rfl, Nat.le_of_ble_eq_true rfl⟩ rfl (Nat.le_of_ble_eq_true rfl) dX7_sail_31 ?_
      refine vi_aload_n C 0 dX7_sail_34 rfl ?_
      refine gM_X7_0_0 C dX7_sail_35 ?_
      refine gM_X7_1_0 C dX7_sail_38 ?_
      refine vi_iconst (v := 1) C dX7_sail_41 (by decide) ?_
      refine vi_isub C dX7_sail_42 ?_
      exact vi_donei (W := wX q0 qs qo qt qv qr qx ql ad qh cI cF cC cS cO) RET h dX7_sail_43
    · have h := ob_f h hc5
      refine vi_ldc (v := (-100005)) C dX7_sail_22 tkX7_65 ?_
      exact vi_donei (W := wX q0 qs qo qt qv qr qx ql ad qh cI cF cC cS cO) RET h dX7_sail_24
  · have h := ob_t h hc2
    refine vi_ldc (v := (-100002)) C dX7_sail_7 tkX7_54 ?_
    exact vi_donei (W := wX q0 qs qo qt qv qr qx ql ad qh cI cF cC cS cO) RET h dX7_sail_9
theorem mX7_sail {ad adK adV : Nat → Nat} {tS tF : Nat} {tX sK sV : Nat → Nat} (hE : vEok (vE ad adK adV tS tF tX sK sV)) {l : Launch} {D : va_G} {cI cF cC cS cO cB cZ : ClassId} {q0 qs qo qt qv qr qx ql : Nat → Nat} {qh : Nat → Nat → Nat} {r0 : Int32} {u0 : vZ}  {x1 : Int32} {u : vZ} (h : fX7_sail x1 u = some (r0, u0)) : vM (vE ad adK adV tS tF tX sK sV) l yX7_sail cX7_sail 2 (some .int) 7 160 D (vT7 cI cF cC cS cO cB cZ) [.ref (q0 0), .int x1] (wX q0 qs qo qt qv qr qx ql ad qh cI cF cC cS cO u) (vQi D (wX q0 qs qo qt qv qr qx ql ad qh cI cF cC cS cO u0) r0) :=
  vM_of hE (by decide +kernel) (Nat.le_of_ble_eq_true rfl) (fun p e s m args below meth c A C hr => kX7_sail_e C (vi_reti C hr) h)
-- ---- X7_shore
def fX7_shore (x1 : Int32) (u : vZ) : Option (Int32 × vZ) := obp (fX5_hasSailor x1 u.2.1.1) fun y2 u1b => bd ((u.1, ((u1b, u.2.1.2), u.2.2))) fun u1 => (if y2 = 0 then some ((-100001 : Int32), u1) else (fX7_change (1) x1 (0 : Int32) u1).bind fun u4 => some (u4.2.1.1.1 0 0, u4))
set_option maxRecDepth 100000 in
set_option maxHeartbeats 4000000 in
theorem kX7_shore_e {ad adK adV : Nat → Nat} {tS tF : Nat} {tX sK sV : Nat → Nat} {p : Program} {l : Launch} {e : Env} {s : State} {m : MethodId} {args : Array Value} {below : List Frame} {meth : Method} {c : Code} {A : Nat → Prop} {D : va_G} {cI cF cC cS cO cB cZ : ClassId} {Q : State → Prop} {q0 qs qo qt qv qr qx ql : Nat → Nat} {qh : Nat → Nat → Nat} (C : vC (vE ad adK adV tS tF tX sK sV) p l s m args meth c A D (vT7 cI cF cC cS cO cB cZ) cX7_shore 2 RX7) {r0 : Int32} {u0 : vZ} (RET : ∀ (pc : Nat) (lv : List (Nat × Value)), decode cX7_shore pc = .ok (.ireturn, 1) → vV p l e { frames := 7, cells := 0, slots := 0, locals := 160 } s m args below meth c A D 2 0 0 Q (wX q0 qs qo qt qv qr qx ql ad qh cI cF cC cS cO u0) pc lv [.int r0]) {x1 : Int32} {u : vZ} (h : fX7_shore x1 u = some (r0, u0)) : vV p l e { frames := 7, cells := 0, slots := 0, locals := 160 } s m args below meth c A D 2 0 0 Q (wX q0 qs qo qt qv qr qx ql ad qh cI cF cC cS cO u) 0 [(0, .ref (q0 0)), (1, .int x1)] [] := by
  rw [fX7_shore] at h
  refine vi_aload_n C 0 dX7_shore_0 rfl ?_
  refine gM_X7_0_0 C dX7_shore_1 ?_
  refine vi_iload_n C 1 dX7_shore_4 rfl ?_
  obtain ⟨y2, u1b, hgu1, h⟩ := ob_p h
  obtain ⟨u1, eu1, h⟩ := ob_nm h
  refine cM_ship_i (As := [.int x1]) (rest := []) C (mX5_hasSailor C.2.2.2.2.2.2.2.2.1 hgu1) 1 rfl tcX5_hasSailor tlX7_74 tiX5_hasSailor tsX5_hasSailor rfl tnX5 tdX5_hasSailor ⟨Nat.le_of_ble_eq_true rfl, Nat.le_of_ble_eq_true rfl⟩ eu1 rfl (Nat.le_of_ble_eq_true rfl) dX7_shore_5 ?_
  refine vi_if_ne (tgt := 14) C dX7_shore_8 (by decide) (fun hc3 => ?_) (fun hc3 => ?_)
  · have h := ob_f h hc3
    refine vi_aload_n C 0 dX7_shore_14 rfl ?_
    refine vi_getF C 1 (by decide) tfX7_78 dX7_shore_15 ?_
    refine vi_iload_n C 1 dX7_shore_18 rfl ?_
    refine vi_iconst (v := 0) C dX7_shore_19 (by decide) ?_
    obtain ⟨u4, hgu4, h⟩ := ob_bd h
    refine cM_X7_v (As := [.ref (ad 1), .int x1, .int (0 : Int32)]) (rest := []) C (mX7_change C.2.2.2.2.2.2.2.2.1 hgu4) 3 rfl tcX7_change tlX7_66 tiX7_change tsX7_change rfl tnX7 tdX7_change ⟨Nat.le_of_ble_eq_true rfl, Nat.le_of_ble_eq_true rfl⟩ rfl (Nat.le_of_ble_eq_true rfl) dX7_shore_20 ?_
    refine vi_aload_n C 0 dX7_shore_23 rfl ?_
    refine gM_X7_0_0 C dX7_shore_24 ?_
    refine gM_X7_1_0 C dX7_shore_27 ?_
    exact vi_donei (W := wX q0 qs qo qt qv qr qx ql ad qh cI cF cC cS cO) RET h dX7_shore_30
  · have h := ob_t h hc3
    refine vi_ldc (v := (-100001)) C dX7_shore_11 tkX7_77 ?_
    exact vi_donei (W := wX q0 qs qo qt qv qr qx ql ad qh cI cF cC cS cO) RET h dX7_shore_13
theorem mX7_shore {ad adK adV : Nat → Nat} {tS tF : Nat} {tX sK sV : Nat → Nat} (hE : vEok (vE ad adK adV tS tF tX sK sV)) {l : Launch} {D : va_G} {cI cF cC cS cO cB cZ : ClassId} {q0 qs qo qt qv qr qx ql : Nat → Nat} {qh : Nat → Nat → Nat} {r0 : Int32} {u0 : vZ}  {x1 : Int32} {u : vZ} (h : fX7_shore x1 u = some (r0, u0)) : vM (vE ad adK adV tS tF tX sK sV) l yX7_shore cX7_shore 2 (some .int) 7 160 D (vT7 cI cF cC cS cO cB cZ) [.ref (q0 0), .int x1] (wX q0 qs qo qt qv qr qx ql ad qh cI cF cC cS cO u) (vQi D (wX q0 qs qo qt qv qr qx ql ad qh cI cF cC cS cO u0) r0) :=
  vM_of hE (by decide +kernel) (Nat.le_of_ble_eq_true rfl) (fun p e s m args below meth c A C hr => kX7_shore_e C (vi_reti C hr) h)
-- ---- X7_mood
def fX7_mood (x1 : Int32) (x2 : Int32) (u : vZ) : Option (Int32 × vZ) := obp (fX5_hasSailor x1 u.2.1.1) fun y2 u1b => bd ((u.1, ((u1b, u.2.1.2), u.2.2))) fun u1 => (if y2 = 0 then some ((-100001 : Int32), u1) else (fX5_isMood x2).bind fun y4 => (if y4 = 0 then some ((-100002 : Int32), u1) else obp (fX7_isRefused (3) x1 x2 u1) fun y7 u6 => (if y7 = 0 then if x1 < 0 ∨ 8 ≤ Int32.toNatClampNeg x1 then none else bd ((u6.2.1.1.1 1 (Int32.toNatClampNeg x1) : Int32)) fun y10 => (fX7_change (3) x1 x2 u6).bind fun u11 => some (y10, u11) else some ((-100005 : Int32), u6))))
set_option maxRecDepth 100000 in
set_option maxHeartbeats 4000000 in
theorem kX7_mood_e {ad adK adV : Nat → Nat} {tS tF : Nat} {tX sK sV : Nat → Nat} {p : Program} {l : Launch} {e : Env} {s : State} {m : MethodId} {args : Array Value} {below : List Frame} {meth : Method} {c : Code} {A : Nat → Prop} {D : va_G} {cI cF cC cS cO cB cZ : ClassId} {Q : State → Prop} {q0 qs qo qt qv qr qx ql : Nat → Nat} {qh : Nat → Nat → Nat} (C : vC (vE ad adK adV tS tF tX sK sV) p l s m args meth c A D (vT7 cI cF cC cS cO cB cZ) cX7_mood 4 RX7) {r0 : Int32} {u0 : vZ} (RET : ∀ (pc : Nat) (lv : List (Nat × Value)), decode cX7_mood pc = .ok (.ireturn, 1) → vV p l e { frames := 7, cells := 0, slots := 0, locals := 160 } s m args below meth c A D 4 0 0 Q (wX q0 qs qo qt qv qr qx ql ad qh cI cF cC cS cO u0) pc lv [.int r0]) {x1 : Int32} {x2 : Int32} {u : vZ} (h : fX7_mood x1 x2 u = some (r0, u0)) : vV p l e { frames := 7, cells := 0, slots := 0, locals := 160 } s m args below meth c A D 4 0 0 Q (wX q0 qs qo qt qv qr qx ql ad qh cI cF cC cS cO u) 0 [(0, .ref (q0 0)), (1, .int x1), (2, .int x2)] [] := by
  rw [fX7_mood] at h
  refine vi_aload_n C 0 dX7_mood_0 rfl ?_
  refine gM_X7_0_0 C dX7_mood_1 ?_
  refine vi_iload_n C 1 dX7_mood_4 rfl ?_
  obtain ⟨y2, u1b, hgu1, h⟩ := ob_p h
  obtain ⟨u1, eu1, h⟩ := ob_nm h
  refine cM_ship_i (As := [.int x1]) (rest := []) C (mX5_hasSailor C.2.2.2.2.2.2.2.2.1 hgu1) 1 rfl tcX5_hasSailor tlX7_74 tiX5_hasSailor tsX5_hasSailor rfl tnX5 tdX5_hasSailor ⟨Nat.le_of_ble_eq_true rfl, Nat.le_of_ble_eq_true rfl⟩ eu1 rfl (Nat.le_of_ble_eq_true rfl) dX7_mood_5 ?_
  refine vi_if_ne (tgt := 14) C dX7_mood_8 (by decide) (fun hc3 => ?_) (fun hc3 => ?_)
  · have h := ob_f h hc3
    refine vi_iload_n C 2 dX7_mood_14 rfl ?_
    obtain ⟨y4, hgy4, h⟩ := ob_bd h
    refine vi_callS0i (As := [.int x2]) (rest := []) C (mX5_isMood C.2.2.2.2.2.2.2.2.1 hgy4) 1 rfl tcX5_isMood tlX7_50 ttX5_isMood tnX5 tdX5_isMood ⟨Nat.le_of_ble_eq_true rfl, Nat.le_of_ble_eq_true rfl⟩ rfl (Nat.le_of_ble_eq_true rfl) dX7_mood_15 ?_
    refine vi_if_ne (tgt := 24) C dX7_mood_18 (by decide) (fun hc5 => ?_) (fun hc5 => ?_)
    · have h := ob_f h hc5
      refine vi_aload_n C 0 dX7_mood_24 rfl ?_
      refine vi_getF C 3 (by decide) tfX7_81 dX7_mood_25 ?_
      refine vi_iload_n C 1 dX7_mood_28 rfl ?_
      refine vi_iload_n C 2 dX7_mood_29 rfl ?_
      obtain ⟨y7, u6, hgu6, h⟩ := ob_p h
      refine cM_X7_i (As := [.ref (ad 3), .int x1, .int x2]) (rest := []) C (mX7_isRefused C.2.2.2.2.2.2.2.2.1 hgu6) 3 rfl tcX7_isRefused tlX7_61 tiX7_isRefused tsX7_isRefused rfl tnX7 tdX7_isRefused ⟨Nat.le_of_ble_eq_true rfl, Nat.le_of_ble_eq_true rfl⟩ rfl (Nat.le_of_ble_eq_true rfl) dX7_mood_30 ?_
      refine vi_if_eq (tgt := 39) C dX7_mood_33 (by decide) (fun hc8 => ?_) (fun hc8 => ?_)
      · have h := ob_t h hc8
        refine vi_aload_n C 0 dX7_mood_39 rfl ?_
        refine gM_X7_0_0 C dX7_mood_40 ?_
        refine gM_X7_1_1 C dX7_mood_43 ?_
        refine vi_iload_n C 1 dX7_mood_46 rfl ?_
        obtain ⟨hz9, h⟩ := ob_if h
        refine lM_X7_2 (n := (Int32.toNatClampNeg x1)) C hz9 rfl dX7_mood_47 ?_
        obtain ⟨y10, ey10, h⟩ := ob_nm h
        refine vi_nmi ey10 ?_
        refine vi_istore_n (lv' := [(3, .int y10), (0, .ref (q0 0)), (1, .int x1), (2, .int x2)]) C dX7_mood_48 rfl (by decide) rfl ?_
        refine vi_aload_n C 1 dX7_mood_49 rfl ?_
        refine vi_getF C 3 (by decide) tfX7_81 dX7_mood_50 ?_
        refine vi_iload_n C 2 dX7_mood_53 rfl ?_
        refine vi_iload_n C 3 dX7_mood_54 rfl ?_
        obtain ⟨u11, hgu11, h⟩ := ob_bd h
        refine cM_X7_v (As := [.ref (ad 3), .int x1, .int x2]) (rest := []) C (mX7_change C.2.2.2.2.2.2.2.2.1 hgu11) 3 rfl tcX7_change tlX7_66 tiX7_change tsX7_change rfl tnX7 tdX7_change ⟨Nat.le_of_ble_eq_true rfl, Nat.le_of_ble_eq_true rfl⟩ rfl (Nat.le_of_ble_eq_true rfl) dX7_mood_55 ?_
        refine vi_iload_n C 0 dX7_mood_58 rfl ?_
        exact vi_donei (W := wX q0 qs qo qt qv qr qx ql ad qh cI cF cC cS cO) RET h dX7_mood_59
      · have h := ob_f h hc8
        refine vi_ldc (v := (-100005)) C dX7_mood_36 tkX7_65 ?_
        exact vi_donei (W := wX q0 qs qo qt qv qr qx ql ad qh cI cF cC cS cO) RET h dX7_mood_38
    · have h := ob_t h hc5
      refine vi_ldc (v := (-100002)) C dX7_mood_21 tkX7_54 ?_
      exact vi_donei (W := wX q0 qs qo qt qv qr qx ql ad qh cI cF cC cS cO) RET h dX7_mood_23
  · have h := ob_t h hc3
    refine vi_ldc (v := (-100001)) C dX7_mood_11 tkX7_77 ?_
    exact vi_donei (W := wX q0 qs qo qt qv qr qx ql ad qh cI cF cC cS cO) RET h dX7_mood_13
theorem mX7_mood {ad adK adV : Nat → Nat} {tS tF : Nat} {tX sK sV : Nat → Nat} (hE : vEok (vE ad adK adV tS tF tX sK sV)) {l : Launch} {D : va_G} {cI cF cC cS cO cB cZ : ClassId} {q0 qs qo qt qv qr qx ql : Nat → Nat} {qh : Nat → Nat → Nat} {r0 : Int32} {u0 : vZ}  {x1 : Int32} {x2 : Int32} {u : vZ} (h : fX7_mood x1 x2 u = some (r0, u0)) : vM (vE ad adK adV tS tF tX sK sV) l yX7_mood cX7_mood 4 (some .int) 7 160 D (vT7 cI cF cC cS cO cB cZ) [.ref (q0 0), .int x1, .int x2] (wX q0 qs qo qt qv qr qx ql ad qh cI cF cC cS cO u) (vQi D (wX q0 qs qo qt qv qr qx ql ad qh cI cF cC cS cO u0) r0) :=
  vM_of hE (by decide +kernel) (Nat.le_of_ble_eq_true rfl) (fun p e s m args below meth c A C hr => kX7_mood_e C (vi_reti C hr) h)
-- ---- X7_rum
def fX7_rum (x1 : Int32) (x2 : Int32) (u : vZ) : Option (Int32 × vZ) := obp (fX5_hasSailor x1 u.2.1.1) fun y2 u1b => bd ((u.1, ((u1b, u.2.1.2), u.2.2))) fun u1 => (if y2 = 0 then some ((-100001 : Int32), u1) else (fX5_isGift x2).bind fun y4 => (if y4 = 0 then some ((-100002 : Int32), u1) else obp (fX7_isRefused (4) x1 x2 u1) fun y7 u6 => (if y7 = 0 then (fX7_change (4) x1 x2 u6).bind fun u9 => if x1 < 0 ∨ 8 ≤ Int32.toNatClampNeg x1 then none else some (u9.2.1.1.1 2 (Int32.toNatClampNeg x1), u9) else some ((-100005 : Int32), u6))))
set_option maxRecDepth 100000 in
set_option maxHeartbeats 4000000 in
theorem kX7_rum_e {ad adK adV : Nat → Nat} {tS tF : Nat} {tX sK sV : Nat → Nat} {p : Program} {l : Launch} {e : Env} {s : State} {m : MethodId} {args : Array Value} {below : List Frame} {meth : Method} {c : Code} {A : Nat → Prop} {D : va_G} {cI cF cC cS cO cB cZ : ClassId} {Q : State → Prop} {q0 qs qo qt qv qr qx ql : Nat → Nat} {qh : Nat → Nat → Nat} (C : vC (vE ad adK adV tS tF tX sK sV) p l s m args meth c A D (vT7 cI cF cC cS cO cB cZ) cX7_rum 3 RX7) {r0 : Int32} {u0 : vZ} (RET : ∀ (pc : Nat) (lv : List (Nat × Value)), decode cX7_rum pc = .ok (.ireturn, 1) → vV p l e { frames := 7, cells := 0, slots := 0, locals := 160 } s m args below meth c A D 3 0 0 Q (wX q0 qs qo qt qv qr qx ql ad qh cI cF cC cS cO u0) pc lv [.int r0]) {x1 : Int32} {x2 : Int32} {u : vZ} (h : fX7_rum x1 x2 u = some (r0, u0)) : vV p l e { frames := 7, cells := 0, slots := 0, locals := 160 } s m args below meth c A D 3 0 0 Q (wX q0 qs qo qt qv qr qx ql ad qh cI cF cC cS cO u) 0 [(0, .ref (q0 0)), (1, .int x1), (2, .int x2)] [] := by
  rw [fX7_rum] at h
  refine vi_aload_n C 0 dX7_rum_0 rfl ?_
  refine gM_X7_0_0 C dX7_rum_1 ?_
  refine vi_iload_n C 1 dX7_rum_4 rfl ?_
  obtain ⟨y2, u1b, hgu1, h⟩ := ob_p h
  obtain ⟨u1, eu1, h⟩ := ob_nm h
  refine cM_ship_i (As := [.int x1]) (rest := []) C (mX5_hasSailor C.2.2.2.2.2.2.2.2.1 hgu1) 1 rfl tcX5_hasSailor tlX7_74 tiX5_hasSailor tsX5_hasSailor rfl tnX5 tdX5_hasSailor ⟨Nat.le_of_ble_eq_true rfl, Nat.le_of_ble_eq_true rfl⟩ eu1 rfl (Nat.le_of_ble_eq_true rfl) dX7_rum_5 ?_
  refine vi_if_ne (tgt := 14) C dX7_rum_8 (by decide) (fun hc3 => ?_) (fun hc3 => ?_)
  · have h := ob_f h hc3
    refine vi_iload_n C 2 dX7_rum_14 rfl ?_
    obtain ⟨y4, hgy4, h⟩ := ob_bd h
    refine vi_callS0i (As := [.int x2]) (rest := []) C (mX5_isGift C.2.2.2.2.2.2.2.2.1 hgy4) 1 rfl tcX5_isGift tlX7_88 ttX5_isGift tnX5 tdX5_isGift ⟨Nat.le_of_ble_eq_true rfl, Nat.le_of_ble_eq_true rfl⟩ rfl (Nat.le_of_ble_eq_true rfl) dX7_rum_15 ?_
    refine vi_if_ne (tgt := 24) C dX7_rum_18 (by decide) (fun hc5 => ?_) (fun hc5 => ?_)
    · have h := ob_f h hc5
      refine vi_aload_n C 0 dX7_rum_24 rfl ?_
      refine vi_getF C 4 (by decide) tfX7_91 dX7_rum_25 ?_
      refine vi_iload_n C 1 dX7_rum_28 rfl ?_
      refine vi_iload_n C 2 dX7_rum_29 rfl ?_
      obtain ⟨y7, u6, hgu6, h⟩ := ob_p h
      refine cM_X7_i (As := [.ref (ad 4), .int x1, .int x2]) (rest := []) C (mX7_isRefused C.2.2.2.2.2.2.2.2.1 hgu6) 3 rfl tcX7_isRefused tlX7_61 tiX7_isRefused tsX7_isRefused rfl tnX7 tdX7_isRefused ⟨Nat.le_of_ble_eq_true rfl, Nat.le_of_ble_eq_true rfl⟩ rfl (Nat.le_of_ble_eq_true rfl) dX7_rum_30 ?_
      refine vi_if_eq (tgt := 39) C dX7_rum_33 (by decide) (fun hc8 => ?_) (fun hc8 => ?_)
      · have h := ob_t h hc8
        refine vi_aload_n C 0 dX7_rum_39 rfl ?_
        refine vi_getF C 4 (by decide) tfX7_91 dX7_rum_40 ?_
        refine vi_iload_n C 1 dX7_rum_43 rfl ?_
        refine vi_iload_n C 2 dX7_rum_44 rfl ?_
        obtain ⟨u9, hgu9, h⟩ := ob_bd h
        refine cM_X7_v (As := [.ref (ad 4), .int x1, .int x2]) (rest := []) C (mX7_change C.2.2.2.2.2.2.2.2.1 hgu9) 3 rfl tcX7_change tlX7_66 tiX7_change tsX7_change rfl tnX7 tdX7_change ⟨Nat.le_of_ble_eq_true rfl, Nat.le_of_ble_eq_true rfl⟩ rfl (Nat.le_of_ble_eq_true rfl) dX7_rum_45 ?_
        refine vi_aload_n C 0 dX7_rum_48 rfl ?_
        refine gM_X7_0_0 C dX7_rum_49 ?_
        refine gM_X7_1_2 C dX7_rum_52 ?_
        refine vi_iload_n C 1 dX7_rum_55 rfl ?_
        obtain ⟨hz10, h⟩ := ob_if h
        refine lM_X7_3 (n := (Int32.toNatClampNeg x1)) C hz10 rfl dX7_rum_56 ?_
        exact vi_donei (W := wX q0 qs qo qt qv qr qx ql ad qh cI cF cC cS cO) RET h dX7_rum_57
      · have h := ob_f h hc8
        refine vi_ldc (v := (-100005)) C dX7_rum_36 tkX7_65 ?_
        exact vi_donei (W := wX q0 qs qo qt qv qr qx ql ad qh cI cF cC cS cO) RET h dX7_rum_38
    · have h := ob_t h hc5
      refine vi_ldc (v := (-100002)) C dX7_rum_21 tkX7_54 ?_
      exact vi_donei (W := wX q0 qs qo qt qv qr qx ql ad qh cI cF cC cS cO) RET h dX7_rum_23
  · have h := ob_t h hc3
    refine vi_ldc (v := (-100001)) C dX7_rum_11 tkX7_77 ?_
    exact vi_donei (W := wX q0 qs qo qt qv qr qx ql ad qh cI cF cC cS cO) RET h dX7_rum_13
theorem mX7_rum {ad adK adV : Nat → Nat} {tS tF : Nat} {tX sK sV : Nat → Nat} (hE : vEok (vE ad adK adV tS tF tX sK sV)) {l : Launch} {D : va_G} {cI cF cC cS cO cB cZ : ClassId} {q0 qs qo qt qv qr qx ql : Nat → Nat} {qh : Nat → Nat → Nat} {r0 : Int32} {u0 : vZ}  {x1 : Int32} {x2 : Int32} {u : vZ} (h : fX7_rum x1 x2 u = some (r0, u0)) : vM (vE ad adK adV tS tF tX sK sV) l yX7_rum cX7_rum 3 (some .int) 7 160 D (vT7 cI cF cC cS cO cB cZ) [.ref (q0 0), .int x1, .int x2] (wX q0 qs qo qt qv qr qx ql ad qh cI cF cC cS cO u) (vQi D (wX q0 qs qo qt qv qr qx ql ad qh cI cF cC cS cO u0) r0) :=
  vM_of hE (by decide +kernel) (Nat.le_of_ble_eq_true rfl) (fun p e s m args below meth c A C hr => kX7_rum_e C (vi_reti C hr) h)
-- ---- X7_watch
def fX7_watch (x1 : Int32) (x2 : Int32) (u : vZ) : Option (Int32 × vZ) := obp (fX5_hasSailor x1 u.2.1.1) fun y2 u1b => bd ((u.1, ((u1b, u.2.1.2), u.2.2))) fun u1 => (if y2 = 0 then some ((-100001 : Int32), u1) else (fX5_isWatch x2).bind fun y4 => (if y4 = 0 then some ((-100001 : Int32), u1) else obp (fX7_isRefused (5) x1 x2 u1) fun y7 u6 => (if y7 = 0 then if x1 < 0 ∨ 8 ≤ Int32.toNatClampNeg x1 then none else bd ((u6.2.1.1.1 3 (Int32.toNatClampNeg x1) : Int32)) fun y10 => (fX7_change (5) x1 x2 u6).bind fun u11 => some (y10, u11) else some ((-100005 : Int32), u6))))
set_option maxRecDepth 100000 in
set_option maxHeartbeats 4000000 in
theorem kX7_watch_e {ad adK adV : Nat → Nat} {tS tF : Nat} {tX sK sV : Nat → Nat} {p : Program} {l : Launch} {e : Env} {s : State} {m : MethodId} {args : Array Value} {below : List Frame} {meth : Method} {c : Code} {A : Nat → Prop} {D : va_G} {cI cF cC cS cO cB cZ : ClassId} {Q : State → Prop} {q0 qs qo qt qv qr qx ql : Nat → Nat} {qh : Nat → Nat → Nat} (C : vC (vE ad adK adV tS tF tX sK sV) p l s m args meth c A D (vT7 cI cF cC cS cO cB cZ) cX7_watch 4 RX7) {r0 : Int32} {u0 : vZ} (RET : ∀ (pc : Nat) (lv : List (Nat × Value)), decode cX7_watch pc = .ok (.ireturn, 1) → vV p l e { frames := 7, cells := 0, slots := 0, locals := 160 } s m args below meth c A D 4 0 0 Q (wX q0 qs qo qt qv qr qx ql ad qh cI cF cC cS cO u0) pc lv [.int r0]) {x1 : Int32} {x2 : Int32} {u : vZ} (h : fX7_watch x1 x2 u = some (r0, u0)) : vV p l e { frames := 7, cells := 0, slots := 0, locals := 160 } s m args below meth c A D 4 0 0 Q (wX q0 qs qo qt qv qr qx ql ad qh cI cF cC cS cO u) 0 [(0, .ref (q0 0)), (1, .int x1), (2, .int x2)] [] := by
  rw [fX7_watch] at h
  refine vi_aload_n C 0 dX7_watch_0 rfl ?_
  refine gM_X7_0_0 C dX7_watch_1 ?_
  refine vi_iload_n C 1 dX7_watch_4 rfl ?_
  obtain ⟨y2, u1b, hgu1, h⟩ := ob_p h
  obtain ⟨u1, eu1, h⟩ := ob_nm h
  refine cM_ship_i (As := [.int x1]) (rest := []) C (mX5_hasSailor C.2.2.2.2.2.2.2.2.1 hgu1) 1 rfl tcX5_hasSailor tlX7_74 tiX5_hasSailor tsX5_hasSailor rfl tnX5 tdX5_hasSailor ⟨Nat.le_of_ble_eq_true rfl, Nat.le_of_ble_eq_true rfl⟩ eu1 rfl (Nat.le_of_ble_eq_true rfl) dX7_watch_5 ?_
  refine vi_if_eq (tgt := 18) C dX7_watch_8 (by decide) (fun hc3 => ?_) (fun hc3 => ?_)
  · have h := ob_t h hc3
    refine vi_ldc (v := (-100001)) C dX7_watch_18 tkX7_77 ?_
    exact vi_donei (W := wX q0 qs qo qt qv qr qx ql ad qh cI cF cC cS cO) RET h dX7_watch_20
  · have h := ob_f h hc3
    refine vi_iload_n C 2 dX7_watch_11 rfl ?_
    obtain ⟨y4, hgy4, h⟩ := ob_bd h
    refine vi_callS0i (As := [.int x2]) (rest := []) C (mX5_isWatch C.2.2.2.2.2.2.2.2.1 hgy4) 1 rfl tcX5_isWatch tlX7_97 ttX5_isWatch tnX5 tdX5_isWatch ⟨Nat.le_of_ble_eq_true rfl, Nat.le_of_ble_eq_true rfl⟩ rfl (Nat.le_of_ble_eq_true rfl) dX7_watch_12 ?_
    refine vi_if_ne (tgt := 21) C dX7_watch_15 (by decide) (fun hc5 => ?_) (fun hc5 => ?_)
    · have h := ob_f h hc5
      refine vi_aload_n C 0 dX7_watch_21 rfl ?_
      refine vi_getF C 5 (by decide) tfX7_100 dX7_watch_22 ?_
      refine vi_iload_n C 1 dX7_watch_25 rfl ?_
      refine vi_iload_n C 2 dX7_watch_26 rfl ?_
      obtain ⟨y7, u6, hgu6, h⟩ := ob_p h
      refine cM_X7_i (As := [.ref (ad 5), .int x1, .int x2]) (rest := []) C (mX7_isRefused C.2.2.2.2.2.2.2.2.1 hgu6) 3 rfl tcX7_isRefused tlX7_61 tiX7_isRefused tsX7_isRefused rfl tnX7 tdX7_isRefused ⟨Nat.le_of_ble_eq_true rfl, Nat.le_of_ble_eq_true rfl⟩ rfl (Nat.le_of_ble_eq_true rfl) dX7_watch_27 ?_
      refine vi_if_eq (tgt := 36) C dX7_watch_30 (by decide) (fun hc8 => ?_) (fun hc8 => ?_)
      · have h := ob_t h hc8
        refine vi_aload_n C 0 dX7_watch_36 rfl ?_
        refine gM_X7_0_0 C dX7_watch_37 ?_
        refine gM_X7_1_3 C dX7_watch_40 ?_
        refine vi_iload_n C 1 dX7_watch_43 rfl ?_
        obtain ⟨hz9, h⟩ := ob_if h
        refine lM_X7_4 (n := (Int32.toNatClampNeg x1)) C hz9 rfl dX7_watch_44 ?_
        obtain ⟨y10, ey10, h⟩ := ob_nm h
        refine vi_nmi ey10 ?_
        refine vi_istore_n (lv' := [(3, .int y10), (0, .ref (q0 0)), (1, .int x1), (2, .int x2)]) C dX7_watch_45 rfl (by decide) rfl ?_
        refine vi_aload_n C 1 dX7_watch_46 rfl ?_
        refine vi_getF C 5 (by decide) tfX7_100 dX7_watch_47 ?_
        refine vi_iload_n C 2 dX7_watch_50 rfl ?_
        refine vi_iload_n C 3 dX7_watch_51 rfl ?_
        obtain ⟨u11, hgu11, h⟩ := ob_bd h
        refine cM_X7_v (As := [.ref (ad 5), .int x1, .int x2]) (rest := []) C (mX7_change C.2.2.2.2.2.2.2.2.1 hgu11) 3 rfl tcX7_change tlX7_66 tiX7_change tsX7_change rfl tnX7 tdX7_change ⟨Nat.le_of_ble_eq_true rfl, Nat.le_of_ble_eq_true rfl⟩ rfl (Nat.le_of_ble_eq_true rfl) dX7_watch_52 ?_
        refine vi_iload_n C 0 dX7_watch_55 rfl ?_
        exact vi_donei (W := wX q0 qs qo qt qv qr qx ql ad qh cI cF cC cS cO) RET h dX7_watch_56
      · have h := ob_f h hc8
        refine vi_ldc (v := (-100005)) C dX7_watch_33 tkX7_65 ?_
        exact vi_donei (W := wX q0 qs qo qt qv qr qx ql ad qh cI cF cC cS cO) RET h dX7_watch_35
    · have h := ob_t h hc5
      refine vi_ldc (v := (-100001)) C dX7_watch_18 tkX7_77 ?_
      exact vi_donei (W := wX q0 qs qo qt qv qr qx ql ad qh cI cF cC cS cO) RET h dX7_watch_20
theorem mX7_watch {ad adK adV : Nat → Nat} {tS tF : Nat} {tX sK sV : Nat → Nat} (hE : vEok (vE ad adK adV tS tF tX sK sV)) {l : Launch} {D : va_G} {cI cF cC cS cO cB cZ : ClassId} {q0 qs qo qt qv qr qx ql : Nat → Nat} {qh : Nat → Nat → Nat} {r0 : Int32} {u0 : vZ}  {x1 : Int32} {x2 : Int32} {u : vZ} (h : fX7_watch x1 x2 u = some (r0, u0)) : vM (vE ad adK adV tS tF tX sK sV) l yX7_watch cX7_watch 4 (some .int) 7 160 D (vT7 cI cF cC cS cO cB cZ) [.ref (q0 0), .int x1, .int x2] (wX q0 qs qo qt qv qr qx ql ad qh cI cF cC cS cO u) (vQi D (wX q0 qs qo qt qv qr qx ql ad qh cI cF cC cS cO u0) r0) :=
  vM_of hE (by decide +kernel) (Nat.le_of_ble_eq_true rfl) (fun p e s m args below meth c A C hr => kX7_watch_e C (vi_reti C hr) h)
-- ---- X7_horizon
def fX7_horizon (x1 : Int32) (x2 : Int32) (u : vZ) : Option (Int32 × vZ) := (fX5_isWatch x1).bind fun y1 => (if y1 = 0 then some ((-100001 : Int32), u) else (fX5_isHorizon x2).bind fun y3 => (if y3 = 0 then some ((-100002 : Int32), u) else obp (fX7_isRefused (6) x1 x2 u) fun y6 u5 => (if y6 = 0 then if x1 < 0 ∨ 4 ≤ Int32.toNatClampNeg x1 then none else bd ((u5.2.1.1.1 4 (Int32.toNatClampNeg x1) : Int32)) fun y9 => (fX7_change (6) x1 x2 u5).bind fun u10 => some (y9, u10) else some ((-100005 : Int32), u5))))
set_option maxRecDepth 100000 in
set_option maxHeartbeats 4000000 in
theorem kX7_horizon_e {ad adK adV : Nat → Nat} {tS tF : Nat} {tX sK sV : Nat → Nat} {p : Program} {l : Launch} {e : Env} {s : State} {m : MethodId} {args : Array Value} {below : List Frame} {meth : Method} {c : Code} {A : Nat → Prop} {D : va_G} {cI cF cC cS cO cB cZ : ClassId} {Q : State → Prop} {q0 qs qo qt qv qr qx ql : Nat → Nat} {qh : Nat → Nat → Nat} (C : vC (vE ad adK adV tS tF tX sK sV) p l s m args meth c A D (vT7 cI cF cC cS cO cB cZ) cX7_horizon 4 RX7) {r0 : Int32} {u0 : vZ} (RET : ∀ (pc : Nat) (lv : List (Nat × Value)), decode cX7_horizon pc = .ok (.ireturn, 1) → vV p l e { frames := 7, cells := 0, slots := 0, locals := 160 } s m args below meth c A D 4 0 0 Q (wX q0 qs qo qt qv qr qx ql ad qh cI cF cC cS cO u0) pc lv [.int r0]) {x1 : Int32} {x2 : Int32} {u : vZ} (h : fX7_horizon x1 x2 u = some (r0, u0)) : vV p l e { frames := 7, cells := 0, slots := 0, locals := 160 } s m args below meth c A D 4 0 0 Q (wX q0 qs qo qt qv qr qx ql ad qh cI cF cC cS cO u) 0 [(0, .ref (q0 0)), (1, .int x1), (2, .int x2)] [] := by
  rw [fX7_horizon] at h
  refine vi_iload_n C 1 dX7_horizon_0 rfl ?_
  obtain ⟨y1, hgy1, h⟩ := ob_bd h
  refine vi_callS0i (As := [.int x1]) (rest := []) C (mX5_isWatch C.2.2.2.2.2.2.2.2.1 hgy1) 1 rfl tcX5_isWatch tlX7_97 ttX5_isWatch tnX5 tdX5_isWatch ⟨Nat.le_of_ble_eq_true rfl, Nat.le_of_ble_eq_true rfl⟩ rfl (Nat.le_of_ble_eq_true rfl) dX7_horizon_1 ?_
  refine vi_if_ne (tgt := 10) C dX7_horizon_4 (by decide) (fun hc2 => ?_) (fun hc2 => ?_)
  · have h := ob_f h hc2
    refine vi_iload_n C 2 dX7_horizon_10 rfl ?_
    obtain ⟨y3, hgy3, h⟩ := ob_bd h
    refine vi_callS0i (As := [.int x2]) (rest := []) C (mX5_isHorizon C.2.2.2.2.2.2.2.2.1 hgy3) 1 rfl tcX5_isHorizon tlX7_106 ttX5_isHorizon tnX5 tdX5_isHorizon ⟨Nat.le_of_ble_eq_true rfl, Nat.le_of_ble_eq_true rfl⟩ rfl (Nat.le_of_ble_eq_true rfl) dX7_horizon_11 ?_
    refine vi_if_ne (tgt := 20) C dX7_horizon_14 (by decide) (fun hc4 => ?_) (fun hc4 => ?_)
    · have h := ob_f h hc4
      refine vi_aload_n C 0 dX7_horizon_20 rfl ?_
      refine vi_getF C 6 (by decide) tfX7_109 dX7_horizon_21 ?_
      refine vi_iload_n C 1 dX7_horizon_24 rfl ?_
      refine vi_iload_n C 2 dX7_horizon_25 rfl ?_
      obtain ⟨y6, u5, hgu5, h⟩ := ob_p h
      refine cM_X7_i (As := [.ref (ad 6), .int x1, .int x2]) (rest := []) C (mX7_isRefused C.2.2.2.2.2.2.2.2.1 hgu5) 3 rfl tcX7_isRefused tlX7_61 tiX7_isRefused tsX7_isRefused rfl tnX7 tdX7_isRefused ⟨Nat.le_of_ble_eq_true rfl, Nat.le_of_ble_eq_true rfl⟩ rfl (Nat.le_of_ble_eq_true rfl) dX7_horizon_26 ?_
      refine vi_if_eq (tgt := 35) C dX7_horizon_29 (by decide) (fun hc7 => ?_) (fun hc7 => ?_)
      · have h := ob_t h hc7
        refine vi_aload_n C 0 dX7_horizon_35 rfl ?_
        refine gM_X7_0_0 C dX7_horizon_36 ?_
        refine gM_X7_1_4 C dX7_horizon_39 ?_
        refine vi_iload_n C 1 dX7_horizon_42 rfl ?_
        obtain ⟨hz8, h⟩ := ob_if h
        refine lM_X7_5 (n := (Int32.toNatClampNeg x1)) C hz8 rfl dX7_horizon_43 ?_
        obtain ⟨y9, ey9, h⟩ := ob_nm h
        refine vi_nmi ey9 ?_
        refine vi_istore_n (lv' := [(3, .int y9), (0, .ref (q0 0)), (1, .int x1), (2, .int x2)]) C dX7_horizon_44 rfl (by decide) rfl ?_
        refine vi_aload_n C 1 dX7_horizon_45 rfl ?_
        refine vi_getF C 6 (by decide) tfX7_109 dX7_horizon_46 ?_
        refine vi_iload_n C 2 dX7_horizon_49 rfl ?_
        refine vi_iload_n C 3 dX7_horizon_50 rfl ?_
        obtain ⟨u10, hgu10, h⟩ := ob_bd h
        refine cM_X7_v (As := [.ref (ad 6), .int x1, .int x2]) (rest := []) C (mX7_change C.2.2.2.2.2.2.2.2.1 hgu10) 3 rfl tcX7_change tlX7_66 tiX7_change tsX7_change rfl tnX7 tdX7_change ⟨Nat.le_of_ble_eq_true rfl, Nat.le_of_ble_eq_true rfl⟩ rfl (Nat.le_of_ble_eq_true rfl) dX7_horizon_51 ?_
        refine vi_iload_n C 0 dX7_horizon_54 rfl ?_
        exact vi_donei (W := wX q0 qs qo qt qv qr qx ql ad qh cI cF cC cS cO) RET h dX7_horizon_55
      · have h := ob_f h hc7
        refine vi_ldc (v := (-100005)) C dX7_horizon_32 tkX7_65 ?_
        exact vi_donei (W := wX q0 qs qo qt qv qr qx ql ad qh cI cF cC cS cO) RET h dX7_horizon_34
    · have h := ob_t h hc4
      refine vi_ldc (v := (-100002)) C dX7_horizon_17 tkX7_54 ?_
      exact vi_donei (W := wX q0 qs qo qt qv qr qx ql ad qh cI cF cC cS cO) RET h dX7_horizon_19
  · have h := ob_t h hc2
    refine vi_ldc (v := (-100001)) C dX7_horizon_7 tkX7_77 ?_
    exact vi_donei (W := wX q0 qs qo qt qv qr qx ql ad qh cI cF cC cS cO) RET h dX7_horizon_9
theorem mX7_horizon {ad adK adV : Nat → Nat} {tS tF : Nat} {tX sK sV : Nat → Nat} (hE : vEok (vE ad adK adV tS tF tX sK sV)) {l : Launch} {D : va_G} {cI cF cC cS cO cB cZ : ClassId} {q0 qs qo qt qv qr qx ql : Nat → Nat} {qh : Nat → Nat → Nat} {r0 : Int32} {u0 : vZ}  {x1 : Int32} {x2 : Int32} {u : vZ} (h : fX7_horizon x1 x2 u = some (r0, u0)) : vM (vE ad adK adV tS tF tX sK sV) l yX7_horizon cX7_horizon 4 (some .int) 7 160 D (vT7 cI cF cC cS cO cB cZ) [.ref (q0 0), .int x1, .int x2] (wX q0 qs qo qt qv qr qx ql ad qh cI cF cC cS cO u) (vQi D (wX q0 qs qo qt qv qr qx ql ad qh cI cF cC cS cO u0) r0) :=
  vM_of hE (by decide +kernel) (Nat.le_of_ble_eq_true rfl) (fun p e s m args below meth c A C hr => kX7_horizon_e C (vi_reti C hr) h)
-- ---- X7_error
def fX7_error (x1 : Int32) (u : vZ) : Option (Int32 × vZ) := (fX5_isError x1).bind fun y1 => (if y1 = 0 then some ((-100002 : Int32), u) else obp (fX7_isRefused (7) (0 : Int32) x1 u) fun y4 u3 => (if y4 = 0 then bd ((u3.2.1.1.1 0 5 : Int32)) fun y6 => (fX7_change (7) (0 : Int32) x1 u3).bind fun u7 => some (y6, u7) else some ((-100005 : Int32), u3)))
set_option maxRecDepth 100000 in
set_option maxHeartbeats 4000000 in
theorem kX7_error_e {ad adK adV : Nat → Nat} {tS tF : Nat} {tX sK sV : Nat → Nat} {p : Program} {l : Launch} {e : Env} {s : State} {m : MethodId} {args : Array Value} {below : List Frame} {meth : Method} {c : Code} {A : Nat → Prop} {D : va_G} {cI cF cC cS cO cB cZ : ClassId} {Q : State → Prop} {q0 qs qo qt qv qr qx ql : Nat → Nat} {qh : Nat → Nat → Nat} (C : vC (vE ad adK adV tS tF tX sK sV) p l s m args meth c A D (vT7 cI cF cC cS cO cB cZ) cX7_error 3 RX7) {r0 : Int32} {u0 : vZ} (RET : ∀ (pc : Nat) (lv : List (Nat × Value)), decode cX7_error pc = .ok (.ireturn, 1) → vV p l e { frames := 7, cells := 0, slots := 0, locals := 160 } s m args below meth c A D 3 0 0 Q (wX q0 qs qo qt qv qr qx ql ad qh cI cF cC cS cO u0) pc lv [.int r0]) {x1 : Int32} {u : vZ} (h : fX7_error x1 u = some (r0, u0)) : vV p l e { frames := 7, cells := 0, slots := 0, locals := 160 } s m args below meth c A D 3 0 0 Q (wX q0 qs qo qt qv qr qx ql ad qh cI cF cC cS cO u) 0 [(0, .ref (q0 0)), (1, .int x1)] [] := by
  rw [fX7_error] at h
  refine vi_iload_n C 1 dX7_error_0 rfl ?_
  obtain ⟨y1, hgy1, h⟩ := ob_bd h
  refine vi_callS0i (As := [.int x1]) (rest := []) C (mX5_isError C.2.2.2.2.2.2.2.2.1 hgy1) 1 rfl tcX5_isError tlX7_115 ttX5_isError tnX5 tdX5_isError ⟨Nat.le_of_ble_eq_true rfl, Nat.le_of_ble_eq_true rfl⟩ rfl (Nat.le_of_ble_eq_true rfl) dX7_error_1 ?_
  refine vi_if_ne (tgt := 10) C dX7_error_4 (by decide) (fun hc2 => ?_) (fun hc2 => ?_)
  · have h := ob_f h hc2
    refine vi_aload_n C 0 dX7_error_10 rfl ?_
    refine vi_getF C 7 (by decide) tfX7_118 dX7_error_11 ?_
    refine vi_iconst (v := 0) C dX7_error_14 (by decide) ?_
    refine vi_iload_n C 1 dX7_error_15 rfl ?_
    obtain ⟨y4, u3, hgu3, h⟩ := ob_p h
    refine cM_X7_i (As := [.ref (ad 7), .int (0 : Int32), .int x1]) (rest := []) C (mX7_isRefused C.2.2.2.2.2.2.2.2.1 hgu3) 3 rfl tcX7_isRefused tlX7_61 tiX7_isRefused tsX7_isRefused rfl tnX7 tdX7_isRefused ⟨Nat.le_of_ble_eq_true rfl, Nat.le_of_ble_eq_true rfl⟩ rfl (Nat.le_of_ble_eq_true rfl) dX7_error_16 ?_
    refine vi_if_eq (tgt := 25) C dX7_error_19 (by decide) (fun hc5 => ?_) (fun hc5 => ?_)
    · have h := ob_t h hc5
      refine vi_aload_n C 0 dX7_error_25 rfl ?_
      refine gM_X7_0_0 C dX7_error_26 ?_
      refine gM_X7_1_5 C dX7_error_29 ?_
      obtain ⟨y6, ey6, h⟩ := ob_nm h
      refine vi_nmi ey6 ?_
      refine vi_istore_n (lv' := [(2, .int y6), (0, .ref (q0 0)), (1, .int x1)]) C dX7_error_32 rfl (by decide) rfl ?_
      refine vi_aload_n C 1 dX7_error_33 rfl ?_
      refine vi_getF C 7 (by decide) tfX7_118 dX7_error_34 ?_
      refine vi_iconst (v := 0) C dX7_error_37 (by decide) ?_
      refine vi_iload_n C 2 dX7_error_38 rfl ?_
      obtain ⟨u7, hgu7, h⟩ := ob_bd h
      refine cM_X7_v (As := [.ref (ad 7), .int (0 : Int32), .int x1]) (rest := []) C (mX7_change C.2.2.2.2.2.2.2.2.1 hgu7) 3 rfl tcX7_change tlX7_66 tiX7_change tsX7_change rfl tnX7 tdX7_change ⟨Nat.le_of_ble_eq_true rfl, Nat.le_of_ble_eq_true rfl⟩ rfl (Nat.le_of_ble_eq_true rfl) dX7_error_39 ?_
      refine vi_iload_n C 0 dX7_error_42 rfl ?_
      exact vi_donei (W := wX q0 qs qo qt qv qr qx ql ad qh cI cF cC cS cO) RET h dX7_error_43
    · have h := ob_f h hc5
      refine vi_ldc (v := (-100005)) C dX7_error_22 tkX7_65 ?_
      exact vi_donei (W := wX q0 qs qo qt qv qr qx ql ad qh cI cF cC cS cO) RET h dX7_error_24
  · have h := ob_t h hc2
    refine vi_ldc (v := (-100002)) C dX7_error_7 tkX7_54 ?_
    exact vi_donei (W := wX q0 qs qo qt qv qr qx ql ad qh cI cF cC cS cO) RET h dX7_error_9
theorem mX7_error {ad adK adV : Nat → Nat} {tS tF : Nat} {tX sK sV : Nat → Nat} (hE : vEok (vE ad adK adV tS tF tX sK sV)) {l : Launch} {D : va_G} {cI cF cC cS cO cB cZ : ClassId} {q0 qs qo qt qv qr qx ql : Nat → Nat} {qh : Nat → Nat → Nat} {r0 : Int32} {u0 : vZ}  {x1 : Int32} {u : vZ} (h : fX7_error x1 u = some (r0, u0)) : vM (vE ad adK adV tS tF tX sK sV) l yX7_error cX7_error 3 (some .int) 7 160 D (vT7 cI cF cC cS cO cB cZ) [.ref (q0 0), .int x1] (wX q0 qs qo qt qv qr qx ql ad qh cI cF cC cS cO u) (vQi D (wX q0 qs qo qt qv qr qx ql ad qh cI cF cC cS cO u0) r0) :=
  vM_of hE (by decide +kernel) (Nat.le_of_ble_eq_true rfl) (fun p e s m args below meth c A C hr => kX7_error_e C (vi_reti C hr) h)
-- ---- X7_sight
def fX7_sight (x1 : Int32) (u : vZ) : Option (Int32 × vZ) := obp (fX5_hasSailor x1 u.2.1.1) fun y2 u1b => bd ((u.1, ((u1b, u.2.1.2), u.2.2))) fun u1 => (if y2 = 0 then some ((-100001 : Int32), u1) else obp (fX7_isRefused (2) x1 (0 : Int32) u1) fun y5 u4 => (if y5 = 0 then (fX7_change (2) x1 (0 : Int32) u4).bind fun u7 => some (u7.2.1.1.1 0 7, u7) else some ((-100005 : Int32), u4)))
set_option maxRecDepth 100000 in
set_option maxHeartbeats 4000000 in
theorem kX7_sight_e {ad adK adV : Nat → Nat} {tS tF : Nat} {tX sK sV : Nat → Nat} {p : Program} {l : Launch} {e : Env} {s : State} {m : MethodId} {args : Array Value} {below : List Frame} {meth : Method} {c : Code} {A : Nat → Prop} {D : va_G} {cI cF cC cS cO cB cZ : ClassId} {Q : State → Prop} {q0 qs qo qt qv qr qx ql : Nat → Nat} {qh : Nat → Nat → Nat} (C : vC (vE ad adK adV tS tF tX sK sV) p l s m args meth c A D (vT7 cI cF cC cS cO cB cZ) cX7_sight 2 RX7) {r0 : Int32} {u0 : vZ} (RET : ∀ (pc : Nat) (lv : List (Nat × Value)), decode cX7_sight pc = .ok (.ireturn, 1) → vV p l e { frames := 7, cells := 0, slots := 0, locals := 160 } s m args below meth c A D 2 0 0 Q (wX q0 qs qo qt qv qr qx ql ad qh cI cF cC cS cO u0) pc lv [.int r0]) {x1 : Int32} {u : vZ} (h : fX7_sight x1 u = some (r0, u0)) : vV p l e { frames := 7, cells := 0, slots := 0, locals := 160 } s m args below meth c A D 2 0 0 Q (wX q0 qs qo qt qv qr qx ql ad qh cI cF cC cS cO u) 0 [(0, .ref (q0 0)), (1, .int x1)] [] := by
  rw [fX7_sight] at h
  refine vi_aload_n C 0 dX7_sight_0 rfl ?_
  refine gM_X7_0_0 C dX7_sight_1 ?_
  refine vi_iload_n C 1 dX7_sight_4 rfl ?_
  obtain ⟨y2, u1b, hgu1, h⟩ := ob_p h
  obtain ⟨u1, eu1, h⟩ := ob_nm h
  refine cM_ship_i (As := [.int x1]) (rest := []) C (mX5_hasSailor C.2.2.2.2.2.2.2.2.1 hgu1) 1 rfl tcX5_hasSailor tlX7_74 tiX5_hasSailor tsX5_hasSailor rfl tnX5 tdX5_hasSailor ⟨Nat.le_of_ble_eq_true rfl, Nat.le_of_ble_eq_true rfl⟩ eu1 rfl (Nat.le_of_ble_eq_true rfl) dX7_sight_5 ?_
  refine vi_if_ne (tgt := 14) C dX7_sight_8 (by decide) (fun hc3 => ?_) (fun hc3 => ?_)
  · have h := ob_f h hc3
    refine vi_aload_n C 0 dX7_sight_14 rfl ?_
    refine vi_getF C 2 (by decide) tfX7_124 dX7_sight_15 ?_
    refine vi_iload_n C 1 dX7_sight_18 rfl ?_
    refine vi_iconst (v := 0) C dX7_sight_19 (by decide) ?_
    obtain ⟨y5, u4, hgu4, h⟩ := ob_p h
    refine cM_X7_i (As := [.ref (ad 2), .int x1, .int (0 : Int32)]) (rest := []) C (mX7_isRefused C.2.2.2.2.2.2.2.2.1 hgu4) 3 rfl tcX7_isRefused tlX7_61 tiX7_isRefused tsX7_isRefused rfl tnX7 tdX7_isRefused ⟨Nat.le_of_ble_eq_true rfl, Nat.le_of_ble_eq_true rfl⟩ rfl (Nat.le_of_ble_eq_true rfl) dX7_sight_20 ?_
    refine vi_if_eq (tgt := 29) C dX7_sight_23 (by decide) (fun hc6 => ?_) (fun hc6 => ?_)
    · have h := ob_t h hc6
      refine vi_aload_n C 0 dX7_sight_29 rfl ?_
      refine vi_getF C 2 (by decide) tfX7_124 dX7_sight_30 ?_
      refine vi_iload_n C 1 dX7_sight_33 rfl ?_
      refine vi_iconst (v := 0) C dX7_sight_34 (by decide) ?_
      obtain ⟨u7, hgu7, h⟩ := ob_bd h
      refine cM_X7_v (As := [.ref (ad 2), .int x1, .int (0 : Int32)]) (rest := []) C (mX7_change C.2.2.2.2.2.2.2.2.1 hgu7) 3 rfl tcX7_change tlX7_66 tiX7_change tsX7_change rfl tnX7 tdX7_change ⟨Nat.le_of_ble_eq_true rfl, Nat.le_of_ble_eq_true rfl⟩ rfl (Nat.le_of_ble_eq_true rfl) dX7_sight_35 ?_
      refine vi_aload_n C 0 dX7_sight_38 rfl ?_
      refine gM_X7_0_0 C dX7_sight_39 ?_
      refine gM_X7_1_7 C dX7_sight_42 ?_
      exact vi_donei (W := wX q0 qs qo qt qv qr qx ql ad qh cI cF cC cS cO) RET h dX7_sight_45
    · have h := ob_f h hc6
      refine vi_ldc (v := (-100005)) C dX7_sight_26 tkX7_65 ?_
      exact vi_donei (W := wX q0 qs qo qt qv qr qx ql ad qh cI cF cC cS cO) RET h dX7_sight_28
  · have h := ob_t h hc3
    refine vi_ldc (v := (-100001)) C dX7_sight_11 tkX7_77 ?_
    exact vi_donei (W := wX q0 qs qo qt qv qr qx ql ad qh cI cF cC cS cO) RET h dX7_sight_13
theorem mX7_sight {ad adK adV : Nat → Nat} {tS tF : Nat} {tX sK sV : Nat → Nat} (hE : vEok (vE ad adK adV tS tF tX sK sV)) {l : Launch} {D : va_G} {cI cF cC cS cO cB cZ : ClassId} {q0 qs qo qt qv qr qx ql : Nat → Nat} {qh : Nat → Nat → Nat} {r0 : Int32} {u0 : vZ}  {x1 : Int32} {u : vZ} (h : fX7_sight x1 u = some (r0, u0)) : vM (vE ad adK adV tS tF tX sK sV) l yX7_sight cX7_sight 2 (some .int) 7 160 D (vT7 cI cF cC cS cO cB cZ) [.ref (q0 0), .int x1] (wX q0 qs qo qt qv qr qx ql ad qh cI cF cC cS cO u) (vQi D (wX q0 qs qo qt qv qr qx ql ad qh cI cF cC cS cO u0) r0) :=
  vM_of hE (by decide +kernel) (Nat.le_of_ble_eq_true rfl) (fun p e s m args below meth c A C hr => kX7_sight_e C (vi_reti C hr) h)
-- ---- X7_hour
def fX7_hour (u : vZ) : Option (Int32 × vZ) := (fX7_change (9) (0 : Int32) (0 : Int32) u).bind fun u1 => obp (fX5_allCups u1.2.1.1) fun y3 u2b => bd ((u1.1, ((u2b, u1.2.1.2), u1.2.2))) fun u2 => some (y3, u2)
set_option maxRecDepth 100000 in
set_option maxHeartbeats 4000000 in
theorem kX7_hour_e {ad adK adV : Nat → Nat} {tS tF : Nat} {tX sK sV : Nat → Nat} {p : Program} {l : Launch} {e : Env} {s : State} {m : MethodId} {args : Array Value} {below : List Frame} {meth : Method} {c : Code} {A : Nat → Prop} {D : va_G} {cI cF cC cS cO cB cZ : ClassId} {Q : State → Prop} {q0 qs qo qt qv qr qx ql : Nat → Nat} {qh : Nat → Nat → Nat} (C : vC (vE ad adK adV tS tF tX sK sV) p l s m args meth c A D (vT7 cI cF cC cS cO cB cZ) cX7_hour 1 RX7) {r0 : Int32} {u0 : vZ} (RET : ∀ (pc : Nat) (lv : List (Nat × Value)), decode cX7_hour pc = .ok (.ireturn, 1) → vV p l e { frames := 7, cells := 0, slots := 0, locals := 160 } s m args below meth c A D 1 0 0 Q (wX q0 qs qo qt qv qr qx ql ad qh cI cF cC cS cO u0) pc lv [.int r0]) {u : vZ} (h : fX7_hour u = some (r0, u0)) : vV p l e { frames := 7, cells := 0, slots := 0, locals := 160 } s m args below meth c A D 1 0 0 Q (wX q0 qs qo qt qv qr qx ql ad qh cI cF cC cS cO u) 0 [(0, .ref (q0 0))] [] := by
  rw [fX7_hour] at h
  refine vi_aload_n C 0 dX7_hour_0 rfl ?_
  refine vi_getF C 9 (by decide) tfX7_130 dX7_hour_1 ?_
  refine vi_iconst (v := 0) C dX7_hour_4 (by decide) ?_
  refine vi_iconst (v := 0) C dX7_hour_5 (by decide) ?_
  obtain ⟨u1, hgu1, h⟩ := ob_bd h
  refine cM_X7_v (As := [.ref (ad 9), .int (0 : Int32), .int (0 : Int32)]) (rest := []) C (mX7_change C.2.2.2.2.2.2.2.2.1 hgu1) 3 rfl tcX7_change tlX7_66 tiX7_change tsX7_change rfl tnX7 tdX7_change ⟨Nat.le_of_ble_eq_true rfl, Nat.le_of_ble_eq_true rfl⟩ rfl (Nat.le_of_ble_eq_true rfl) dX7_hour_6 ?_
  refine vi_aload_n C 0 dX7_hour_9 rfl ?_
  refine gM_X7_0_0 C dX7_hour_10 ?_
  obtain ⟨y3, u2b, hgu2, h⟩ := ob_p h
  obtain ⟨u2, eu2, h⟩ := ob_nm h
  refine cM_ship_i (As := []) (rest := []) C (mX5_allCups C.2.2.2.2.2.2.2.2.1 hgu2) 0 rfl tcX5_allCups tlX7_133 tiX5_allCups tsX5_allCups rfl tnX5 tdX5_allCups ⟨Nat.le_of_ble_eq_true rfl, Nat.le_of_ble_eq_true rfl⟩ eu2 rfl (Nat.le_of_ble_eq_true rfl) dX7_hour_13 ?_
  exact vi_donei (W := wX q0 qs qo qt qv qr qx ql ad qh cI cF cC cS cO) RET h dX7_hour_16
theorem mX7_hour {ad adK adV : Nat → Nat} {tS tF : Nat} {tX sK sV : Nat → Nat} (hE : vEok (vE ad adK adV tS tF tX sK sV)) {l : Launch} {D : va_G} {cI cF cC cS cO cB cZ : ClassId} {q0 qs qo qt qv qr qx ql : Nat → Nat} {qh : Nat → Nat → Nat} {r0 : Int32} {u0 : vZ}  {u : vZ} (h : fX7_hour u = some (r0, u0)) : vM (vE ad adK adV tS tF tX sK sV) l yX7_hour cX7_hour 1 (some .int) 7 160 D (vT7 cI cF cC cS cO cB cZ) [.ref (q0 0)] (wX q0 qs qo qt qv qr qx ql ad qh cI cF cC cS cO u) (vQi D (wX q0 qs qo qt qv qr qx ql ad qh cI cF cC cS cO u0) r0) :=
  vM_of hE (by decide +kernel) (Nat.le_of_ble_eq_true rfl) (fun p e s m args below meth c A C hr => kX7_hour_e C (vi_reti C hr) h)
-- ---- X7_sailorOf
def fX7_sailorOf (x1 : Int32) (x2 : Int32) (u : vZ) : Option (Int32 × vZ) := obp (fX5_hasSailor x1 u.2.1.1) fun y2 u1b => bd ((u.1, ((u1b, u.2.1.2), u.2.2))) fun u1 => (if y2 = 0 then some ((-100001 : Int32), u1) else (if x2 = 0 then if x1 < 0 ∨ 8 ≤ Int32.toNatClampNeg x1 then none else some (u1.2.1.1.1 1 (Int32.toNatClampNeg x1), u1) else (if x2 = 1 then if x1 < 0 ∨ 8 ≤ Int32.toNatClampNeg x1 then none else some (u1.2.1.1.1 2 (Int32.toNatClampNeg x1), u1) else (if x2 = 2 then if x1 < 0 ∨ 8 ≤ Int32.toNatClampNeg x1 then none else some (u1.2.1.1.1 3 (Int32.toNatClampNeg x1), u1) else (if x2 = 3 then if x1 < 0 ∨ 8 ≤ Int32.toNatClampNeg x1 then none else (fX5_cheerIn (u1.2.1.1.1 1 (Int32.toNatClampNeg x1))).bind fun y11 => some (y11, u1) else (if x2 = 4 then if x1 < 0 ∨ 8 ≤ Int32.toNatClampNeg x1 then none else (fX5_dreadIn (u1.2.1.1.1 1 (Int32.toNatClampNeg x1))).bind fun y14 => some (y14, u1) else (if x2 = 5 then obp (fX5_angleAfter x1 (0 : Int32) u1.2.1.1) fun y17 u16b => bd ((u1.1, ((u16b, u1.2.1.2), u1.2.2))) fun u16 => some (y17, u16) else (if x2 = 6 then obp (fX5_sightsOf x1 u1.2.1.1) fun y20 u19b => bd ((u1.1, ((u19b, u1.2.1.2), u1.2.2))) fun u19 => some (y20, u19) else (if x2 = 7 then obp (fX5_matesOf x1 u1.2.1.1) fun y23 u22b => bd ((u1.1, ((u22b, u1.2.1.2), u1.2.2))) fun u22 => some (y23, u22) else (if x2 = 8 then obp (fX5_messOf x1 u1.2.1.1) fun y26 u25b => bd ((u1.1, ((u25b, u1.2.1.2), u1.2.2))) fun u25 => some (y26, u25) else some ((-100002 : Int32), u1)))))))))))
set_option maxRecDepth 100000 in
set_option maxHeartbeats 4000000 in
theorem kX7_sailorOf_e {ad adK adV : Nat → Nat} {tS tF : Nat} {tX sK sV : Nat → Nat} {p : Program} {l : Launch} {e : Env} {s : State} {m : MethodId} {args : Array Value} {below : List Frame} {meth : Method} {c : Code} {A : Nat → Prop} {D : va_G} {cI cF cC cS cO cB cZ : ClassId} {Q : State → Prop} {q0 qs qo qt qv qr qx ql : Nat → Nat} {qh : Nat → Nat → Nat} (C : vC (vE ad adK adV tS tF tX sK sV) p l s m args meth c A D (vT7 cI cF cC cS cO cB cZ) cX7_sailorOf 3 RX7) {r0 : Int32} {u0 : vZ} (RET : ∀ (pc : Nat) (lv : List (Nat × Value)), decode cX7_sailorOf pc = .ok (.ireturn, 1) → vV p l e { frames := 5, cells := 0, slots := 0, locals := 111 } s m args below meth c A D 3 0 0 Q (wX q0 qs qo qt qv qr qx ql ad qh cI cF cC cS cO u0) pc lv [.int r0]) {x1 : Int32} {x2 : Int32} {u : vZ} (h : fX7_sailorOf x1 x2 u = some (r0, u0)) : vV p l e { frames := 5, cells := 0, slots := 0, locals := 111 } s m args below meth c A D 3 0 0 Q (wX q0 qs qo qt qv qr qx ql ad qh cI cF cC cS cO u) 0 [(0, .ref (q0 0)), (1, .int x1), (2, .int x2)] [] := by
  rw [fX7_sailorOf] at h
  refine vi_aload_n C 0 dX7_sailorOf_0 rfl ?_
  refine gM_X7_0_0 C dX7_sailorOf_1 ?_
  refine vi_iload_n C 1 dX7_sailorOf_4 rfl ?_
  obtain ⟨y2, u1b, hgu1, h⟩ := ob_p h
  obtain ⟨u1, eu1, h⟩ := ob_nm h
  refine cM_ship_i (As := [.int x1]) (rest := []) C (mX5_hasSailor C.2.2.2.2.2.2.2.2.1 hgu1) 1 rfl tcX5_hasSailor tlX7_74 tiX5_hasSailor tsX5_hasSailor rfl tnX5 tdX5_hasSailor ⟨Nat.le_of_ble_eq_true rfl, Nat.le_of_ble_eq_true rfl⟩ eu1 rfl (Nat.le_of_ble_eq_true rfl) dX7_sailorOf_5 ?_
  refine vi_if_ne (tgt := 14) C dX7_sailorOf_8 (by decide) (fun hc3 => ?_) (fun hc3 => ?_)
  · have h := ob_f h hc3
    refine vi_iload_n C 2 dX7_sailorOf_14 rfl ?_
    by_cases hc5 : x2 = 0
    · have h := ob_t h hc5
      refine vi_tswIn (off := 49) (tgt := 64) C dX7_sailorOf_15 (by rw [hc5]; decide) (by rw [hc5]; decide) (by rw [hc5]; rfl) (by decide) ?_
      refine vi_aload_n C 0 dX7_sailorOf_64 rfl ?_
      refine gM_X7_0_0 C dX7_sailorOf_65 ?_
      refine gM_X7_1_1 C dX7_sailorOf_68 ?_
      refine vi_iload_n C 1 dX7_sailorOf_71 rfl ?_
      obtain ⟨hz4, h⟩ := ob_if h
      refine lM_X7_2 (n := (Int32.toNatClampNeg x1)) C hz4 rfl dX7_sailorOf_72 ?_
      exact vi_donei (W := wX q0 qs qo qt qv qr qx ql ad qh cI cF cC cS cO) RET h dX7_sailorOf_73
    · replace h := ob_f h hc5
      by_cases hc7 : x2 = 1
      · have h := ob_t h hc7
        refine vi_tswIn (off := 59) (tgt := 74) C dX7_sailorOf_15 (by rw [hc7]; decide) (by rw [hc7]; decide) (by rw [hc7]; rfl) (by decide) ?_
        refine vi_aload_n C 0 dX7_sailorOf_74 rfl ?_
        refine gM_X7_0_0 C dX7_sailorOf_75 ?_
        refine gM_X7_1_2 C dX7_sailorOf_78 ?_
        refine vi_iload_n C 1 dX7_sailorOf_81 rfl ?_
        obtain ⟨hz6, h⟩ := ob_if h
        refine lM_X7_3 (n := (Int32.toNatClampNeg x1)) C hz6 rfl dX7_sailorOf_82 ?_
        exact vi_donei (W := wX q0 qs qo qt qv qr qx ql ad qh cI cF cC cS cO) RET h dX7_sailorOf_83
      · replace h := ob_f h hc7
        by_cases hc9 : x2 = 2
        · have h := ob_t h hc9
          refine vi_tswIn (off := 69) (tgt := 84) C dX7_sailorOf_15 (by rw [hc9]; decide) (by rw [hc9]; decide) (by rw [hc9]; rfl) (by decide) ?_
          refine vi_aload_n C 0 dX7_sailorOf_84 rfl ?_
          refine gM_X7_0_0 C dX7_sailorOf_85 ?_
          refine gM_X7_1_3 C dX7_sailorOf_88 ?_
          refine vi_iload_n C 1 dX7_sailorOf_91 rfl ?_
          obtain ⟨hz8, h⟩ := ob_if h
          refine lM_X7_4 (n := (Int32.toNatClampNeg x1)) C hz8 rfl dX7_sailorOf_92 ?_
          exact vi_donei (W := wX q0 qs qo qt qv qr qx ql ad qh cI cF cC cS cO) RET h dX7_sailorOf_93
        · replace h := ob_f h hc9
          by_cases hc12 : x2 = 3
          · have h := ob_t h hc12
            refine vi_tswIn (off := 79) (tgt := 94) C dX7_sailorOf_15 (by rw [hc12]; decide) (by rw [hc12]; decide) (by rw [hc12]; rfl) (by decide) ?_
            refine vi_aload_n C 0 dX7_sailorOf_94 rfl ?_
            refine gM_X7_0_0 C dX7_sailorOf_95 ?_
            refine gM_X7_1_1 C dX7_sailorOf_98 ?_
            refine vi_iload_n C 1 dX7_sailorOf_101 rfl ?_
            obtain ⟨hz10, h⟩ := ob_if h
            refine lM_X7_2 (n := (Int32.toNatClampNeg x1)) C hz10 rfl dX7_sailorOf_102 ?_
            obtain ⟨y11, hgy11, h⟩ := ob_bd h
            refine vi_callS0i (As := [.int (u1.2.1.1.1 1 (Int32.toNatClampNeg x1))]) (rest := []) C (mX5_cheerIn C.2.2.2.2.2.2.2.2.1 hgy11) 1 rfl tcX5_cheerIn tlX7_137 ttX5_cheerIn tnX5 tdX5_cheerIn ⟨Nat.le_of_ble_eq_true rfl, Nat.le_of_ble_eq_true rfl⟩ rfl (Nat.le_of_ble_eq_true rfl) dX7_sailorOf_103 ?_
            exact vi_donei (W := wX q0 qs qo qt qv qr qx ql ad qh cI cF cC cS cO) RET h dX7_sailorOf_106
          · replace h := ob_f h hc12
            by_cases hc15 : x2 = 4
            · have h := ob_t h hc15
              refine vi_tswIn (off := 92) (tgt := 107) C dX7_sailorOf_15 (by rw [hc15]; decide) (by rw [hc15]; decide) (by rw [hc15]; rfl) (by decide) ?_
              refine vi_aload_n C 0 dX7_sailorOf_107 rfl ?_
              refine gM_X7_0_0 C dX7_sailorOf_108 ?_
              refine gM_X7_1_1 C dX7_sailorOf_111 ?_
              refine vi_iload_n C 1 dX7_sailorOf_114 rfl ?_
              obtain ⟨hz13, h⟩ := ob_if h
              refine lM_X7_2 (n := (Int32.toNatClampNeg x1)) C hz13 rfl dX7_sailorOf_115 ?_
              obtain ⟨y14, hgy14, h⟩ := ob_bd h
              refine vi_callS0i (As := [.int (u1.2.1.1.1 1 (Int32.toNatClampNeg x1))]) (rest := []) C (mX5_dreadIn C.2.2.2.2.2.2.2.2.1 hgy14) 1 rfl tcX5_dreadIn tlX7_141 ttX5_dreadIn tnX5 tdX5_dreadIn ⟨Nat.le_of_ble_eq_true rfl, Nat.le_of_ble_eq_true rfl⟩ rfl (Nat.le_of_ble_eq_true rfl) dX7_sailorOf_116 ?_
              exact vi_donei (W := wX q0 qs qo qt qv qr qx ql ad qh cI cF cC cS cO) RET h dX7_sailorOf_119
            · replace h := ob_f h hc15
              by_cases hc18 : x2 = 5
              · have h := ob_t h hc18
                refine vi_tswIn (off := 105) (tgt := 120) C dX7_sailorOf_15 (by rw [hc18]; decide) (by rw [hc18]; decide) (by rw [hc18]; rfl) (by decide) ?_
                refine vi_aload_n C 0 dX7_sailorOf_120 rfl ?_
                refine gM_X7_0_0 C dX7_sailorOf_121 ?_
                refine vi_iload_n C 1 dX7_sailorOf_124 rfl ?_
                refine vi_iconst (v := 0) C dX7_sailorOf_125 (by decide) ?_
                obtain ⟨y17, u16b, hgu16, h⟩ := ob_p h
                obtain ⟨u16, eu16, h⟩ := ob_nm h
                refine cM_ship_i (As := [.int x1, .int (0 : Int32)]) (rest := []) C (mX5_angleAfter C.2.2.2.2.2.2.2.2.1 hgu16) 2 rfl tcX5_angleAfter tlX7_144 tiX5_angleAfter tsX5_angleAfter rfl tnX5 tdX5_angleAfter ⟨Nat.le_of_ble_eq_true rfl, Nat.le_of_ble_eq_true rfl⟩ eu16 rfl (Nat.le_of_ble_eq_true rfl) dX7_sailorOf_126 ?_
                exact vi_donei (W := wX q0 qs qo qt qv qr qx ql ad qh cI cF cC cS cO) RET h dX7_sailorOf_129
              · replace h := ob_f h hc18
                by_cases hc21 : x2 = 6
                · have h := ob_t h hc21
                  refine vi_tswIn (off := 115) (tgt := 130) C dX7_sailorOf_15 (by rw [hc21]; decide) (by rw [hc21]; decide) (by rw [hc21]; rfl) (by decide) ?_
                  refine vi_aload_n C 0 dX7_sailorOf_130 rfl ?_
                  refine gM_X7_0_0 C dX7_sailorOf_131 ?_
                  refine vi_iload_n C 1 dX7_sailorOf_134 rfl ?_
                  obtain ⟨y20, u19b, hgu19, h⟩ := ob_p h
                  obtain ⟨u19, eu19, h⟩ := ob_nm h
                  refine cM_ship_i (As := [.int x1]) (rest := []) C (mX5_sightsOf C.2.2.2.2.2.2.2.2.1 hgu19) 1 rfl tcX5_sightsOf tlX7_148 tiX5_sightsOf tsX5_sightsOf rfl tnX5 tdX5_sightsOf ⟨Nat.le_of_ble_eq_true rfl, Nat.le_of_ble_eq_true rfl⟩ eu19 rfl (Nat.le_of_ble_eq_true rfl) dX7_sailorOf_135 ?_
                  exact vi_donei (W := wX q0 qs qo qt qv qr qx ql ad qh cI cF cC cS cO) RET h dX7_sailorOf_138
                · replace h := ob_f h hc21
                  by_cases hc24 : x2 = 7
                  · have h := ob_t h hc24
                    refine vi_tswIn (off := 124) (tgt := 139) C dX7_sailorOf_15 (by rw [hc24]; decide) (by rw [hc24]; decide) (by rw [hc24]; rfl) (by decide) ?_
                    refine vi_aload_n C 0 dX7_sailorOf_139 rfl ?_
                    refine gM_X7_0_0 C dX7_sailorOf_140 ?_
                    refine vi_iload_n C 1 dX7_sailorOf_143 rfl ?_
                    obtain ⟨y23, u22b, hgu22, h⟩ := ob_p h
                    obtain ⟨u22, eu22, h⟩ := ob_nm h
                    refine cM_ship_i (As := [.int x1]) (rest := []) C (mX5_matesOf C.2.2.2.2.2.2.2.2.1 hgu22) 1 rfl tcX5_matesOf tlX7_151 tiX5_matesOf tsX5_matesOf rfl tnX5 tdX5_matesOf ⟨Nat.le_of_ble_eq_true rfl, Nat.le_of_ble_eq_true rfl⟩ eu22 rfl (Nat.le_of_ble_eq_true rfl) dX7_sailorOf_144 ?_
                    exact vi_donei (W := wX q0 qs qo qt qv qr qx ql ad qh cI cF cC cS cO) RET h dX7_sailorOf_147
                  · replace h := ob_f h hc24
                    by_cases hc27 : x2 = 8
                    · have h := ob_t h hc27
                      refine vi_tswIn (off := 133) (tgt := 148) C dX7_sailorOf_15 (by rw [hc27]; decide) (by rw [hc27]; decide) (by rw [hc27]; rfl) (by decide) ?_
                      refine vi_aload_n C 0 dX7_sailorOf_148 rfl ?_
                      refine gM_X7_0_0 C dX7_sailorOf_149 ?_
                      refine vi_iload_n C 1 dX7_sailorOf_152 rfl ?_
                      obtain ⟨y26, u25b, hgu25, h⟩ := ob_p h
                      obtain ⟨u25, eu25, h⟩ := ob_nm h
                      refine cM_ship_i (As := [.int x1]) (rest := []) C (mX5_messOf C.2.2.2.2.2.2.2.2.1 hgu25) 1 rfl tcX5_messOf tlX7_154 tiX5_messOf tsX5_messOf rfl tnX5 tdX5_messOf ⟨Nat.le_of_ble_eq_true rfl, Nat.le_of_ble_eq_true rfl⟩ eu25 rfl (Nat.le_of_ble_eq_true rfl) dX7_sailorOf_153 ?_
                      exact vi_donei (W := wX q0 qs qo qt qv qr qx ql ad qh cI cF cC cS cO) RET h dX7_sailorOf_156
                    · replace h := ob_f h hc27
                      refine vi_tswOut (tgt := 157) C dX7_sailorOf_15 (by have thc5 := lv_neT hc5 (a := 0) (by decide); have thc7 := lv_neT hc7 (a := 1) (by decide); have thc9 := lv_neT hc9 (a := 2) (by decide); have thc12 := lv_neT hc12 (a := 3) (by decide); have thc15 := lv_neT hc15 (a := 4) (by decide); have thc18 := lv_neT hc18 (a := 5) (by decide); have thc21 := lv_neT hc21 (a := 6) (by decide); have thc24 := lv_neT hc24 (a := 7) (by decide); have thc27 := lv_neT hc27 (a := 8) (by decide); omega) (by decide) ?_
                      refine vi_ldc (v := (-100002)) C dX7_sailorOf_157 tkX7_54 ?_
                      exact vi_donei (W := wX q0 qs qo qt qv qr qx ql ad qh cI cF cC cS cO) RET h dX7_sailorOf_159
  · have h := ob_t h hc3
    refine vi_ldc (v := (-100001)) C dX7_sailorOf_11 tkX7_77 ?_
    exact vi_donei (W := wX q0 qs qo qt qv qr qx ql ad qh cI cF cC cS cO) RET h dX7_sailorOf_13
theorem mX7_sailorOf {ad adK adV : Nat → Nat} {tS tF : Nat} {tX sK sV : Nat → Nat} (hE : vEok (vE ad adK adV tS tF tX sK sV)) {l : Launch} {D : va_G} {cI cF cC cS cO cB cZ : ClassId} {q0 qs qo qt qv qr qx ql : Nat → Nat} {qh : Nat → Nat → Nat} {r0 : Int32} {u0 : vZ}  {x1 : Int32} {x2 : Int32} {u : vZ} (h : fX7_sailorOf x1 x2 u = some (r0, u0)) : vM (vE ad adK adV tS tF tX sK sV) l yX7_sailorOf cX7_sailorOf 3 (some .int) 5 111 D (vT7 cI cF cC cS cO cB cZ) [.ref (q0 0), .int x1, .int x2] (wX q0 qs qo qt qv qr qx ql ad qh cI cF cC cS cO u) (vQi D (wX q0 qs qo qt qv qr qx ql ad qh cI cF cC cS cO u0) r0) :=
  vM_of hE (by decide +kernel) (Nat.le_of_ble_eq_true rfl) (fun p e s m args below meth c A C hr => kX7_sailorOf_e C (vi_reti C hr) h)
-- ---- X7_watchOf
def fX7_watchOf (x1 : Int32) (x2 : Int32) (u : vZ) : Option (Int32 × vZ) := (fX5_isWatch x1).bind fun y1 => (if y1 = 0 then some ((-100001 : Int32), u) else (if x2 = 0 then if x1 < 0 ∨ 4 ≤ Int32.toNatClampNeg x1 then none else some (u.2.1.1.1 4 (Int32.toNatClampNeg x1), u) else (if x2 = 1 then obp (fX5_sailorsIn x1 u.2.1.1) fun y6 u5b => bd ((u.1, ((u5b, u.2.1.2), u.2.2))) fun u5 => some (y6, u5) else (if x2 = 2 then obp (fX5_watchCheer x1 u.2.1.1) fun y9 u8b => bd ((u.1, ((u8b, u.2.1.2), u.2.2))) fun u8 => some (y9, u8) else (if x2 = 3 then obp (fX5_watchDread x1 u.2.1.1) fun y12 u11b => bd ((u.1, ((u11b, u.2.1.2), u.2.2))) fun u11 => some (y12, u11) else some ((-100002 : Int32), u))))))
set_option maxRecDepth 100000 in
set_option maxHeartbeats 4000000 in
theorem kX7_watchOf_e {ad adK adV : Nat → Nat} {tS tF : Nat} {tX sK sV : Nat → Nat} {p : Program} {l : Launch} {e : Env} {s : State} {m : MethodId} {args : Array Value} {below : List Frame} {meth : Method} {c : Code} {A : Nat → Prop} {D : va_G} {cI cF cC cS cO cB cZ : ClassId} {Q : State → Prop} {q0 qs qo qt qv qr qx ql : Nat → Nat} {qh : Nat → Nat → Nat} (C : vC (vE ad adK adV tS tF tX sK sV) p l s m args meth c A D (vT7 cI cF cC cS cO cB cZ) cX7_watchOf 3 RX7) {r0 : Int32} {u0 : vZ} (RET : ∀ (pc : Nat) (lv : List (Nat × Value)), decode cX7_watchOf pc = .ok (.ireturn, 1) → vV p l e { frames := 3, cells := 0, slots := 0, locals := 63 } s m args below meth c A D 3 0 0 Q (wX q0 qs qo qt qv qr qx ql ad qh cI cF cC cS cO u0) pc lv [.int r0]) {x1 : Int32} {x2 : Int32} {u : vZ} (h : fX7_watchOf x1 x2 u = some (r0, u0)) : vV p l e { frames := 3, cells := 0, slots := 0, locals := 63 } s m args below meth c A D 3 0 0 Q (wX q0 qs qo qt qv qr qx ql ad qh cI cF cC cS cO u) 0 [(0, .ref (q0 0)), (1, .int x1), (2, .int x2)] [] := by
  rw [fX7_watchOf] at h
  refine vi_iload_n C 1 dX7_watchOf_0 rfl ?_
  obtain ⟨y1, hgy1, h⟩ := ob_bd h
  refine vi_callS0i (As := [.int x1]) (rest := []) C (mX5_isWatch C.2.2.2.2.2.2.2.2.1 hgy1) 1 rfl tcX5_isWatch tlX7_97 ttX5_isWatch tnX5 tdX5_isWatch ⟨Nat.le_of_ble_eq_true rfl, Nat.le_of_ble_eq_true rfl⟩ rfl (Nat.le_of_ble_eq_true rfl) dX7_watchOf_1 ?_
  refine vi_if_ne (tgt := 10) C dX7_watchOf_4 (by decide) (fun hc2 => ?_) (fun hc2 => ?_)
  · have h := ob_f h hc2
    refine vi_iload_n C 2 dX7_watchOf_10 rfl ?_
    by_cases hc4 : x2 = 0
    · have h := ob_t h hc4
      refine vi_tswIn (off := 29) (tgt := 40) C dX7_watchOf_11 (by rw [hc4]; decide) (by rw [hc4]; decide) (by rw [hc4]; rfl) (by decide) ?_
      refine vi_aload_n C 0 dX7_watchOf_40 rfl ?_
      refine gM_X7_0_0 C dX7_watchOf_41 ?_
      refine gM_X7_1_4 C dX7_watchOf_44 ?_
      refine vi_iload_n C 1 dX7_watchOf_47 rfl ?_
      obtain ⟨hz3, h⟩ := ob_if h
      refine lM_X7_5 (n := (Int32.toNatClampNeg x1)) C hz3 rfl dX7_watchOf_48 ?_
      exact vi_donei (W := wX q0 qs qo qt qv qr qx ql ad qh cI cF cC cS cO) RET h dX7_watchOf_49
    · replace h := ob_f h hc4
      by_cases hc7 : x2 = 1
      · have h := ob_t h hc7
        refine vi_tswIn (off := 39) (tgt := 50) C dX7_watchOf_11 (by rw [hc7]; decide) (by rw [hc7]; decide) (by rw [hc7]; rfl) (by decide) ?_
        refine vi_aload_n C 0 dX7_watchOf_50 rfl ?_
        refine gM_X7_0_0 C dX7_watchOf_51 ?_
        refine vi_iload_n C 1 dX7_watchOf_54 rfl ?_
        obtain ⟨y6, u5b, hgu5, h⟩ := ob_p h
        obtain ⟨u5, eu5, h⟩ := ob_nm h
        refine cM_ship_i (As := [.int x1]) (rest := []) C (mX5_sailorsIn C.2.2.2.2.2.2.2.2.1 hgu5) 1 rfl tcX5_sailorsIn tlX7_157 tiX5_sailorsIn tsX5_sailorsIn rfl tnX5 tdX5_sailorsIn ⟨Nat.le_of_ble_eq_true rfl, Nat.le_of_ble_eq_true rfl⟩ eu5 rfl (Nat.le_of_ble_eq_true rfl) dX7_watchOf_55 ?_
        exact vi_donei (W := wX q0 qs qo qt qv qr qx ql ad qh cI cF cC cS cO) RET h dX7_watchOf_58
      · replace h := ob_f h hc7
        by_cases hc10 : x2 = 2
        · have h := ob_t h hc10
          refine vi_tswIn (off := 48) (tgt := 59) C dX7_watchOf_11 (by rw [hc10]; decide) (by rw [hc10]; decide) (by rw [hc10]; rfl) (by decide) ?_
          refine vi_aload_n C 0 dX7_watchOf_59 rfl ?_
          refine gM_X7_0_0 C dX7_watchOf_60 ?_
          refine vi_iload_n C 1 dX7_watchOf_63 rfl ?_
          obtain ⟨y9, u8b, hgu8, h⟩ := ob_p h
          obtain ⟨u8, eu8, h⟩ := ob_nm h
          refine cM_ship_i (As := [.int x1]) (rest := []) C (mX5_watchCheer C.2.2.2.2.2.2.2.2.1 hgu8) 1 rfl tcX5_watchCheer tlX7_160 tiX5_watchCheer tsX5_watchCheer rfl tnX5 tdX5_watchCheer ⟨Nat.le_of_ble_eq_true rfl, Nat.le_of_ble_eq_true rfl⟩ eu8 rfl (Nat.le_of_ble_eq_true rfl) dX7_watchOf_64 ?_
          exact vi_donei (W := wX q0 qs qo qt qv qr qx ql ad qh cI cF cC cS cO) RET h dX7_watchOf_67
        · replace h := ob_f h hc10
          by_cases hc13 : x2 = 3
          · have h := ob_t h hc13
            refine vi_tswIn (off := 57) (tgt := 68) C dX7_watchOf_11 (by rw [hc13]; decide) (by rw [hc13]; decide) (by rw [hc13]; rfl) (by decide) ?_
            refine vi_aload_n C 0 dX7_watchOf_68 rfl ?_
            refine gM_X7_0_0 C dX7_watchOf_69 ?_
            refine vi_iload_n C 1 dX7_watchOf_72 rfl ?_
            obtain ⟨y12, u11b, hgu11, h⟩ := ob_p h
            obtain ⟨u11, eu11, h⟩ := ob_nm h
            refine cM_ship_i (As := [.int x1]) (rest := []) C (mX5_watchDread C.2.2.2.2.2.2.2.2.1 hgu11) 1 rfl tcX5_watchDread tlX7_163 tiX5_watchDread tsX5_watchDread rfl tnX5 tdX5_watchDread ⟨Nat.le_of_ble_eq_true rfl, Nat.le_of_ble_eq_true rfl⟩ eu11 rfl (Nat.le_of_ble_eq_true rfl) dX7_watchOf_73 ?_
            exact vi_donei (W := wX q0 qs qo qt qv qr qx ql ad qh cI cF cC cS cO) RET h dX7_watchOf_76
          · replace h := ob_f h hc13
            refine vi_tswOut (tgt := 77) C dX7_watchOf_11 (by have thc4 := lv_neT hc4 (a := 0) (by decide); have thc7 := lv_neT hc7 (a := 1) (by decide); have thc10 := lv_neT hc10 (a := 2) (by decide); have thc13 := lv_neT hc13 (a := 3) (by decide); omega) (by decide) ?_
            refine vi_ldc (v := (-100002)) C dX7_watchOf_77 tkX7_54 ?_
            exact vi_donei (W := wX q0 qs qo qt qv qr qx ql ad qh cI cF cC cS cO) RET h dX7_watchOf_79
  · have h := ob_t h hc2
    refine vi_ldc (v := (-100001)) C dX7_watchOf_7 tkX7_77 ?_
    exact vi_donei (W := wX q0 qs qo qt qv qr qx ql ad qh cI cF cC cS cO) RET h dX7_watchOf_9
theorem mX7_watchOf {ad adK adV : Nat → Nat} {tS tF : Nat} {tX sK sV : Nat → Nat} (hE : vEok (vE ad adK adV tS tF tX sK sV)) {l : Launch} {D : va_G} {cI cF cC cS cO cB cZ : ClassId} {q0 qs qo qt qv qr qx ql : Nat → Nat} {qh : Nat → Nat → Nat} {r0 : Int32} {u0 : vZ}  {x1 : Int32} {x2 : Int32} {u : vZ} (h : fX7_watchOf x1 x2 u = some (r0, u0)) : vM (vE ad adK adV tS tF tX sK sV) l yX7_watchOf cX7_watchOf 3 (some .int) 3 63 D (vT7 cI cF cC cS cO cB cZ) [.ref (q0 0), .int x1, .int x2] (wX q0 qs qo qt qv qr qx ql ad qh cI cF cC cS cO u) (vQi D (wX q0 qs qo qt qv qr qx ql ad qh cI cF cC cS cO u0) r0) :=
  vM_of hE (by decide +kernel) (Nat.le_of_ble_eq_true rfl) (fun p e s m args below meth c A C hr => kX7_watchOf_e C (vi_reti C hr) h)
-- ---- X7_bitsOf
def fX7_bitsOf_68 (x1 : UInt32) (x2 : UInt32) (x3 : Int32) : Option (Int32) := if (FP.fsub x2 (FP.fconst1)) &&& 0x7fffffff ≤ 0x7f800000 then if (FP.fmul (FP.fsub x2 (FP.fconst1)) (1258291200 : UInt32)) &&& 0x7fffffff ≤ 0x7f800000 then bd (((x3 <<< ((23 : Int32) &&& 31)) ||| (FP.f2i (FP.fmul (FP.fsub x2 (FP.fconst1)) (1258291200 : UInt32))) : Int32)) fun y3 => (if 0 ≤ Op.cmpValue (FP.fcmp x1 (FP.fconst0)) CmpOp.g then some y3 else some (y3 ||| (-2147483648 : Int32))) else none else none
set_option maxRecDepth 100000 in
set_option maxHeartbeats 4000000 in
theorem kX7_bitsOf_68 {E : (Nat → Prop) → State → Heap → Prop} {p : Program} {l : Launch} {e : Env} {s : State} {m : MethodId} {args : Array Value} {below : List Frame} {meth : Method} {c : Code} {A : Nat → Prop} {D : va_G} {cI cF cC cS cO cB cZ : ClassId} {Q : State → Prop} (C : vC E p l s m args meth c A D (vT7 cI cF cC cS cO cB cZ) cX7_bitsOf 4 RX7) {r0 : Int32} (RET : ∀ (pc : Nat) (lv : List (Nat × Value)), decode cX7_bitsOf pc = .ok (.ireturn, 1) → vV p l e { frames := 0, cells := 0, slots := 0, locals := 0 } s m args below meth c A D 4 0 0 Q [] pc lv [.int r0]) : ∀ (x1 : UInt32) (x2 : UInt32) (x3 : Int32), fX7_bitsOf_68 x1 x2 x3 = some r0 → vV p l e { frames := 0, cells := 0, slots := 0, locals := 0 } s m args below meth c A D 4 0 0 Q [] 68 [(0, .float x1), (1, .float x2), (2, .int x3)] [] := by
  intro x1 x2 x3 h
  rw [fX7_bitsOf_68] at h
  refine vi_iload_n C 2 dX7_bitsOf_68 rfl ?_
  refine vi_bipush (v := 23) C dX7_bitsOf_69 (by decide) ?_
  refine vi_ishl C dX7_bitsOf_71 ?_
  refine vi_fload_n C 1 dX7_bitsOf_72 rfl ?_
  refine vi_fconst1 C dX7_bitsOf_73 ?_
  obtain ⟨hz1, h⟩ := ob_ok h
  refine vi_fsub C dX7_bitsOf_74 hz1 ?_
  refine vi_ldcwf (v := 1258291200) C dX7_bitsOf_75 tkX7_358 ?_
  obtain ⟨hz2, h⟩ := ob_ok h
  refine vi_fmul C dX7_bitsOf_78 hz2 ?_
  refine vi_f2i C dX7_bitsOf_79 ?_
  refine vi_ior C dX7_bitsOf_80 ?_
  obtain ⟨y3, ey3, h⟩ := ob_nm h
  refine vi_nmi ey3 ?_
  refine vi_istore_n (lv' := [(3, .int y3), (0, .float x1), (1, .float x2), (2, .int x3)]) C dX7_bitsOf_81 rfl (by decide) rfl ?_
  refine vi_fload_n C 1 dX7_bitsOf_82 rfl ?_
  refine vi_fconst0 C dX7_bitsOf_83 ?_
  refine vi_fcmp C dX7_bitsOf_84 ?_
  refine vi_if_ge (tgt := 96) C dX7_bitsOf_85 (by decide) (fun hc4 => ?_) (fun hc4 => ?_)
  · have h := ob_t h hc4
    refine vi_iload_n C 0 dX7_bitsOf_96 rfl ?_
    exact vi_donei0  RET h dX7_bitsOf_97
  · have h := ob_f h hc4
    refine vi_iload_n C 0 dX7_bitsOf_88 rfl ?_
    refine vi_ldcw (v := (-2147483648)) C dX7_bitsOf_89 tkX7_359 ?_
    refine vi_ior C dX7_bitsOf_92 ?_
    refine vi_goto (tgt := 97) C dX7_bitsOf_93 (by decide) ?_
    exact vi_donei0  RET h dX7_bitsOf_97
def fX7_bitsOf_47 : Nat → UInt32 → UInt32 → Int32 → Option (Int32)
  | 0, _, _, _ => none
  | n + 1, x1, x2, x3 => (if 0 ≤ Op.cmpValue (FP.fcmp x2 (FP.fconst1)) CmpOp.g then fX7_bitsOf_68 x1 x2 x3 else (if x3 ≤ (1 : Int32) then fX7_bitsOf_68 x1 x2 x3 else if (FP.fmul x2 (FP.fconst2)) &&& 0x7fffffff ≤ 0x7f800000 then bd ((FP.fmul x2 (FP.fconst2) : UInt32)) fun y4 => bd ((x3 + (-1) : Int32)) fun y5 => fX7_bitsOf_47 n x1 y4 y5 else none))
set_option maxRecDepth 100000 in
set_option maxHeartbeats 4000000 in
theorem kX7_bitsOf_47 {E : (Nat → Prop) → State → Heap → Prop} {p : Program} {l : Launch} {e : Env} {s : State} {m : MethodId} {args : Array Value} {below : List Frame} {meth : Method} {c : Code} {A : Nat → Prop} {D : va_G} {cI cF cC cS cO cB cZ : ClassId} {Q : State → Prop} (C : vC E p l s m args meth c A D (vT7 cI cF cC cS cO cB cZ) cX7_bitsOf 4 RX7) {r0 : Int32} (RET : ∀ (pc : Nat) (lv : List (Nat × Value)), decode cX7_bitsOf pc = .ok (.ireturn, 1) → vV p l e { frames := 0, cells := 0, slots := 0, locals := 0 } s m args below meth c A D 4 0 0 Q [] pc lv [.int r0]) : ∀ (n : Nat) (x1 : UInt32) (x2 : UInt32) (x3 : Int32), fX7_bitsOf_47 n x1 x2 x3 = some r0 → vV p l e { frames := 0, cells := 0, slots := 0, locals := 0 } s m args below meth c A D 4 0 0 Q [] 47 [(0, .float x1), (1, .float x2), (2, .int x3)] [] := by
  intro n
  induction n with
  | zero => intro x1 x2 x3 h; rw [fX7_bitsOf_47] at h; cases h
  | succ n ih =>
    intro x1 x2 x3 h
    rw [fX7_bitsOf_47] at h
    refine vi_fload_n C 1 dX7_bitsOf_47 rfl ?_
    refine vi_fconst1 C dX7_bitsOf_48 ?_
    refine vi_fcmp C dX7_bitsOf_49 ?_
    refine vi_if_ge (tgt := 68) C dX7_bitsOf_50 (by decide) (fun hc1 => ?_) (fun hc1 => ?_)
    · have h := ob_t h hc1
      refine vi_sub C [0, 1, 2] rfl ?_
      exact kX7_bitsOf_68 C RET   _ _ _ h
    · have h := ob_f h hc1
      refine vi_iload_n C 2 dX7_bitsOf_53 rfl ?_
      refine vi_iconst (v := 1) C dX7_bitsOf_54 (by decide) ?_
      refine vi_icmp_le (tgt := 68) C dX7_bitsOf_55 (by decide) (fun hc2 => ?_) (fun hc2 => ?_)
      · have h := ob_t h hc2
        refine vi_sub C [0, 1, 2] rfl ?_
        exact kX7_bitsOf_68 C RET   _ _ _ h
      · have h := ob_f h hc2
        refine vi_fload_n C 1 dX7_bitsOf_58 rfl ?_
        refine vi_fconst2 C dX7_bitsOf_59 ?_
        obtain ⟨hz3, h⟩ := ob_ok h
        refine vi_fmul C dX7_bitsOf_60 hz3 ?_
        obtain ⟨y4, ey4, h⟩ := ob_nm h
        refine vi_nmf ey4 ?_
        refine vi_fstore_n (lv' := [(1, .float y4), (0, .float x1), (2, .int x3)]) C dX7_bitsOf_61 rfl (by decide) rfl ?_
        obtain ⟨y5, ey5, h⟩ := ob_nm h
        refine vi_iinc (v := y5) (lv' := [(2, .int y5), (1, .float y4), (0, .float x1)]) C 2 dX7_bitsOf_62 rfl (by rw [ey5]; rfl) (by decide) rfl ?_
        refine vi_goto (tgt := 47) C dX7_bitsOf_65 (by decide) ?_
        refine vi_sub C [2, 1, 0] rfl ?_
        exact ih _ _ _ h
def fX7_bitsOf_24 : Nat → UInt32 → UInt32 → Int32 → Option (Int32)
  | 0, _, _, _ => none
  | n + 1, x1, x2, x3 => (if Op.cmpValue (FP.fcmp x2 (FP.fconst2)) CmpOp.l < 0 then fX7_bitsOf_47 vF x1 x2 x3 else (if (254 : Int32) ≤ x3 then fX7_bitsOf_47 vF x1 x2 x3 else if (FP.fdiv x2 (FP.fconst2)) &&& 0x7fffffff ≤ 0x7f800000 then bd ((FP.fdiv x2 (FP.fconst2) : UInt32)) fun y4 => bd ((x3 + 1 : Int32)) fun y5 => fX7_bitsOf_24 n x1 y4 y5 else none))
set_option maxRecDepth 100000 in
set_option maxHeartbeats 4000000 in
theorem kX7_bitsOf_24 {E : (Nat → Prop) → State → Heap → Prop} {p : Program} {l : Launch} {e : Env} {s : State} {m : MethodId} {args : Array Value} {below : List Frame} {meth : Method} {c : Code} {A : Nat → Prop} {D : va_G} {cI cF cC cS cO cB cZ : ClassId} {Q : State → Prop} (C : vC E p l s m args meth c A D (vT7 cI cF cC cS cO cB cZ) cX7_bitsOf 4 RX7) {r0 : Int32} (RET : ∀ (pc : Nat) (lv : List (Nat × Value)), decode cX7_bitsOf pc = .ok (.ireturn, 1) → vV p l e { frames := 0, cells := 0, slots := 0, locals := 0 } s m args below meth c A D 4 0 0 Q [] pc lv [.int r0]) : ∀ (n : Nat) (x1 : UInt32) (x2 : UInt32) (x3 : Int32), fX7_bitsOf_24 n x1 x2 x3 = some r0 → vV p l e { frames := 0, cells := 0, slots := 0, locals := 0 } s m args below meth c A D 4 0 0 Q [] 24 [(0, .float x1), (1, .float x2), (2, .int x3)] [] := by
  intro n
  induction n with
  | zero => intro x1 x2 x3 h; rw [fX7_bitsOf_24] at h; cases h
  | succ n ih =>
    intro x1 x2 x3 h
    rw [fX7_bitsOf_24] at h
    refine vi_fload_n C 1 dX7_bitsOf_24 rfl ?_
    refine vi_fconst2 C dX7_bitsOf_25 ?_
    refine vi_fcmp C dX7_bitsOf_26 ?_
    refine vi_if_lt (tgt := 47) C dX7_bitsOf_27 (by decide) (fun hc1 => ?_) (fun hc1 => ?_)
    · have h := ob_t h hc1
      refine vi_sub C [0, 1, 2] rfl ?_
      exact kX7_bitsOf_47 C RET  vF _ _ _ h
    · have h := ob_f h hc1
      refine vi_iload_n C 2 dX7_bitsOf_30 rfl ?_
      refine vi_sipush (v := 254) C dX7_bitsOf_31 (by decide) ?_
      refine vi_icmp_ge (tgt := 47) C dX7_bitsOf_34 (by decide) (fun hc2 => ?_) (fun hc2 => ?_)
      · have h := ob_t h hc2
        refine vi_sub C [0, 1, 2] rfl ?_
        exact kX7_bitsOf_47 C RET  vF _ _ _ h
      · have h := ob_f h hc2
        refine vi_fload_n C 1 dX7_bitsOf_37 rfl ?_
        refine vi_fconst2 C dX7_bitsOf_38 ?_
        obtain ⟨hz3, h⟩ := ob_ok h
        refine vi_fdiv C dX7_bitsOf_39 hz3 ?_
        obtain ⟨y4, ey4, h⟩ := ob_nm h
        refine vi_nmf ey4 ?_
        refine vi_fstore_n (lv' := [(1, .float y4), (0, .float x1), (2, .int x3)]) C dX7_bitsOf_40 rfl (by decide) rfl ?_
        obtain ⟨y5, ey5, h⟩ := ob_nm h
        refine vi_iinc (v := y5) (lv' := [(2, .int y5), (1, .float y4), (0, .float x1)]) C 2 dX7_bitsOf_41 rfl (by rw [ey5]; rfl) (by decide) rfl ?_
        refine vi_goto (tgt := 24) C dX7_bitsOf_44 (by decide) ?_
        refine vi_sub C [2, 1, 0] rfl ?_
        exact ih _ _ _ h
def fX7_bitsOf (x1 : UInt32) : Option (Int32) := (if Op.cmpValue (FP.fcmp x1 (FP.fconst0)) CmpOp.l = 0 then some (0 : Int32) else (if 0 ≤ Op.cmpValue (FP.fcmp x1 (FP.fconst0)) CmpOp.g then fX7_bitsOf_24 vF x1 x1 (127 : Int32) else bd ((FP.fneg x1 : UInt32)) fun y3 => fX7_bitsOf_24 vF x1 y3 (127 : Int32)))
set_option maxRecDepth 100000 in
set_option maxHeartbeats 4000000 in
theorem kX7_bitsOf_e {E : (Nat → Prop) → State → Heap → Prop} {p : Program} {l : Launch} {e : Env} {s : State} {m : MethodId} {args : Array Value} {below : List Frame} {meth : Method} {c : Code} {A : Nat → Prop} {D : va_G} {cI cF cC cS cO cB cZ : ClassId} {Q : State → Prop} (C : vC E p l s m args meth c A D (vT7 cI cF cC cS cO cB cZ) cX7_bitsOf 4 RX7) {r0 : Int32} (RET : ∀ (pc : Nat) (lv : List (Nat × Value)), decode cX7_bitsOf pc = .ok (.ireturn, 1) → vV p l e { frames := 0, cells := 0, slots := 0, locals := 0 } s m args below meth c A D 4 0 0 Q [] pc lv [.int r0]) {x1 : UInt32} (h : fX7_bitsOf x1 = some r0) : vV p l e { frames := 0, cells := 0, slots := 0, locals := 0 } s m args below meth c A D 4 0 0 Q [] 0 [(0, .float x1)] [] := by
  rw [fX7_bitsOf] at h
  refine vi_fload_n C 0 dX7_bitsOf_0 rfl ?_
  refine vi_fconst0 C dX7_bitsOf_1 ?_
  refine vi_fcmp C dX7_bitsOf_2 ?_
  refine vi_if_ne (tgt := 8) C dX7_bitsOf_3 (by decide) (fun hc1 => ?_) (fun hc1 => ?_)
  · have h := ob_f h hc1
    refine vi_fload_n C 0 dX7_bitsOf_8 rfl ?_
    refine vi_fconst0 C dX7_bitsOf_9 ?_
    refine vi_fcmp C dX7_bitsOf_10 ?_
    refine vi_if_ge (tgt := 19) C dX7_bitsOf_11 (by decide) (fun hc2 => ?_) (fun hc2 => ?_)
    · have h := ob_t h hc2
      refine vi_fload_n C 0 dX7_bitsOf_19 rfl ?_
      refine vi_fstore_n (lv' := [(1, .float x1), (0, .float x1)]) C dX7_bitsOf_20 rfl (by decide) rfl ?_
      refine vi_bipush (v := 127) C dX7_bitsOf_21 (by decide) ?_
      refine vi_istore_n (lv' := [(2, .int (127 : Int32)), (1, .float x1), (0, .float x1)]) C dX7_bitsOf_23 rfl (by decide) rfl ?_
      refine vi_sub C [2, 1, 0] rfl ?_
      exact kX7_bitsOf_24 C RET  vF _ _ _ h
    · have h := ob_f h hc2
      refine vi_fload_n C 0 dX7_bitsOf_14 rfl ?_
      refine vi_fneg C dX7_bitsOf_15 ?_
      refine vi_goto (tgt := 20) C dX7_bitsOf_16 (by decide) ?_
      obtain ⟨y3, ey3, h⟩ := ob_nm h
      refine vi_nmf ey3 ?_
      refine vi_fstore_n (lv' := [(1, .float y3), (0, .float x1)]) C dX7_bitsOf_20 rfl (by decide) rfl ?_
      refine vi_bipush (v := 127) C dX7_bitsOf_21 (by decide) ?_
      refine vi_istore_n (lv' := [(2, .int (127 : Int32)), (1, .float y3), (0, .float x1)]) C dX7_bitsOf_23 rfl (by decide) rfl ?_
      refine vi_sub C [2, 1, 0] rfl ?_
      exact kX7_bitsOf_24 C RET  vF _ _ _ h
  · have h := ob_t h hc1
    refine vi_iconst (v := 0) C dX7_bitsOf_6 (by decide) ?_
    exact vi_donei0  RET h dX7_bitsOf_7
theorem mX7_bitsOf {E : (Nat → Prop) → State → Heap → Prop} (hE : vEok E) {l : Launch} {D : va_G} {cI cF cC cS cO cB cZ : ClassId} {r0 : Int32}  {x1 : UInt32} (h : fX7_bitsOf x1 = some r0) : vM E l yX7_bitsOf cX7_bitsOf 4 (some .int) 0 0 D (vT7 cI cF cC cS cO cB cZ) [.float x1] [] (vQi D [] r0) :=
  vM_of hE (by decide +kernel) (Nat.le_of_ble_eq_true rfl) (fun p e s m args below meth c A C hr => kX7_bitsOf_e C (vi_reti C hr) h)
