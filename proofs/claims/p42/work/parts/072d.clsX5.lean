-- ---- X5_watchDread
def fX5_watchDread_4 : Nat → Int32 → Int32 → Int32 → vH → Option (Int32 × vH)
  | 0, _, _, _, _ => none
  | n + 1, x1, x2, x3, u => (if u.1 0 0 ≤ x3 then some (x2, u) else if x3 < 0 ∨ 8 ≤ Int32.toNatClampNeg x3 then none else (if u.1 3 (Int32.toNatClampNeg x3) = x1 then if x3 < 0 ∨ 8 ≤ Int32.toNatClampNeg x3 then none else (fX5_dreadIn (u.1 1 (Int32.toNatClampNeg x3))).bind fun y6 => bd ((x2 + y6 : Int32)) fun y7 => bd ((x3 + 1 : Int32)) fun y8 => fX5_watchDread_4 n x1 y7 y8 u else bd ((x3 + 1 : Int32)) fun y4 => fX5_watchDread_4 n x1 x2 y4 u))
set_option maxRecDepth 100000 in
set_option maxHeartbeats 4000000 in
theorem kX5_watchDread_4 {ad adK adV : Nat → Nat} {tS tF : Nat} {tX sK sV : Nat → Nat} {p : Program} {l : Launch} {e : Env} {s : State} {m : MethodId} {args : Array Value} {below : List Frame} {meth : Method} {c : Code} {A : Nat → Prop} {D : va_G} {cI cF cC cS cO cB cZ : ClassId} {Q : State → Prop} {q : Nat → Nat} (C : vC (vE ad adK adV tS tF tX sK sV) p l s m args meth c A D (vT7 cI cF cC cS cO cB cZ) cX5_watchDread 4 RX5) {r0 : Int32} {u0 : vH} (RET : ∀ (pc : Nat) (lv : List (Nat × Value)), decode cX5_watchDread pc = .ok (.ireturn, 1) → vV p l e { frames := 2, cells := 0, slots := 0, locals := 40 } s m args below meth c A D 4 0 0 Q (wS q cI cF u0) pc lv [.int r0]) : ∀ (n : Nat) (x1 : Int32) (x2 : Int32) (x3 : Int32) (u : vH), fX5_watchDread_4 n x1 x2 x3 u = some (r0, u0) → vV p l e { frames := 2, cells := 0, slots := 0, locals := 40 } s m args below meth c A D 4 0 0 Q (wS q cI cF u) 4 [(0, .ref (q 0)), (1, .int x1), (2, .int x2), (3, .int x3)] [] := by
  intro n
  induction n with
  | zero => intro x1 x2 x3 u h; rw [fX5_watchDread_4] at h; cases h
  | succ n ih =>
    intro x1 x2 x3 u h
    rw [fX5_watchDread_4] at h
    refine vi_iload_n C 3 dX5_watchDread_4 rfl ?_
    refine vi_aload_n C 0 dX5_watchDread_5 rfl ?_
    refine gS_X5_0_0 C dX5_watchDread_6 ?_
    refine vi_icmp_ge (tgt := 40) C dX5_watchDread_9 (by decide) (fun hc1 => ?_) (fun hc1 => ?_)
    · have h := ob_t h hc1
      refine vi_iload_n C 2 dX5_watchDread_40 rfl ?_
      exact vi_donei (W := wS q cI cF) RET h dX5_watchDread_41
    · have h := ob_f h hc1
      refine vi_aload_n C 0 dX5_watchDread_12 rfl ?_
      refine gS_X5_0_3 C dX5_watchDread_13 ?_
      refine vi_iload_n C 3 dX5_watchDread_16 rfl ?_
      obtain ⟨hz2, h⟩ := ob_if h
      refine lS_X5_3 (n := (Int32.toNatClampNeg x3)) C hz2 rfl dX5_watchDread_17 ?_
      refine vi_iload_n C 1 dX5_watchDread_18 rfl ?_
      refine vi_icmp_ne (tgt := 34) C dX5_watchDread_19 (by decide) (fun hc3 => ?_) (fun hc3 => ?_)
      · have h := ob_f h hc3
        obtain ⟨y4, ey4, h⟩ := ob_nm h
        refine vi_iinc (v := y4) (lv' := [(3, .int y4), (0, .ref (q 0)), (1, .int x1), (2, .int x2)]) C 3 dX5_watchDread_34 rfl (by rw [ey4]; rfl) (by decide) rfl ?_
        refine vi_goto (tgt := 4) C dX5_watchDread_37 (by decide) ?_
        refine vi_sub C [1, 2, 3, 0] rfl ?_
        exact ih _ _ _ _ h
      · have h := ob_t h hc3
        refine vi_iload_n C 2 dX5_watchDread_22 rfl ?_
        refine vi_aload_n C 0 dX5_watchDread_23 rfl ?_
        refine gS_X5_0_1 C dX5_watchDread_24 ?_
        refine vi_iload_n C 3 dX5_watchDread_27 rfl ?_
        obtain ⟨hz5, h⟩ := ob_if h
        refine lS_X5_1 (n := (Int32.toNatClampNeg x3)) C hz5 rfl dX5_watchDread_28 ?_
        obtain ⟨y6, hgy6, h⟩ := ob_bd h
        refine vi_callS0i (As := [.int (u.1 1 (Int32.toNatClampNeg x3))]) (rest := [.int x2]) C (mX5_dreadIn C.2.2.2.2.2.2.2.2.1 hgy6) 1 rfl tcX5_dreadIn tlX5_151 ttX5_dreadIn tnX5 tdX5_dreadIn ⟨Nat.le_of_ble_eq_true rfl, Nat.le_of_ble_eq_true rfl⟩ rfl (Nat.le_of_ble_eq_true rfl) dX5_watchDread_29 ?_
        refine vi_iadd C dX5_watchDread_32 ?_
        obtain ⟨y7, ey7, h⟩ := ob_nm h
        refine vi_nmi ey7 ?_
        refine vi_istore_n (lv' := [(2, .int y7), (0, .ref (q 0)), (1, .int x1), (3, .int x3)]) C dX5_watchDread_33 rfl (by decide) rfl ?_
        obtain ⟨y8, ey8, h⟩ := ob_nm h
        refine vi_iinc (v := y8) (lv' := [(3, .int y8), (2, .int y7), (0, .ref (q 0)), (1, .int x1)]) C 3 dX5_watchDread_34 rfl (by rw [ey8]; rfl) (by decide) rfl ?_
        refine vi_goto (tgt := 4) C dX5_watchDread_37 (by decide) ?_
        refine vi_sub C [2, 3, 1, 0] rfl ?_
        exact ih _ _ _ _ h
def fX5_watchDread (x1 : Int32) (u : vH) : Option (Int32 × vH) := fX5_watchDread_4 vF x1 (0 : Int32) (0 : Int32) u
set_option maxRecDepth 100000 in
set_option maxHeartbeats 4000000 in
theorem kX5_watchDread_e {ad adK adV : Nat → Nat} {tS tF : Nat} {tX sK sV : Nat → Nat} {p : Program} {l : Launch} {e : Env} {s : State} {m : MethodId} {args : Array Value} {below : List Frame} {meth : Method} {c : Code} {A : Nat → Prop} {D : va_G} {cI cF cC cS cO cB cZ : ClassId} {Q : State → Prop} {q : Nat → Nat} (C : vC (vE ad adK adV tS tF tX sK sV) p l s m args meth c A D (vT7 cI cF cC cS cO cB cZ) cX5_watchDread 4 RX5) {r0 : Int32} {u0 : vH} (RET : ∀ (pc : Nat) (lv : List (Nat × Value)), decode cX5_watchDread pc = .ok (.ireturn, 1) → vV p l e { frames := 2, cells := 0, slots := 0, locals := 40 } s m args below meth c A D 4 0 0 Q (wS q cI cF u0) pc lv [.int r0]) {x1 : Int32} {u : vH} (h : fX5_watchDread x1 u = some (r0, u0)) : vV p l e { frames := 2, cells := 0, slots := 0, locals := 40 } s m args below meth c A D 4 0 0 Q (wS q cI cF u) 0 [(0, .ref (q 0)), (1, .int x1)] [] := by
  rw [fX5_watchDread] at h
  refine vi_iconst (v := 0) C dX5_watchDread_0 (by decide) ?_
  refine vi_istore_n (lv' := [(2, .int (0 : Int32)), (0, .ref (q 0)), (1, .int x1)]) C dX5_watchDread_1 rfl (by decide) rfl ?_
  refine vi_iconst (v := 0) C dX5_watchDread_2 (by decide) ?_
  refine vi_istore_n (lv' := [(3, .int (0 : Int32)), (2, .int (0 : Int32)), (0, .ref (q 0)), (1, .int x1)]) C dX5_watchDread_3 rfl (by decide) rfl ?_
  refine vi_sub C [2, 3, 1, 0] rfl ?_
  exact kX5_watchDread_4 C RET  vF _ _ _ _ h
theorem mX5_watchDread {ad adK adV : Nat → Nat} {tS tF : Nat} {tX sK sV : Nat → Nat} (hE : vEok (vE ad adK adV tS tF tX sK sV)) {l : Launch} {D : va_G} {cI cF cC cS cO cB cZ : ClassId} {q : Nat → Nat} {r0 : Int32} {u0 : vH}  {x1 : Int32} {u : vH} (h : fX5_watchDread x1 u = some (r0, u0)) : vM (vE ad adK adV tS tF tX sK sV) l yX5_watchDread cX5_watchDread 4 (some .int) 2 40 D (vT7 cI cF cC cS cO cB cZ) [.ref (q 0), .int x1] (wS q cI cF u) (vQi D (wS q cI cF u0) r0) :=
  vM_of hE (by decide +kernel) (Nat.le_of_ble_eq_true rfl) (fun p e s m args below meth c A C hr => kX5_watchDread_e C (vi_reti C hr) h)
-- ---- X5_allCups
def fX5_allCups_4 : Nat → Int32 → Int32 → vH → Option (Int32 × vH)
  | 0, _, _, _ => none
  | n + 1, x1, x2, u => (if u.1 0 0 ≤ x2 then some (x1, u) else if x2 < 0 ∨ 8 ≤ Int32.toNatClampNeg x2 then none else bd ((x1 + (u.1 2 (Int32.toNatClampNeg x2)) : Int32)) fun y3 => bd ((x2 + 1 : Int32)) fun y4 => fX5_allCups_4 n y3 y4 u)
set_option maxRecDepth 100000 in
set_option maxHeartbeats 4000000 in
theorem kX5_allCups_4 {ad adK adV : Nat → Nat} {tS tF : Nat} {tX sK sV : Nat → Nat} {p : Program} {l : Launch} {e : Env} {s : State} {m : MethodId} {args : Array Value} {below : List Frame} {meth : Method} {c : Code} {A : Nat → Prop} {D : va_G} {cI cF cC cS cO cB cZ : ClassId} {Q : State → Prop} {q : Nat → Nat} (C : vC (vE ad adK adV tS tF tX sK sV) p l s m args meth c A D (vT7 cI cF cC cS cO cB cZ) cX5_allCups 3 RX5) {r0 : Int32} {u0 : vH} (RET : ∀ (pc : Nat) (lv : List (Nat × Value)), decode cX5_allCups pc = .ok (.ireturn, 1) → vV p l e { frames := 0, cells := 0, slots := 0, locals := 0 } s m args below meth c A D 3 0 0 Q (wS q cI cF u0) pc lv [.int r0]) : ∀ (n : Nat) (x1 : Int32) (x2 : Int32) (u : vH), fX5_allCups_4 n x1 x2 u = some (r0, u0) → vV p l e { frames := 0, cells := 0, slots := 0, locals := 0 } s m args below meth c A D 3 0 0 Q (wS q cI cF u) 4 [(0, .ref (q 0)), (1, .int x1), (2, .int x2)] [] := by
  intro n
  induction n with
  | zero => intro x1 x2 u h; rw [fX5_allCups_4] at h; cases h
  | succ n ih =>
    intro x1 x2 u h
    rw [fX5_allCups_4] at h
    refine vi_iload_n C 2 dX5_allCups_4 rfl ?_
    refine vi_aload_n C 0 dX5_allCups_5 rfl ?_
    refine gS_X5_0_0 C dX5_allCups_6 ?_
    refine vi_icmp_ge (tgt := 27) C dX5_allCups_9 (by decide) (fun hc1 => ?_) (fun hc1 => ?_)
    · have h := ob_t h hc1
      refine vi_iload_n C 1 dX5_allCups_27 rfl ?_
      exact vi_donei (W := wS q cI cF) RET h dX5_allCups_28
    · have h := ob_f h hc1
      refine vi_iload_n C 1 dX5_allCups_12 rfl ?_
      refine vi_aload_n C 0 dX5_allCups_13 rfl ?_
      refine gS_X5_0_2 C dX5_allCups_14 ?_
      refine vi_iload_n C 2 dX5_allCups_17 rfl ?_
      obtain ⟨hz2, h⟩ := ob_if h
      refine lS_X5_2 (n := (Int32.toNatClampNeg x2)) C hz2 rfl dX5_allCups_18 ?_
      refine vi_iadd C dX5_allCups_19 ?_
      obtain ⟨y3, ey3, h⟩ := ob_nm h
      refine vi_nmi ey3 ?_
      refine vi_istore_n (lv' := [(1, .int y3), (0, .ref (q 0)), (2, .int x2)]) C dX5_allCups_20 rfl (by decide) rfl ?_
      obtain ⟨y4, ey4, h⟩ := ob_nm h
      refine vi_iinc (v := y4) (lv' := [(2, .int y4), (1, .int y3), (0, .ref (q 0))]) C 2 dX5_allCups_21 rfl (by rw [ey4]; rfl) (by decide) rfl ?_
      refine vi_goto (tgt := 4) C dX5_allCups_24 (by decide) ?_
      refine vi_sub C [2, 1, 0] rfl ?_
      exact ih _ _ _ h
def fX5_allCups (u : vH) : Option (Int32 × vH) := fX5_allCups_4 vF (0 : Int32) (0 : Int32) u
set_option maxRecDepth 100000 in
set_option maxHeartbeats 4000000 in
theorem kX5_allCups_e {ad adK adV : Nat → Nat} {tS tF : Nat} {tX sK sV : Nat → Nat} {p : Program} {l : Launch} {e : Env} {s : State} {m : MethodId} {args : Array Value} {below : List Frame} {meth : Method} {c : Code} {A : Nat → Prop} {D : va_G} {cI cF cC cS cO cB cZ : ClassId} {Q : State → Prop} {q : Nat → Nat} (C : vC (vE ad adK adV tS tF tX sK sV) p l s m args meth c A D (vT7 cI cF cC cS cO cB cZ) cX5_allCups 3 RX5) {r0 : Int32} {u0 : vH} (RET : ∀ (pc : Nat) (lv : List (Nat × Value)), decode cX5_allCups pc = .ok (.ireturn, 1) → vV p l e { frames := 0, cells := 0, slots := 0, locals := 0 } s m args below meth c A D 3 0 0 Q (wS q cI cF u0) pc lv [.int r0]) {u : vH} (h : fX5_allCups u = some (r0, u0)) : vV p l e { frames := 0, cells := 0, slots := 0, locals := 0 } s m args below meth c A D 3 0 0 Q (wS q cI cF u) 0 [(0, .ref (q 0))] [] := by
  rw [fX5_allCups] at h
  refine vi_iconst (v := 0) C dX5_allCups_0 (by decide) ?_
  refine vi_istore_n (lv' := [(1, .int (0 : Int32)), (0, .ref (q 0))]) C dX5_allCups_1 rfl (by decide) rfl ?_
  refine vi_iconst (v := 0) C dX5_allCups_2 (by decide) ?_
  refine vi_istore_n (lv' := [(2, .int (0 : Int32)), (1, .int (0 : Int32)), (0, .ref (q 0))]) C dX5_allCups_3 rfl (by decide) rfl ?_
  refine vi_sub C [2, 1, 0] rfl ?_
  exact kX5_allCups_4 C RET  vF _ _ _ h
theorem mX5_allCups {ad adK adV : Nat → Nat} {tS tF : Nat} {tX sK sV : Nat → Nat} (hE : vEok (vE ad adK adV tS tF tX sK sV)) {l : Launch} {D : va_G} {cI cF cC cS cO cB cZ : ClassId} {q : Nat → Nat} {r0 : Int32} {u0 : vH}  {u : vH} (h : fX5_allCups u = some (r0, u0)) : vM (vE ad adK adV tS tF tX sK sV) l yX5_allCups cX5_allCups 3 (some .int) 0 0 D (vT7 cI cF cC cS cO cB cZ) [.ref (q 0)] (wS q cI cF u) (vQi D (wS q cI cF u0) r0) :=
  vM_of hE (by decide +kernel) (Nat.le_of_ble_eq_true rfl) (fun p e s m args below meth c A C hr => kX5_allCups_e C (vi_reti C hr) h)
-- ---- X5_allAngles
def fX5_allAngles_4 : Nat → Int32 → Int32 → vH → Option (Int32 × vH)
  | 0, _, _, _ => none
  | n + 1, x1, x2, u => (if u.1 0 0 ≤ x2 then some (x1, u) else obp (fX5_angleAfter x2 (0 : Int32) u) fun y3 u2 => bd ((x1 + y3 : Int32)) fun y4 => bd ((x2 + 1 : Int32)) fun y5 => fX5_allAngles_4 n y4 y5 u2)
set_option maxRecDepth 100000 in
set_option maxHeartbeats 4000000 in
theorem kX5_allAngles_4 {ad adK adV : Nat → Nat} {tS tF : Nat} {tX sK sV : Nat → Nat} {p : Program} {l : Launch} {e : Env} {s : State} {m : MethodId} {args : Array Value} {below : List Frame} {meth : Method} {c : Code} {A : Nat → Prop} {D : va_G} {cI cF cC cS cO cB cZ : ClassId} {Q : State → Prop} {q : Nat → Nat} (C : vC (vE ad adK adV tS tF tX sK sV) p l s m args meth c A D (vT7 cI cF cC cS cO cB cZ) cX5_allAngles 3 RX5) {r0 : Int32} {u0 : vH} (RET : ∀ (pc : Nat) (lv : List (Nat × Value)), decode cX5_allAngles pc = .ok (.ireturn, 1) → vV p l e { frames := 3, cells := 0, slots := 0, locals := 70 } s m args below meth c A D 3 0 0 Q (wS q cI cF u0) pc lv [.int r0]) : ∀ (n : Nat) (x1 : Int32) (x2 : Int32) (u : vH), fX5_allAngles_4 n x1 x2 u = some (r0, u0) → vV p l e { frames := 3, cells := 0, slots := 0, locals := 70 } s m args below meth c A D 3 0 0 Q (wS q cI cF u) 4 [(0, .ref (q 0)), (1, .int x1), (2, .int x2)] [] := by
  intro n
  induction n with
  | zero => intro x1 x2 u h; rw [fX5_allAngles_4] at h; cases h
  | succ n ih =>
    intro x1 x2 u h
    rw [fX5_allAngles_4] at h
    refine vi_iload_n C 2 dX5_allAngles_4 rfl ?_
    refine vi_aload_n C 0 dX5_allAngles_5 rfl ?_
    refine gS_X5_0_0 C dX5_allAngles_6 ?_
    refine vi_icmp_ge (tgt := 27) C dX5_allAngles_9 (by decide) (fun hc1 => ?_) (fun hc1 => ?_)
    · have h := ob_t h hc1
      refine vi_iload_n C 1 dX5_allAngles_27 rfl ?_
      exact vi_donei (W := wS q cI cF) RET h dX5_allAngles_28
    · have h := ob_f h hc1
      refine vi_iload_n C 1 dX5_allAngles_12 rfl ?_
      refine vi_aload_n C 0 dX5_allAngles_13 rfl ?_
      refine vi_iload_n C 2 dX5_allAngles_14 rfl ?_
      refine vi_iconst (v := 0) C dX5_allAngles_15 (by decide) ?_
      obtain ⟨y3, u2, hgu2, h⟩ := ob_p h
      refine cS_X5_i (As := [.int x2, .int (0 : Int32)]) (rest := [.int x1]) C (mX5_angleAfter C.2.2.2.2.2.2.2.2.1 hgu2) 2 rfl tcX5_angleAfter tlX5_154 tiX5_angleAfter tsX5_angleAfter rfl tnX5 tdX5_angleAfter ⟨Nat.le_of_ble_eq_true rfl, Nat.le_of_ble_eq_true rfl⟩ rfl (Nat.le_of_ble_eq_true rfl) dX5_allAngles_16 ?_
      refine vi_iadd C dX5_allAngles_19 ?_
      obtain ⟨y4, ey4, h⟩ := ob_nm h
      refine vi_nmi ey4 ?_
      refine vi_istore_n (lv' := [(1, .int y4), (0, .ref (q 0)), (2, .int x2)]) C dX5_allAngles_20 rfl (by decide) rfl ?_
      obtain ⟨y5, ey5, h⟩ := ob_nm h
      refine vi_iinc (v := y5) (lv' := [(2, .int y5), (1, .int y4), (0, .ref (q 0))]) C 2 dX5_allAngles_21 rfl (by rw [ey5]; rfl) (by decide) rfl ?_
      refine vi_goto (tgt := 4) C dX5_allAngles_24 (by decide) ?_
      refine vi_sub C [2, 1, 0] rfl ?_
      exact ih _ _ _ h
def fX5_allAngles (u : vH) : Option (Int32 × vH) := fX5_allAngles_4 vF (0 : Int32) (0 : Int32) u
set_option maxRecDepth 100000 in
set_option maxHeartbeats 4000000 in
theorem kX5_allAngles_e {ad adK adV : Nat → Nat} {tS tF : Nat} {tX sK sV : Nat → Nat} {p : Program} {l : Launch} {e : Env} {s : State} {m : MethodId} {args : Array Value} {below : List Frame} {meth : Method} {c : Code} {A : Nat → Prop} {D : va_G} {cI cF cC cS cO cB cZ : ClassId} {Q : State → Prop} {q : Nat → Nat} (C : vC (vE ad adK adV tS tF tX sK sV) p l s m args meth c A D (vT7 cI cF cC cS cO cB cZ) cX5_allAngles 3 RX5) {r0 : Int32} {u0 : vH} (RET : ∀ (pc : Nat) (lv : List (Nat × Value)), decode cX5_allAngles pc = .ok (.ireturn, 1) → vV p l e { frames := 3, cells := 0, slots := 0, locals := 70 } s m args below meth c A D 3 0 0 Q (wS q cI cF u0) pc lv [.int r0]) {u : vH} (h : fX5_allAngles u = some (r0, u0)) : vV p l e { frames := 3, cells := 0, slots := 0, locals := 70 } s m args below meth c A D 3 0 0 Q (wS q cI cF u) 0 [(0, .ref (q 0))] [] := by
  rw [fX5_allAngles] at h
  refine vi_iconst (v := 0) C dX5_allAngles_0 (by decide) ?_
  refine vi_istore_n (lv' := [(1, .int (0 : Int32)), (0, .ref (q 0))]) C dX5_allAngles_1 rfl (by decide) rfl ?_
  refine vi_iconst (v := 0) C dX5_allAngles_2 (by decide) ?_
  refine vi_istore_n (lv' := [(2, .int (0 : Int32)), (1, .int (0 : Int32)), (0, .ref (q 0))]) C dX5_allAngles_3 rfl (by decide) rfl ?_
  refine vi_sub C [2, 1, 0] rfl ?_
  exact kX5_allAngles_4 C RET  vF _ _ _ h
theorem mX5_allAngles {ad adK adV : Nat → Nat} {tS tF : Nat} {tX sK sV : Nat → Nat} (hE : vEok (vE ad adK adV tS tF tX sK sV)) {l : Launch} {D : va_G} {cI cF cC cS cO cB cZ : ClassId} {q : Nat → Nat} {r0 : Int32} {u0 : vH}  {u : vH} (h : fX5_allAngles u = some (r0, u0)) : vM (vE ad adK adV tS tF tX sK sV) l yX5_allAngles cX5_allAngles 3 (some .int) 3 70 D (vT7 cI cF cC cS cO cB cZ) [.ref (q 0)] (wS q cI cF u) (vQi D (wS q cI cF u0) r0) :=
  vM_of hE (by decide +kernel) (Nat.le_of_ble_eq_true rfl) (fun p e s m args below meth c A C hr => kX5_allAngles_e C (vi_reti C hr) h)
-- ---- X5_isHigher
def fX5_isHigher (x1 : Int32) (x2 : Int32) (u : vH) : Option (Int32 × vH) := obp (fX5_angleAfter x1 (0 : Int32) u) fun y2 u1 => obp (fX5_angleAfter x2 (0 : Int32) u1) fun y4 u3 => (if y2 = y4 then if x1 < 0 ∨ 8 ≤ Int32.toNatClampNeg x1 then none else (fX5_cheerIn (u3.1 1 (Int32.toNatClampNeg x1))).bind fun y7 => if x2 < 0 ∨ 8 ≤ Int32.toNatClampNeg x2 then none else (fX5_cheerIn (u3.1 1 (Int32.toNatClampNeg x2))).bind fun y9 => (if y7 = y9 then (if x2 ≤ x1 then some ((0 : Int32), u3) else some ((1 : Int32), u3)) else (if y7 ≤ y9 then some ((0 : Int32), u3) else some ((1 : Int32), u3))) else (if y2 ≤ y4 then some ((0 : Int32), u3) else some ((1 : Int32), u3)))
set_option maxRecDepth 100000 in
set_option maxHeartbeats 4000000 in
theorem kX5_isHigher_e {ad adK adV : Nat → Nat} {tS tF : Nat} {tX sK sV : Nat → Nat} {p : Program} {l : Launch} {e : Env} {s : State} {m : MethodId} {args : Array Value} {below : List Frame} {meth : Method} {c : Code} {A : Nat → Prop} {D : va_G} {cI cF cC cS cO cB cZ : ClassId} {Q : State → Prop} {q : Nat → Nat} (C : vC (vE ad adK adV tS tF tX sK sV) p l s m args meth c A D (vT7 cI cF cC cS cO cB cZ) cX5_isHigher 7 RX5) {r0 : Int32} {u0 : vH} (RET : ∀ (pc : Nat) (lv : List (Nat × Value)), decode cX5_isHigher pc = .ok (.ireturn, 1) → (r0 = 0 ∨ r0 = 1) → vV p l e { frames := 3, cells := 0, slots := 0, locals := 70 } s m args below meth c A D 7 0 0 Q (wS q cI cF u0) pc lv [.int r0]) {x1 : Int32} {x2 : Int32} {u : vH} (h : fX5_isHigher x1 x2 u = some (r0, u0)) : vV p l e { frames := 3, cells := 0, slots := 0, locals := 70 } s m args below meth c A D 7 0 0 Q (wS q cI cF u) 0 [(0, .ref (q 0)), (1, .int x1), (2, .int x2)] [] := by
  rw [fX5_isHigher] at h
  refine vi_aload_n C 0 dX5_isHigher_0 rfl ?_
  refine vi_iload_n C 1 dX5_isHigher_1 rfl ?_
  refine vi_iconst (v := 0) C dX5_isHigher_2 (by decide) ?_
  obtain ⟨y2, u1, hgu1, h⟩ := ob_p h
  refine cS_X5_i (As := [.int x1, .int (0 : Int32)]) (rest := []) C (mX5_angleAfter C.2.2.2.2.2.2.2.2.1 hgu1) 2 rfl tcX5_angleAfter tlX5_154 tiX5_angleAfter tsX5_angleAfter rfl tnX5 tdX5_angleAfter ⟨Nat.le_of_ble_eq_true rfl, Nat.le_of_ble_eq_true rfl⟩ rfl (Nat.le_of_ble_eq_true rfl) dX5_isHigher_3 ?_
  refine vi_istore_n (lv' := [(3, .int y2), (0, .ref (q 0)), (1, .int x1), (2, .int x2)]) C dX5_isHigher_6 rfl (by decide) rfl ?_
  refine vi_aload_n C 1 dX5_isHigher_7 rfl ?_
  refine vi_iload_n C 3 dX5_isHigher_8 rfl ?_
  refine vi_iconst (v := 0) C dX5_isHigher_9 (by decide) ?_
  obtain ⟨y4, u3, hgu3, h⟩ := ob_p h
  refine cS_X5_i (As := [.int x2, .int (0 : Int32)]) (rest := []) C (mX5_angleAfter C.2.2.2.2.2.2.2.2.1 hgu3) 2 rfl tcX5_angleAfter tlX5_154 tiX5_angleAfter tsX5_angleAfter rfl tnX5 tdX5_angleAfter ⟨Nat.le_of_ble_eq_true rfl, Nat.le_of_ble_eq_true rfl⟩ rfl (Nat.le_of_ble_eq_true rfl) dX5_isHigher_10 ?_
  refine vi_istore (lv' := [(4, .int y4), (3, .int y2), (0, .ref (q 0)), (1, .int x1), (2, .int x2)]) C dX5_isHigher_13 (by decide) rfl ?_
  refine vi_iload_n C 1 dX5_isHigher_15 rfl ?_
  refine vi_iload C 0 dX5_isHigher_16 rfl ?_
  refine vi_icmp_eq (tgt := 33) C dX5_isHigher_18 (by decide) (fun hc5 => ?_) (fun hc5 => ?_)
  · have h := ob_t h hc5
    refine vi_aload_n C 2 dX5_isHigher_33 rfl ?_
    refine gS_X5_0_1 C dX5_isHigher_34 ?_
    refine vi_iload_n C 3 dX5_isHigher_37 rfl ?_
    obtain ⟨hz6, h⟩ := ob_if h
    refine lS_X5_1 (n := (Int32.toNatClampNeg x1)) C hz6 rfl dX5_isHigher_38 ?_
    obtain ⟨y7, hgy7, h⟩ := ob_bd h
    refine vi_callS0i (As := [.int (u3.1 1 (Int32.toNatClampNeg x1))]) (rest := []) C (mX5_cheerIn C.2.2.2.2.2.2.2.2.1 hgy7) 1 rfl tcX5_cheerIn tlX5_148 ttX5_cheerIn tnX5 tdX5_cheerIn ⟨Nat.le_of_ble_eq_true rfl, Nat.le_of_ble_eq_true rfl⟩ rfl (Nat.le_of_ble_eq_true rfl) dX5_isHigher_39 ?_
    refine vi_istore (lv' := [(5, .int y7), (4, .int y4), (3, .int y2), (0, .ref (q 0)), (1, .int x1), (2, .int x2)]) C dX5_isHigher_42 (by decide) rfl ?_
    refine vi_aload_n C 3 dX5_isHigher_44 rfl ?_
    refine gS_X5_0_1 C dX5_isHigher_45 ?_
    refine vi_iload_n C 5 dX5_isHigher_48 rfl ?_
    obtain ⟨hz8, h⟩ := ob_if h
    refine lS_X5_1 (n := (Int32.toNatClampNeg x2)) C hz8 rfl dX5_isHigher_49 ?_
    obtain ⟨y9, hgy9, h⟩ := ob_bd h
    refine vi_callS0i (As := [.int (u3.1 1 (Int32.toNatClampNeg x2))]) (rest := []) C (mX5_cheerIn C.2.2.2.2.2.2.2.2.1 hgy9) 1 rfl tcX5_cheerIn tlX5_148 ttX5_cheerIn tnX5 tdX5_cheerIn ⟨Nat.le_of_ble_eq_true rfl, Nat.le_of_ble_eq_true rfl⟩ rfl (Nat.le_of_ble_eq_true rfl) dX5_isHigher_50 ?_
    refine vi_istore (lv' := [(6, .int y9), (5, .int y7), (4, .int y4), (3, .int y2), (0, .ref (q 0)), (1, .int x1), (2, .int x2)]) C dX5_isHigher_53 (by decide) rfl ?_
    refine vi_iload C 1 dX5_isHigher_55 rfl ?_
    refine vi_iload C 0 dX5_isHigher_57 rfl ?_
    refine vi_icmp_eq (tgt := 77) C dX5_isHigher_59 (by decide) (fun hc10 => ?_) (fun hc10 => ?_)
    · have h := ob_t h hc10
      refine vi_iload_n C 5 dX5_isHigher_77 rfl ?_
      refine vi_iload_n C 6 dX5_isHigher_78 rfl ?_
      refine vi_icmp_ge (tgt := 86) C dX5_isHigher_79 (by decide) (fun hc11 => ?_) (fun hc11 => ?_)
      · have h := ob_t h hc11
        refine vi_iconst (v := 0) C dX5_isHigher_86 (by decide) ?_
        exact vi_donez (W := wS q cI cF) RET h (by decide) dX5_isHigher_87
      · have h := ob_f h hc11
        refine vi_iconst (v := 1) C dX5_isHigher_82 (by decide) ?_
        refine vi_goto (tgt := 87) C dX5_isHigher_83 (by decide) ?_
        exact vi_donez (W := wS q cI cF) RET h (by decide) dX5_isHigher_87
    · have h := ob_f h hc10
      refine vi_iload C 1 dX5_isHigher_62 rfl ?_
      refine vi_iload C 0 dX5_isHigher_64 rfl ?_
      refine vi_icmp_le (tgt := 73) C dX5_isHigher_66 (by decide) (fun hc12 => ?_) (fun hc12 => ?_)
      · have h := ob_t h hc12
        refine vi_iconst (v := 0) C dX5_isHigher_73 (by decide) ?_
        refine vi_goto (tgt := 87) C dX5_isHigher_74 (by decide) ?_
        exact vi_donez (W := wS q cI cF) RET h (by decide) dX5_isHigher_87
      · have h := ob_f h hc12
        refine vi_iconst (v := 1) C dX5_isHigher_69 (by decide) ?_
        refine vi_goto (tgt := 87) C dX5_isHigher_70 (by decide) ?_
        exact vi_donez (W := wS q cI cF) RET h (by decide) dX5_isHigher_87
  · have h := ob_f h hc5
    refine vi_iload_n C 1 dX5_isHigher_21 rfl ?_
    refine vi_iload C 0 dX5_isHigher_22 rfl ?_
    refine vi_icmp_le (tgt := 31) C dX5_isHigher_24 (by decide) (fun hc13 => ?_) (fun hc13 => ?_)
    · have h := ob_t h hc13
      refine vi_iconst (v := 0) C dX5_isHigher_31 (by decide) ?_
      exact vi_donez (W := wS q cI cF) RET h (by decide) dX5_isHigher_32
    · have h := ob_f h hc13
      refine vi_iconst (v := 1) C dX5_isHigher_27 (by decide) ?_
      refine vi_goto (tgt := 32) C dX5_isHigher_28 (by decide) ?_
      exact vi_donez (W := wS q cI cF) RET h (by decide) dX5_isHigher_32
theorem mX5_isHigher {ad adK adV : Nat → Nat} {tS tF : Nat} {tX sK sV : Nat → Nat} (hE : vEok (vE ad adK adV tS tF tX sK sV)) {l : Launch} {D : va_G} {cI cF cC cS cO cB cZ : ClassId} {q : Nat → Nat} {r0 : Int32} {u0 : vH}  {x1 : Int32} {x2 : Int32} {u : vH} (h : fX5_isHigher x1 x2 u = some (r0, u0)) : vM (vE ad adK adV tS tF tX sK sV) l yX5_isHigher cX5_isHigher 7 (some .boolean) 3 70 D (vT7 cI cF cC cS cO cB cZ) [.ref (q 0), .int x1, .int x2] (wS q cI cF u) (vQi D (wS q cI cF u0) r0) :=
  vM_of hE (by decide +kernel) (Nat.le_of_ble_eq_true rfl) (fun p e s m args below meth c A C hr => kX5_isHigher_e C (vi_retzz C hr) h)
-- ---- X5_placeOfSailor
def fX5_placeOfSailor_4 : Nat → Int32 → Int32 → Int32 → vH → Option (Int32 × vH)
  | 0, _, _, _, _ => none
  | n + 1, x1, x2, x3, u => (if u.1 0 0 ≤ x3 then some (x2, u) else obp (fX5_isHigher x3 x1 u) fun y3 u2 => (if y3 = 0 then bd ((x3 + 1 : Int32)) fun y5 => fX5_placeOfSailor_4 n x1 x2 y5 u2 else bd ((x2 + 1 : Int32)) fun y6 => bd ((x3 + 1 : Int32)) fun y7 => fX5_placeOfSailor_4 n x1 y6 y7 u2))
set_option maxRecDepth 100000 in
set_option maxHeartbeats 4000000 in
theorem kX5_placeOfSailor_4 {ad adK adV : Nat → Nat} {tS tF : Nat} {tX sK sV : Nat → Nat} {p : Program} {l : Launch} {e : Env} {s : State} {m : MethodId} {args : Array Value} {below : List Frame} {meth : Method} {c : Code} {A : Nat → Prop} {D : va_G} {cI cF cC cS cO cB cZ : ClassId} {Q : State → Prop} {q : Nat → Nat} (C : vC (vE ad adK adV tS tF tX sK sV) p l s m args meth c A D (vT7 cI cF cC cS cO cB cZ) cX5_placeOfSailor 4 RX5) {r0 : Int32} {u0 : vH} (RET : ∀ (pc : Nat) (lv : List (Nat × Value)), decode cX5_placeOfSailor pc = .ok (.ireturn, 1) → vV p l e { frames := 4, cells := 0, slots := 0, locals := 96 } s m args below meth c A D 4 0 0 Q (wS q cI cF u0) pc lv [.int r0]) : ∀ (n : Nat) (x1 : Int32) (x2 : Int32) (x3 : Int32) (u : vH), fX5_placeOfSailor_4 n x1 x2 x3 u = some (r0, u0) → vV p l e { frames := 4, cells := 0, slots := 0, locals := 96 } s m args below meth c A D 4 0 0 Q (wS q cI cF u) 4 [(0, .ref (q 0)), (1, .int x1), (2, .int x2), (3, .int x3)] [] := by
  intro n
  induction n with
  | zero => intro x1 x2 x3 u h; rw [fX5_placeOfSailor_4] at h; cases h
  | succ n ih =>
    intro x1 x2 x3 u h
    rw [fX5_placeOfSailor_4] at h
    refine vi_iload_n C 3 dX5_placeOfSailor_4 rfl ?_
    refine vi_aload_n C 0 dX5_placeOfSailor_5 rfl ?_
    refine gS_X5_0_0 C dX5_placeOfSailor_6 ?_
    refine vi_icmp_ge (tgt := 30) C dX5_placeOfSailor_9 (by decide) (fun hc1 => ?_) (fun hc1 => ?_)
    · have h := ob_t h hc1
      refine vi_iload_n C 2 dX5_placeOfSailor_30 rfl ?_
      exact vi_donei (W := wS q cI cF) RET h dX5_placeOfSailor_31
    · have h := ob_f h hc1
      refine vi_aload_n C 0 dX5_placeOfSailor_12 rfl ?_
      refine vi_iload_n C 3 dX5_placeOfSailor_13 rfl ?_
      refine vi_iload_n C 1 dX5_placeOfSailor_14 rfl ?_
      obtain ⟨y3, u2, hgu2, h⟩ := ob_p h
      refine cS_X5_i (As := [.int x3, .int x1]) (rest := []) C (mX5_isHigher C.2.2.2.2.2.2.2.2.1 hgu2) 2 rfl tcX5_isHigher tlX5_184 tiX5_isHigher tsX5_isHigher rfl tnX5 tdX5_isHigher ⟨Nat.le_of_ble_eq_true rfl, Nat.le_of_ble_eq_true rfl⟩ rfl (Nat.le_of_ble_eq_true rfl) dX5_placeOfSailor_15 ?_
      refine vi_if_eq (tgt := 24) C dX5_placeOfSailor_18 (by decide) (fun hc4 => ?_) (fun hc4 => ?_)
      · have h := ob_t h hc4
        obtain ⟨y5, ey5, h⟩ := ob_nm h
        refine vi_iinc (v := y5) (lv' := [(3, .int y5), (0, .ref (q 0)), (1, .int x1), (2, .int x2)]) C 3 dX5_placeOfSailor_24 rfl (by rw [ey5]; rfl) (by decide) rfl ?_
        refine vi_goto (tgt := 4) C dX5_placeOfSailor_27 (by decide) ?_
        refine vi_sub C [1, 2, 3, 0] rfl ?_
        exact ih _ _ _ _ h
      · have h := ob_f h hc4
        obtain ⟨y6, ey6, h⟩ := ob_nm h
        refine vi_iinc (v := y6) (lv' := [(2, .int y6), (0, .ref (q 0)), (1, .int x1), (3, .int x3)]) C 2 dX5_placeOfSailor_21 rfl (by rw [ey6]; rfl) (by decide) rfl ?_
        obtain ⟨y7, ey7, h⟩ := ob_nm h
        refine vi_iinc (v := y7) (lv' := [(3, .int y7), (2, .int y6), (0, .ref (q 0)), (1, .int x1)]) C 3 dX5_placeOfSailor_24 rfl (by rw [ey7]; rfl) (by decide) rfl ?_
        refine vi_goto (tgt := 4) C dX5_placeOfSailor_27 (by decide) ?_
        refine vi_sub C [2, 3, 1, 0] rfl ?_
        exact ih _ _ _ _ h
def fX5_placeOfSailor (x1 : Int32) (u : vH) : Option (Int32 × vH) := fX5_placeOfSailor_4 vF x1 (0 : Int32) (0 : Int32) u
set_option maxRecDepth 100000 in
set_option maxHeartbeats 4000000 in
theorem kX5_placeOfSailor_e {ad adK adV : Nat → Nat} {tS tF : Nat} {tX sK sV : Nat → Nat} {p : Program} {l : Launch} {e : Env} {s : State} {m : MethodId} {args : Array Value} {below : List Frame} {meth : Method} {c : Code} {A : Nat → Prop} {D : va_G} {cI cF cC cS cO cB cZ : ClassId} {Q : State → Prop} {q : Nat → Nat} (C : vC (vE ad adK adV tS tF tX sK sV) p l s m args meth c A D (vT7 cI cF cC cS cO cB cZ) cX5_placeOfSailor 4 RX5) {r0 : Int32} {u0 : vH} (RET : ∀ (pc : Nat) (lv : List (Nat × Value)), decode cX5_placeOfSailor pc = .ok (.ireturn, 1) → vV p l e { frames := 4, cells := 0, slots := 0, locals := 96 } s m args below meth c A D 4 0 0 Q (wS q cI cF u0) pc lv [.int r0]) {x1 : Int32} {u : vH} (h : fX5_placeOfSailor x1 u = some (r0, u0)) : vV p l e { frames := 4, cells := 0, slots := 0, locals := 96 } s m args below meth c A D 4 0 0 Q (wS q cI cF u) 0 [(0, .ref (q 0)), (1, .int x1)] [] := by
  rw [fX5_placeOfSailor] at h
  refine vi_iconst (v := 0) C dX5_placeOfSailor_0 (by decide) ?_
  refine vi_istore_n (lv' := [(2, .int (0 : Int32)), (0, .ref (q 0)), (1, .int x1)]) C dX5_placeOfSailor_1 rfl (by decide) rfl ?_
  refine vi_iconst (v := 0) C dX5_placeOfSailor_2 (by decide) ?_
  refine vi_istore_n (lv' := [(3, .int (0 : Int32)), (2, .int (0 : Int32)), (0, .ref (q 0)), (1, .int x1)]) C dX5_placeOfSailor_3 rfl (by decide) rfl ?_
  refine vi_sub C [2, 3, 1, 0] rfl ?_
  exact kX5_placeOfSailor_4 C RET  vF _ _ _ _ h
theorem mX5_placeOfSailor {ad adK adV : Nat → Nat} {tS tF : Nat} {tX sK sV : Nat → Nat} (hE : vEok (vE ad adK adV tS tF tX sK sV)) {l : Launch} {D : va_G} {cI cF cC cS cO cB cZ : ClassId} {q : Nat → Nat} {r0 : Int32} {u0 : vH}  {x1 : Int32} {u : vH} (h : fX5_placeOfSailor x1 u = some (r0, u0)) : vM (vE ad adK adV tS tF tX sK sV) l yX5_placeOfSailor cX5_placeOfSailor 4 (some .int) 4 96 D (vT7 cI cF cC cS cO cB cZ) [.ref (q 0), .int x1] (wS q cI cF u) (vQi D (wS q cI cF u0) r0) :=
  vM_of hE (by decide +kernel) (Nat.le_of_ble_eq_true rfl) (fun p e s m args below meth c A C hr => kX5_placeOfSailor_e C (vi_reti C hr) h)
-- ---- X5_isSightHigher
def fX5_isSightHigher (x1 : Int32) (x2 : Int32) (u : vH) : Option (Int32 × vH) := if x1 < 0 ∨ 10 ≤ Int32.toNatClampNeg x1 then none else if x2 < 0 ∨ 10 ≤ Int32.toNatClampNeg x2 then none else (if Op.cmpValue (FP.fcmp (u.2 (Int32.toNatClampNeg x1)) (u.2 (Int32.toNatClampNeg x2))) CmpOp.l = 0 then (if x2 ≤ x1 then some ((0 : Int32), u) else some ((1 : Int32), u)) else if x1 < 0 ∨ 10 ≤ Int32.toNatClampNeg x1 then none else if x2 < 0 ∨ 10 ≤ Int32.toNatClampNeg x2 then none else (if Op.cmpValue (FP.fcmp (u.2 (Int32.toNatClampNeg x1)) (u.2 (Int32.toNatClampNeg x2))) CmpOp.l ≤ 0 then some ((0 : Int32), u) else some ((1 : Int32), u)))
set_option maxRecDepth 100000 in
set_option maxHeartbeats 4000000 in
theorem kX5_isSightHigher_e {ad adK adV : Nat → Nat} {tS tF : Nat} {tX sK sV : Nat → Nat} {p : Program} {l : Launch} {e : Env} {s : State} {m : MethodId} {args : Array Value} {below : List Frame} {meth : Method} {c : Code} {A : Nat → Prop} {D : va_G} {cI cF cC cS cO cB cZ : ClassId} {Q : State → Prop} {q : Nat → Nat} (C : vC (vE ad adK adV tS tF tX sK sV) p l s m args meth c A D (vT7 cI cF cC cS cO cB cZ) cX5_isSightHigher 3 RX5) {r0 : Int32} {u0 : vH} (RET : ∀ (pc : Nat) (lv : List (Nat × Value)), decode cX5_isSightHigher pc = .ok (.ireturn, 1) → (r0 = 0 ∨ r0 = 1) → vV p l e { frames := 0, cells := 0, slots := 0, locals := 0 } s m args below meth c A D 3 0 0 Q (wS q cI cF u0) pc lv [.int r0]) {x1 : Int32} {x2 : Int32} {u : vH} (h : fX5_isSightHigher x1 x2 u = some (r0, u0)) : vV p l e { frames := 0, cells := 0, slots := 0, locals := 0 } s m args below meth c A D 3 0 0 Q (wS q cI cF u) 0 [(0, .ref (q 0)), (1, .int x1), (2, .int x2)] [] := by
  rw [fX5_isSightHigher] at h
  refine vi_aload_n C 0 dX5_isSightHigher_0 rfl ?_
  refine gS_X5_0_10 C dX5_isSightHigher_1 ?_
  refine vi_iload_n C 1 dX5_isSightHigher_4 rfl ?_
  obtain ⟨hz1, h⟩ := ob_if h
  refine lS_X5_7 (n := (Int32.toNatClampNeg x1)) C hz1 rfl dX5_isSightHigher_5 ?_
  refine vi_aload_n C 0 dX5_isSightHigher_6 rfl ?_
  refine gS_X5_0_10 C dX5_isSightHigher_7 ?_
  refine vi_iload_n C 2 dX5_isSightHigher_10 rfl ?_
  obtain ⟨hz2, h⟩ := ob_if h
  refine lS_X5_7 (n := (Int32.toNatClampNeg x2)) C hz2 rfl dX5_isSightHigher_11 ?_
  refine vi_fcmp C dX5_isSightHigher_12 ?_
  refine vi_if_eq (tgt := 40) C dX5_isSightHigher_13 (by decide) (fun hc3 => ?_) (fun hc3 => ?_)
  · have h := ob_t h hc3
    refine vi_iload_n C 1 dX5_isSightHigher_40 rfl ?_
    refine vi_iload_n C 2 dX5_isSightHigher_41 rfl ?_
    refine vi_icmp_ge (tgt := 49) C dX5_isSightHigher_42 (by decide) (fun hc4 => ?_) (fun hc4 => ?_)
    · have h := ob_t h hc4
      refine vi_iconst (v := 0) C dX5_isSightHigher_49 (by decide) ?_
      exact vi_donez (W := wS q cI cF) RET h (by decide) dX5_isSightHigher_50
    · have h := ob_f h hc4
      refine vi_iconst (v := 1) C dX5_isSightHigher_45 (by decide) ?_
      refine vi_goto (tgt := 50) C dX5_isSightHigher_46 (by decide) ?_
      exact vi_donez (W := wS q cI cF) RET h (by decide) dX5_isSightHigher_50
  · have h := ob_f h hc3
    refine vi_aload_n C 0 dX5_isSightHigher_16 rfl ?_
    refine gS_X5_0_10 C dX5_isSightHigher_17 ?_
    refine vi_iload_n C 1 dX5_isSightHigher_20 rfl ?_
    obtain ⟨hz5, h⟩ := ob_if h
    refine lS_X5_7 (n := (Int32.toNatClampNeg x1)) C hz5 rfl dX5_isSightHigher_21 ?_
    refine vi_aload_n C 0 dX5_isSightHigher_22 rfl ?_
    refine gS_X5_0_10 C dX5_isSightHigher_23 ?_
    refine vi_iload_n C 2 dX5_isSightHigher_26 rfl ?_
    obtain ⟨hz6, h⟩ := ob_if h
    refine lS_X5_7 (n := (Int32.toNatClampNeg x2)) C hz6 rfl dX5_isSightHigher_27 ?_
    refine vi_fcmp C dX5_isSightHigher_28 ?_
    refine vi_if_le (tgt := 36) C dX5_isSightHigher_29 (by decide) (fun hc7 => ?_) (fun hc7 => ?_)
    · have h := ob_t h hc7
      refine vi_iconst (v := 0) C dX5_isSightHigher_36 (by decide) ?_
      refine vi_goto (tgt := 50) C dX5_isSightHigher_37 (by decide) ?_
      exact vi_donez (W := wS q cI cF) RET h (by decide) dX5_isSightHigher_50
    · have h := ob_f h hc7
      refine vi_iconst (v := 1) C dX5_isSightHigher_32 (by decide) ?_
      refine vi_goto (tgt := 50) C dX5_isSightHigher_33 (by decide) ?_
      exact vi_donez (W := wS q cI cF) RET h (by decide) dX5_isSightHigher_50
theorem mX5_isSightHigher {ad adK adV : Nat → Nat} {tS tF : Nat} {tX sK sV : Nat → Nat} (hE : vEok (vE ad adK adV tS tF tX sK sV)) {l : Launch} {D : va_G} {cI cF cC cS cO cB cZ : ClassId} {q : Nat → Nat} {r0 : Int32} {u0 : vH}  {x1 : Int32} {x2 : Int32} {u : vH} (h : fX5_isSightHigher x1 x2 u = some (r0, u0)) : vM (vE ad adK adV tS tF tX sK sV) l yX5_isSightHigher cX5_isSightHigher 3 (some .boolean) 0 0 D (vT7 cI cF cC cS cO cB cZ) [.ref (q 0), .int x1, .int x2] (wS q cI cF u) (vQi D (wS q cI cF u0) r0) :=
  vM_of hE (by decide +kernel) (Nat.le_of_ble_eq_true rfl) (fun p e s m args below meth c A C hr => kX5_isSightHigher_e C (vi_retzz C hr) h)
-- ---- X5_placeOfSight
def fX5_placeOfSight_4 : Nat → Int32 → Int32 → Int32 → vH → Option (Int32 × vH)
  | 0, _, _, _, _ => none
  | n + 1, x1, x2, x3, u => (if u.1 0 7 ≤ x3 then some (x2, u) else obp (fX5_isSightHigher x3 x1 u) fun y3 u2 => (if y3 = 0 then bd ((x3 + 1 : Int32)) fun y5 => fX5_placeOfSight_4 n x1 x2 y5 u2 else bd ((x2 + 1 : Int32)) fun y6 => bd ((x3 + 1 : Int32)) fun y7 => fX5_placeOfSight_4 n x1 y6 y7 u2))
set_option maxRecDepth 100000 in
set_option maxHeartbeats 4000000 in
theorem kX5_placeOfSight_4 {ad adK adV : Nat → Nat} {tS tF : Nat} {tX sK sV : Nat → Nat} {p : Program} {l : Launch} {e : Env} {s : State} {m : MethodId} {args : Array Value} {below : List Frame} {meth : Method} {c : Code} {A : Nat → Prop} {D : va_G} {cI cF cC cS cO cB cZ : ClassId} {Q : State → Prop} {q : Nat → Nat} (C : vC (vE ad adK adV tS tF tX sK sV) p l s m args meth c A D (vT7 cI cF cC cS cO cB cZ) cX5_placeOfSight 4 RX5) {r0 : Int32} {u0 : vH} (RET : ∀ (pc : Nat) (lv : List (Nat × Value)), decode cX5_placeOfSight pc = .ok (.ireturn, 1) → vV p l e { frames := 1, cells := 0, slots := 0, locals := 22 } s m args below meth c A D 4 0 0 Q (wS q cI cF u0) pc lv [.int r0]) : ∀ (n : Nat) (x1 : Int32) (x2 : Int32) (x3 : Int32) (u : vH), fX5_placeOfSight_4 n x1 x2 x3 u = some (r0, u0) → vV p l e { frames := 1, cells := 0, slots := 0, locals := 22 } s m args below meth c A D 4 0 0 Q (wS q cI cF u) 4 [(0, .ref (q 0)), (1, .int x1), (2, .int x2), (3, .int x3)] [] := by
  intro n
  induction n with
  | zero => intro x1 x2 x3 u h; rw [fX5_placeOfSight_4] at h; cases h
  | succ n ih =>
    intro x1 x2 x3 u h
    rw [fX5_placeOfSight_4] at h
    refine vi_iload_n C 3 dX5_placeOfSight_4 rfl ?_
    refine vi_aload_n C 0 dX5_placeOfSight_5 rfl ?_
    refine gS_X5_0_7 C dX5_placeOfSight_6 ?_
    refine vi_icmp_ge (tgt := 30) C dX5_placeOfSight_9 (by decide) (fun hc1 => ?_) (fun hc1 => ?_)
    · have h := ob_t h hc1
      refine vi_iload_n C 2 dX5_placeOfSight_30 rfl ?_
      exact vi_donei (W := wS q cI cF) RET h dX5_placeOfSight_31
    · have h := ob_f h hc1
      refine vi_aload_n C 0 dX5_placeOfSight_12 rfl ?_
      refine vi_iload_n C 3 dX5_placeOfSight_13 rfl ?_
      refine vi_iload_n C 1 dX5_placeOfSight_14 rfl ?_
      obtain ⟨y3, u2, hgu2, h⟩ := ob_p h
      refine cS_X5_i (As := [.int x3, .int x1]) (rest := []) C (mX5_isSightHigher C.2.2.2.2.2.2.2.2.1 hgu2) 2 rfl tcX5_isSightHigher tlX5_187 tiX5_isSightHigher tsX5_isSightHigher rfl tnX5 tdX5_isSightHigher ⟨Nat.le_of_ble_eq_true rfl, Nat.le_of_ble_eq_true rfl⟩ rfl (Nat.le_of_ble_eq_true rfl) dX5_placeOfSight_15 ?_
      refine vi_if_eq (tgt := 24) C dX5_placeOfSight_18 (by decide) (fun hc4 => ?_) (fun hc4 => ?_)
      · have h := ob_t h hc4
        obtain ⟨y5, ey5, h⟩ := ob_nm h
        refine vi_iinc (v := y5) (lv' := [(3, .int y5), (0, .ref (q 0)), (1, .int x1), (2, .int x2)]) C 3 dX5_placeOfSight_24 rfl (by rw [ey5]; rfl) (by decide) rfl ?_
        refine vi_goto (tgt := 4) C dX5_placeOfSight_27 (by decide) ?_
        refine vi_sub C [1, 2, 3, 0] rfl ?_
        exact ih _ _ _ _ h
      · have h := ob_f h hc4
        obtain ⟨y6, ey6, h⟩ := ob_nm h
        refine vi_iinc (v := y6) (lv' := [(2, .int y6), (0, .ref (q 0)), (1, .int x1), (3, .int x3)]) C 2 dX5_placeOfSight_21 rfl (by rw [ey6]; rfl) (by decide) rfl ?_
        obtain ⟨y7, ey7, h⟩ := ob_nm h
        refine vi_iinc (v := y7) (lv' := [(3, .int y7), (2, .int y6), (0, .ref (q 0)), (1, .int x1)]) C 3 dX5_placeOfSight_24 rfl (by rw [ey7]; rfl) (by decide) rfl ?_
        refine vi_goto (tgt := 4) C dX5_placeOfSight_27 (by decide) ?_
        refine vi_sub C [2, 3, 1, 0] rfl ?_
        exact ih _ _ _ _ h
def fX5_placeOfSight (x1 : Int32) (u : vH) : Option (Int32 × vH) := fX5_placeOfSight_4 vF x1 (0 : Int32) (0 : Int32) u
set_option maxRecDepth 100000 in
set_option maxHeartbeats 4000000 in
theorem kX5_placeOfSight_e {ad adK adV : Nat → Nat} {tS tF : Nat} {tX sK sV : Nat → Nat} {p : Program} {l : Launch} {e : Env} {s : State} {m : MethodId} {args : Array Value} {below : List Frame} {meth : Method} {c : Code} {A : Nat → Prop} {D : va_G} {cI cF cC cS cO cB cZ : ClassId} {Q : State → Prop} {q : Nat → Nat} (C : vC (vE ad adK adV tS tF tX sK sV) p l s m args meth c A D (vT7 cI cF cC cS cO cB cZ) cX5_placeOfSight 4 RX5) {r0 : Int32} {u0 : vH} (RET : ∀ (pc : Nat) (lv : List (Nat × Value)), decode cX5_placeOfSight pc = .ok (.ireturn, 1) → vV p l e { frames := 1, cells := 0, slots := 0, locals := 22 } s m args below meth c A D 4 0 0 Q (wS q cI cF u0) pc lv [.int r0]) {x1 : Int32} {u : vH} (h : fX5_placeOfSight x1 u = some (r0, u0)) : vV p l e { frames := 1, cells := 0, slots := 0, locals := 22 } s m args below meth c A D 4 0 0 Q (wS q cI cF u) 0 [(0, .ref (q 0)), (1, .int x1)] [] := by
  rw [fX5_placeOfSight] at h
  refine vi_iconst (v := 0) C dX5_placeOfSight_0 (by decide) ?_
  refine vi_istore_n (lv' := [(2, .int (0 : Int32)), (0, .ref (q 0)), (1, .int x1)]) C dX5_placeOfSight_1 rfl (by decide) rfl ?_
  refine vi_iconst (v := 0) C dX5_placeOfSight_2 (by decide) ?_
  refine vi_istore_n (lv' := [(3, .int (0 : Int32)), (2, .int (0 : Int32)), (0, .ref (q 0)), (1, .int x1)]) C dX5_placeOfSight_3 rfl (by decide) rfl ?_
  refine vi_sub C [2, 3, 1, 0] rfl ?_
  exact kX5_placeOfSight_4 C RET  vF _ _ _ _ h
theorem mX5_placeOfSight {ad adK adV : Nat → Nat} {tS tF : Nat} {tX sK sV : Nat → Nat} (hE : vEok (vE ad adK adV tS tF tX sK sV)) {l : Launch} {D : va_G} {cI cF cC cS cO cB cZ : ClassId} {q : Nat → Nat} {r0 : Int32} {u0 : vH}  {x1 : Int32} {u : vH} (h : fX5_placeOfSight x1 u = some (r0, u0)) : vM (vE ad adK adV tS tF tX sK sV) l yX5_placeOfSight cX5_placeOfSight 4 (some .int) 1 22 D (vT7 cI cF cC cS cO cB cZ) [.ref (q 0), .int x1] (wS q cI cF u) (vQi D (wS q cI cF u0) r0) :=
  vM_of hE (by decide +kernel) (Nat.le_of_ble_eq_true rfl) (fun p e s m args below meth c A C hr => kX5_placeOfSight_e C (vi_reti C hr) h)
-- ---- X5_isUnlikeAlike
def fX5_isUnlikeAlike_12 : Nat → (Int32 → vH → Option (Int32 × vH)) → Int32 → Int32 → vH → Option (Int32 × vH)
  | 0, _, _, _, _ => none
  | n + 1, rec_2, x1, x2, u => (if u.1 0 0 ≤ x2 then bd ((x1 + 1 : Int32)) fun y2 => rec_2 y2 u else if x1 < 0 ∨ 8 ≤ Int32.toNatClampNeg x1 then none else if x2 < 0 ∨ 8 ≤ Int32.toNatClampNeg x2 then none else (fX5_unlikeBits (u.1 1 (Int32.toNatClampNeg x1)) (u.1 1 (Int32.toNatClampNeg x2))).bind fun y5 => if x1 < 0 ∨ 8 ≤ Int32.toNatClampNeg x1 then none else if x2 < 0 ∨ 8 ≤ Int32.toNatClampNeg x2 then none else (fX5_unlikeByCounts (u.1 1 (Int32.toNatClampNeg x1)) (u.1 1 (Int32.toNatClampNeg x2))).bind fun y8 => (if y5 = y8 then bd ((x2 + 1 : Int32)) fun y10 => fX5_isUnlikeAlike_12 n rec_2 x1 y10 u else some ((0 : Int32), u)))
set_option maxRecDepth 100000 in
set_option maxHeartbeats 4000000 in
theorem kX5_isUnlikeAlike_12 {ad adK adV : Nat → Nat} {tS tF : Nat} {tX sK sV : Nat → Nat} {p : Program} {l : Launch} {e : Env} {s : State} {m : MethodId} {args : Array Value} {below : List Frame} {meth : Method} {c : Code} {A : Nat → Prop} {D : va_G} {cI cF cC cS cO cB cZ : ClassId} {Q : State → Prop} {q : Nat → Nat} (C : vC (vE ad adK adV tS tF tX sK sV) p l s m args meth c A D (vT7 cI cF cC cS cO cB cZ) cX5_isUnlikeAlike 3 RX5) {r0 : Int32} {u0 : vH} (RET : ∀ (pc : Nat) (lv : List (Nat × Value)), decode cX5_isUnlikeAlike pc = .ok (.ireturn, 1) → (r0 = 0 ∨ r0 = 1) → vV p l e { frames := 2, cells := 0, slots := 0, locals := 41 } s m args below meth c A D 3 0 0 Q (wS q cI cF u0) pc lv [.int r0]) {rec_2 : Int32 → vH → Option (Int32 × vH)} (REC_2 : ∀ (x1 : Int32) (u : vH), rec_2 x1 u = some (r0, u0) → vV p l e { frames := 2, cells := 0, slots := 0, locals := 41 } s m args below meth c A D 3 0 0 Q (wS q cI cF u) 2 [(0, .ref (q 0)), (1, .int x1)] []) : ∀ (n : Nat) (x1 : Int32) (x2 : Int32) (u : vH), fX5_isUnlikeAlike_12 n rec_2 x1 x2 u = some (r0, u0) → vV p l e { frames := 2, cells := 0, slots := 0, locals := 41 } s m args below meth c A D 3 0 0 Q (wS q cI cF u) 12 [(0, .ref (q 0)), (1, .int x1), (2, .int x2)] [] := by
  intro n
  induction n with
  | zero => intro x1 x2 u h; rw [fX5_isUnlikeAlike_12] at h; cases h
  | succ n ih =>
    intro x1 x2 u h
    rw [fX5_isUnlikeAlike_12] at h
    refine vi_iload_n C 2 dX5_isUnlikeAlike_12 rfl ?_
    refine vi_aload_n C 0 dX5_isUnlikeAlike_13 rfl ?_
    refine gS_X5_0_0 C dX5_isUnlikeAlike_14 ?_
    refine vi_icmp_ge (tgt := 61) C dX5_isUnlikeAlike_17 (by decide) (fun hc1 => ?_) (fun hc1 => ?_)
    · have h := ob_t h hc1
      obtain ⟨y2, ey2, h⟩ := ob_nm h
      refine vi_iinc (v := y2) (lv' := [(1, .int y2), (0, .ref (q 0)), (2, .int x2)]) C 1 dX5_isUnlikeAlike_61 rfl (by rw [ey2]; rfl) (by decide) rfl ?_
      refine vi_goto (tgt := 2) C dX5_isUnlikeAlike_64 (by decide) ?_
      refine vi_sub C [1, 0] rfl ?_
      exact REC_2 _ _ h
    · have h := ob_f h hc1
      refine vi_aload_n C 0 dX5_isUnlikeAlike_20 rfl ?_
      refine gS_X5_0_1 C dX5_isUnlikeAlike_21 ?_
      refine vi_iload_n C 1 dX5_isUnlikeAlike_24 rfl ?_
      obtain ⟨hz3, h⟩ := ob_if h
      refine lS_X5_1 (n := (Int32.toNatClampNeg x1)) C hz3 rfl dX5_isUnlikeAlike_25 ?_
      refine vi_aload_n C 0 dX5_isUnlikeAlike_26 rfl ?_
      refine gS_X5_0_1 C dX5_isUnlikeAlike_27 ?_
      refine vi_iload_n C 2 dX5_isUnlikeAlike_30 rfl ?_
      obtain ⟨hz4, h⟩ := ob_if h
      refine lS_X5_1 (n := (Int32.toNatClampNeg x2)) C hz4 rfl dX5_isUnlikeAlike_31 ?_
      obtain ⟨y5, hgy5, h⟩ := ob_bd h
      refine vi_callS0i (As := [.int (u.1 1 (Int32.toNatClampNeg x1)), .int (u.1 1 (Int32.toNatClampNeg x2))]) (rest := []) C (mX5_unlikeBits C.2.2.2.2.2.2.2.2.1 hgy5) 2 rfl tcX5_unlikeBits tlX5_168 ttX5_unlikeBits tnX5 tdX5_unlikeBits ⟨Nat.le_of_ble_eq_true rfl, Nat.le_of_ble_eq_true rfl⟩ rfl (Nat.le_of_ble_eq_true rfl) dX5_isUnlikeAlike_32 ?_
      refine vi_aload_n C 0 dX5_isUnlikeAlike_35 rfl ?_
      refine gS_X5_0_1 C dX5_isUnlikeAlike_36 ?_
      refine vi_iload_n C 1 dX5_isUnlikeAlike_39 rfl ?_
      obtain ⟨hz6, h⟩ := ob_if h
      refine lS_X5_1 (n := (Int32.toNatClampNeg x1)) C hz6 rfl dX5_isUnlikeAlike_40 ?_
      refine vi_aload_n C 0 dX5_isUnlikeAlike_41 rfl ?_
      refine gS_X5_0_1 C dX5_isUnlikeAlike_42 ?_
      refine vi_iload_n C 2 dX5_isUnlikeAlike_45 rfl ?_
      obtain ⟨hz7, h⟩ := ob_if h
      refine lS_X5_1 (n := (Int32.toNatClampNeg x2)) C hz7 rfl dX5_isUnlikeAlike_46 ?_
      obtain ⟨y8, hgy8, h⟩ := ob_bd h
      refine vi_callS0i (As := [.int (u.1 1 (Int32.toNatClampNeg x1)), .int (u.1 1 (Int32.toNatClampNeg x2))]) (rest := [.int y5]) C (mX5_unlikeByCounts C.2.2.2.2.2.2.2.2.1 hgy8) 2 rfl tcX5_unlikeByCounts tlX5_171 ttX5_unlikeByCounts tnX5 tdX5_unlikeByCounts ⟨Nat.le_of_ble_eq_true rfl, Nat.le_of_ble_eq_true rfl⟩ rfl (Nat.le_of_ble_eq_true rfl) dX5_isUnlikeAlike_47 ?_
      refine vi_icmp_eq (tgt := 55) C dX5_isUnlikeAlike_50 (by decide) (fun hc9 => ?_) (fun hc9 => ?_)
      · have h := ob_t h hc9
        obtain ⟨y10, ey10, h⟩ := ob_nm h
        refine vi_iinc (v := y10) (lv' := [(2, .int y10), (0, .ref (q 0)), (1, .int x1)]) C 2 dX5_isUnlikeAlike_55 rfl (by rw [ey10]; rfl) (by decide) rfl ?_
        refine vi_goto (tgt := 12) C dX5_isUnlikeAlike_58 (by decide) ?_
        refine vi_sub C [1, 2, 0] rfl ?_
        exact ih _ _ _ h
      · have h := ob_f h hc9
        refine vi_iconst (v := 0) C dX5_isUnlikeAlike_53 (by decide) ?_
        exact vi_donez (W := wS q cI cF) RET h (by decide) dX5_isUnlikeAlike_54
def fX5_isUnlikeAlike_2 : Nat → Int32 → vH → Option (Int32 × vH)
  | 0, _, _ => none
  | n + 1, x1, u => (if u.1 0 0 ≤ x1 then some ((1 : Int32), u) else fX5_isUnlikeAlike_12 vF (fun a0 a1 => fX5_isUnlikeAlike_2 n  a0 a1) x1 (0 : Int32) u)
set_option maxRecDepth 100000 in
set_option maxHeartbeats 4000000 in
theorem kX5_isUnlikeAlike_2 {ad adK adV : Nat → Nat} {tS tF : Nat} {tX sK sV : Nat → Nat} {p : Program} {l : Launch} {e : Env} {s : State} {m : MethodId} {args : Array Value} {below : List Frame} {meth : Method} {c : Code} {A : Nat → Prop} {D : va_G} {cI cF cC cS cO cB cZ : ClassId} {Q : State → Prop} {q : Nat → Nat} (C : vC (vE ad adK adV tS tF tX sK sV) p l s m args meth c A D (vT7 cI cF cC cS cO cB cZ) cX5_isUnlikeAlike 3 RX5) {r0 : Int32} {u0 : vH} (RET : ∀ (pc : Nat) (lv : List (Nat × Value)), decode cX5_isUnlikeAlike pc = .ok (.ireturn, 1) → (r0 = 0 ∨ r0 = 1) → vV p l e { frames := 2, cells := 0, slots := 0, locals := 41 } s m args below meth c A D 3 0 0 Q (wS q cI cF u0) pc lv [.int r0]) : ∀ (n : Nat) (x1 : Int32) (u : vH), fX5_isUnlikeAlike_2 n x1 u = some (r0, u0) → vV p l e { frames := 2, cells := 0, slots := 0, locals := 41 } s m args below meth c A D 3 0 0 Q (wS q cI cF u) 2 [(0, .ref (q 0)), (1, .int x1)] [] := by
  intro n
  induction n with
  | zero => intro x1 u h; rw [fX5_isUnlikeAlike_2] at h; cases h
  | succ n ih =>
    intro x1 u h
    rw [fX5_isUnlikeAlike_2] at h
    refine vi_iload_n C 1 dX5_isUnlikeAlike_2 rfl ?_
    refine vi_aload_n C 0 dX5_isUnlikeAlike_3 rfl ?_
    refine gS_X5_0_0 C dX5_isUnlikeAlike_4 ?_
    refine vi_icmp_ge (tgt := 67) C dX5_isUnlikeAlike_7 (by decide) (fun hc1 => ?_) (fun hc1 => ?_)
    · have h := ob_t h hc1
      refine vi_iconst (v := 1) C dX5_isUnlikeAlike_67 (by decide) ?_
      exact vi_donez (W := wS q cI cF) RET h (by decide) dX5_isUnlikeAlike_68
    · have h := ob_f h hc1
      refine vi_iconst (v := 0) C dX5_isUnlikeAlike_10 (by decide) ?_
      refine vi_istore_n (lv' := [(2, .int (0 : Int32)), (0, .ref (q 0)), (1, .int x1)]) C dX5_isUnlikeAlike_11 rfl (by decide) rfl ?_
      refine vi_sub C [1, 2, 0] rfl ?_
      exact kX5_isUnlikeAlike_12 C RET ih vF _ _ _ h
def fX5_isUnlikeAlike (u : vH) : Option (Int32 × vH) := fX5_isUnlikeAlike_2 vF (0 : Int32) u
set_option maxRecDepth 100000 in
set_option maxHeartbeats 4000000 in
theorem kX5_isUnlikeAlike_e {ad adK adV : Nat → Nat} {tS tF : Nat} {tX sK sV : Nat → Nat} {p : Program} {l : Launch} {e : Env} {s : State} {m : MethodId} {args : Array Value} {below : List Frame} {meth : Method} {c : Code} {A : Nat → Prop} {D : va_G} {cI cF cC cS cO cB cZ : ClassId} {Q : State → Prop} {q : Nat → Nat} (C : vC (vE ad adK adV tS tF tX sK sV) p l s m args meth c A D (vT7 cI cF cC cS cO cB cZ) cX5_isUnlikeAlike 3 RX5) {r0 : Int32} {u0 : vH} (RET : ∀ (pc : Nat) (lv : List (Nat × Value)), decode cX5_isUnlikeAlike pc = .ok (.ireturn, 1) → (r0 = 0 ∨ r0 = 1) → vV p l e { frames := 2, cells := 0, slots := 0, locals := 41 } s m args below meth c A D 3 0 0 Q (wS q cI cF u0) pc lv [.int r0]) {u : vH} (h : fX5_isUnlikeAlike u = some (r0, u0)) : vV p l e { frames := 2, cells := 0, slots := 0, locals := 41 } s m args below meth c A D 3 0 0 Q (wS q cI cF u) 0 [(0, .ref (q 0))] [] := by
  rw [fX5_isUnlikeAlike] at h
  refine vi_iconst (v := 0) C dX5_isUnlikeAlike_0 (by decide) ?_
  refine vi_istore_n (lv' := [(1, .int (0 : Int32)), (0, .ref (q 0))]) C dX5_isUnlikeAlike_1 rfl (by decide) rfl ?_
  refine vi_sub C [1, 0] rfl ?_
  exact kX5_isUnlikeAlike_2 C RET  vF _ _ h
theorem mX5_isUnlikeAlike {ad adK adV : Nat → Nat} {tS tF : Nat} {tX sK sV : Nat → Nat} (hE : vEok (vE ad adK adV tS tF tX sK sV)) {l : Launch} {D : va_G} {cI cF cC cS cO cB cZ : ClassId} {q : Nat → Nat} {r0 : Int32} {u0 : vH}  {u : vH} (h : fX5_isUnlikeAlike u = some (r0, u0)) : vM (vE ad adK adV tS tF tX sK sV) l yX5_isUnlikeAlike cX5_isUnlikeAlike 3 (some .boolean) 2 41 D (vT7 cI cF cC cS cO cB cZ) [.ref (q 0)] (wS q cI cF u) (vQi D (wS q cI cF u0) r0) :=
  vM_of hE (by decide +kernel) (Nat.le_of_ble_eq_true rfl) (fun p e s m args below meth c A C hr => kX5_isUnlikeAlike_e C (vi_retzz C hr) h)
-- ---- X5_isFixAlike
def fX5_isFixAlike_2 : Nat → Int32 → vH → Option (Int32 × vH)
  | 0, _, _ => none
  | n + 1, x1, u => (if u.1 0 0 ≤ x1 then some ((1 : Int32), u) else obp (fX5_hasFix x1 u) fun y3 u2 => (if y3 = 0 then bd ((x1 + 1 : Int32)) fun y5 => fX5_isFixAlike_2 n y5 u2 else obp (fX5_fixOf x1 u2) fun y7 u6 => obp (fX5_fixFromLatest x1 u6) fun y9 u8 => (if Op.cmpValue (FP.fcmp y7 y9) CmpOp.l = 0 then bd ((x1 + 1 : Int32)) fun y11 => fX5_isFixAlike_2 n y11 u8 else some ((0 : Int32), u8))))
set_option maxRecDepth 100000 in
set_option maxHeartbeats 4000000 in
theorem kX5_isFixAlike_2 {ad adK adV : Nat → Nat} {tS tF : Nat} {tX sK sV : Nat → Nat} {p : Program} {l : Launch} {e : Env} {s : State} {m : MethodId} {args : Array Value} {below : List Frame} {meth : Method} {c : Code} {A : Nat → Prop} {D : va_G} {cI cF cC cS cO cB cZ : ClassId} {Q : State → Prop} {q : Nat → Nat} (C : vC (vE ad adK adV tS tF tX sK sV) p l s m args meth c A D (vT7 cI cF cC cS cO cB cZ) cX5_isFixAlike 2 RX5) {r0 : Int32} {u0 : vH} (RET : ∀ (pc : Nat) (lv : List (Nat × Value)), decode cX5_isFixAlike pc = .ok (.ireturn, 1) → (r0 = 0 ∨ r0 = 1) → vV p l e { frames := 3, cells := 0, slots := 0, locals := 67 } s m args below meth c A D 2 0 0 Q (wS q cI cF u0) pc lv [.int r0]) : ∀ (n : Nat) (x1 : Int32) (u : vH), fX5_isFixAlike_2 n x1 u = some (r0, u0) → vV p l e { frames := 3, cells := 0, slots := 0, locals := 67 } s m args below meth c A D 2 0 0 Q (wS q cI cF u) 2 [(0, .ref (q 0)), (1, .int x1)] [] := by
  intro n
  induction n with
  | zero => intro x1 u h; rw [fX5_isFixAlike_2] at h; cases h
  | succ n ih =>
    intro x1 u h
    rw [fX5_isFixAlike_2] at h
    refine vi_iload_n C 1 dX5_isFixAlike_2 rfl ?_
    refine vi_aload_n C 0 dX5_isFixAlike_3 rfl ?_
    refine gS_X5_0_0 C dX5_isFixAlike_4 ?_
    refine vi_icmp_ge (tgt := 40) C dX5_isFixAlike_7 (by decide) (fun hc1 => ?_) (fun hc1 => ?_)
    · have h := ob_t h hc1
      refine vi_iconst (v := 1) C dX5_isFixAlike_40 (by decide) ?_
      exact vi_donez (W := wS q cI cF) RET h (by decide) dX5_isFixAlike_41
    · have h := ob_f h hc1
      refine vi_aload_n C 0 dX5_isFixAlike_10 rfl ?_
      refine vi_iload_n C 1 dX5_isFixAlike_11 rfl ?_
      obtain ⟨y3, u2, hgu2, h⟩ := ob_p h
      refine cS_X5_i (As := [.int x1]) (rest := []) C (mX5_hasFix C.2.2.2.2.2.2.2.2.1 hgu2) 1 rfl tcX5_hasFix tlX5_190 tiX5_hasFix tsX5_hasFix rfl tnX5 tdX5_hasFix ⟨Nat.le_of_ble_eq_true rfl, Nat.le_of_ble_eq_true rfl⟩ rfl (Nat.le_of_ble_eq_true rfl) dX5_isFixAlike_12 ?_
      refine vi_if_eq (tgt := 34) C dX5_isFixAlike_15 (by decide) (fun hc4 => ?_) (fun hc4 => ?_)
      · have h := ob_t h hc4
        obtain ⟨y5, ey5, h⟩ := ob_nm h
        refine vi_iinc (v := y5) (lv' := [(1, .int y5), (0, .ref (q 0))]) C 1 dX5_isFixAlike_34 rfl (by rw [ey5]; rfl) (by decide) rfl ?_
        refine vi_goto (tgt := 2) C dX5_isFixAlike_37 (by decide) ?_
        refine vi_sub C [1, 0] rfl ?_
        exact ih _ _ h
      · have h := ob_f h hc4
        refine vi_aload_n C 0 dX5_isFixAlike_18 rfl ?_
        refine vi_iload_n C 1 dX5_isFixAlike_19 rfl ?_
        obtain ⟨y7, u6, hgu6, h⟩ := ob_p h
        refine cS_X5_f (As := [.int x1]) (rest := []) C (mX5_fixOf C.2.2.2.2.2.2.2.2.1 hgu6) 1 rfl tcX5_fixOf tlX5_193 tiX5_fixOf tsX5_fixOf rfl tnX5 tdX5_fixOf ⟨Nat.le_of_ble_eq_true rfl, Nat.le_of_ble_eq_true rfl⟩ rfl (Nat.le_of_ble_eq_true rfl) dX5_isFixAlike_20 ?_
        refine vi_aload_n C 0 dX5_isFixAlike_23 rfl ?_
        refine vi_iload_n C 1 dX5_isFixAlike_24 rfl ?_
        obtain ⟨y9, u8, hgu8, h⟩ := ob_p h
        refine cS_X5_f (As := [.int x1]) (rest := [.float y7]) C (mX5_fixFromLatest C.2.2.2.2.2.2.2.2.1 hgu8) 1 rfl tcX5_fixFromLatest tlX5_196 tiX5_fixFromLatest tsX5_fixFromLatest rfl tnX5 tdX5_fixFromLatest ⟨Nat.le_of_ble_eq_true rfl, Nat.le_of_ble_eq_true rfl⟩ rfl (Nat.le_of_ble_eq_true rfl) dX5_isFixAlike_25 ?_
        refine vi_fcmp C dX5_isFixAlike_28 ?_
        refine vi_if_eq (tgt := 34) C dX5_isFixAlike_29 (by decide) (fun hc10 => ?_) (fun hc10 => ?_)
        · have h := ob_t h hc10
          obtain ⟨y11, ey11, h⟩ := ob_nm h
          refine vi_iinc (v := y11) (lv' := [(1, .int y11), (0, .ref (q 0))]) C 1 dX5_isFixAlike_34 rfl (by rw [ey11]; rfl) (by decide) rfl ?_
          refine vi_goto (tgt := 2) C dX5_isFixAlike_37 (by decide) ?_
          refine vi_sub C [1, 0] rfl ?_
          exact ih _ _ h
        · have h := ob_f h hc10
          refine vi_iconst (v := 0) C dX5_isFixAlike_32 (by decide) ?_
          exact vi_donez (W := wS q cI cF) RET h (by decide) dX5_isFixAlike_33
def fX5_isFixAlike (u : vH) : Option (Int32 × vH) := fX5_isFixAlike_2 vF (0 : Int32) u
set_option maxRecDepth 100000 in
set_option maxHeartbeats 4000000 in
theorem kX5_isFixAlike_e {ad adK adV : Nat → Nat} {tS tF : Nat} {tX sK sV : Nat → Nat} {p : Program} {l : Launch} {e : Env} {s : State} {m : MethodId} {args : Array Value} {below : List Frame} {meth : Method} {c : Code} {A : Nat → Prop} {D : va_G} {cI cF cC cS cO cB cZ : ClassId} {Q : State → Prop} {q : Nat → Nat} (C : vC (vE ad adK adV tS tF tX sK sV) p l s m args meth c A D (vT7 cI cF cC cS cO cB cZ) cX5_isFixAlike 2 RX5) {r0 : Int32} {u0 : vH} (RET : ∀ (pc : Nat) (lv : List (Nat × Value)), decode cX5_isFixAlike pc = .ok (.ireturn, 1) → (r0 = 0 ∨ r0 = 1) → vV p l e { frames := 3, cells := 0, slots := 0, locals := 67 } s m args below meth c A D 2 0 0 Q (wS q cI cF u0) pc lv [.int r0]) {u : vH} (h : fX5_isFixAlike u = some (r0, u0)) : vV p l e { frames := 3, cells := 0, slots := 0, locals := 67 } s m args below meth c A D 2 0 0 Q (wS q cI cF u) 0 [(0, .ref (q 0))] [] := by
  rw [fX5_isFixAlike] at h
  refine vi_iconst (v := 0) C dX5_isFixAlike_0 (by decide) ?_
  refine vi_istore_n (lv' := [(1, .int (0 : Int32)), (0, .ref (q 0))]) C dX5_isFixAlike_1 rfl (by decide) rfl ?_
  refine vi_sub C [1, 0] rfl ?_
  exact kX5_isFixAlike_2 C RET  vF _ _ h
theorem mX5_isFixAlike {ad adK adV : Nat → Nat} {tS tF : Nat} {tX sK sV : Nat → Nat} (hE : vEok (vE ad adK adV tS tF tX sK sV)) {l : Launch} {D : va_G} {cI cF cC cS cO cB cZ : ClassId} {q : Nat → Nat} {r0 : Int32} {u0 : vH}  {u : vH} (h : fX5_isFixAlike u = some (r0, u0)) : vM (vE ad adK adV tS tF tX sK sV) l yX5_isFixAlike cX5_isFixAlike 2 (some .boolean) 3 67 D (vT7 cI cF cC cS cO cB cZ) [.ref (q 0)] (wS q cI cF u) (vQi D (wS q cI cF u0) r0) :=
  vM_of hE (by decide +kernel) (Nat.le_of_ble_eq_true rfl) (fun p e s m args below meth c A C hr => kX5_isFixAlike_e C (vi_retzz C hr) h)
-- ---- X5_isLogOfCrew
def fX5_isLogOfCrew_2 : Nat → Int32 → vH → Option (Int32 × vH)
  | 0, _, _ => none
  | n + 1, x1, u => (if u.1 0 7 ≤ x1 then some ((1 : Int32), u) else if x1 < 0 ∨ 10 ≤ Int32.toNatClampNeg x1 then none else obp (fX5_hasSailor (u.1 5 (Int32.toNatClampNeg x1)) u) fun y4 u3 => (if y4 = 0 then some ((0 : Int32), u3) else bd ((x1 + 1 : Int32)) fun y6 => fX5_isLogOfCrew_2 n y6 u3))
set_option maxRecDepth 100000 in
set_option maxHeartbeats 4000000 in
theorem kX5_isLogOfCrew_2 {ad adK adV : Nat → Nat} {tS tF : Nat} {tX sK sV : Nat → Nat} {p : Program} {l : Launch} {e : Env} {s : State} {m : MethodId} {args : Array Value} {below : List Frame} {meth : Method} {c : Code} {A : Nat → Prop} {D : va_G} {cI cF cC cS cO cB cZ : ClassId} {Q : State → Prop} {q : Nat → Nat} (C : vC (vE ad adK adV tS tF tX sK sV) p l s m args meth c A D (vT7 cI cF cC cS cO cB cZ) cX5_isLogOfCrew 2 RX5) {r0 : Int32} {u0 : vH} (RET : ∀ (pc : Nat) (lv : List (Nat × Value)), decode cX5_isLogOfCrew pc = .ok (.ireturn, 1) → (r0 = 0 ∨ r0 = 1) → vV p l e { frames := 1, cells := 0, slots := 0, locals := 21 } s m args below meth c A D 2 0 0 Q (wS q cI cF u0) pc lv [.int r0]) : ∀ (n : Nat) (x1 : Int32) (u : vH), fX5_isLogOfCrew_2 n x1 u = some (r0, u0) → vV p l e { frames := 1, cells := 0, slots := 0, locals := 21 } s m args below meth c A D 2 0 0 Q (wS q cI cF u) 2 [(0, .ref (q 0)), (1, .int x1)] [] := by
  intro n
  induction n with
  | zero => intro x1 u h; rw [fX5_isLogOfCrew_2] at h; cases h
  | succ n ih =>
    intro x1 u h
    rw [fX5_isLogOfCrew_2] at h
    refine vi_iload_n C 1 dX5_isLogOfCrew_2 rfl ?_
    refine vi_aload_n C 0 dX5_isLogOfCrew_3 rfl ?_
    refine gS_X5_0_7 C dX5_isLogOfCrew_4 ?_
    refine vi_icmp_ge (tgt := 31) C dX5_isLogOfCrew_7 (by decide) (fun hc1 => ?_) (fun hc1 => ?_)
    · have h := ob_t h hc1
      refine vi_iconst (v := 1) C dX5_isLogOfCrew_31 (by decide) ?_
      exact vi_donez (W := wS q cI cF) RET h (by decide) dX5_isLogOfCrew_32
    · have h := ob_f h hc1
      refine vi_aload_n C 0 dX5_isLogOfCrew_10 rfl ?_
      refine vi_aload_n C 0 dX5_isLogOfCrew_11 rfl ?_
      refine gS_X5_0_8 C dX5_isLogOfCrew_12 ?_
      refine vi_iload_n C 1 dX5_isLogOfCrew_15 rfl ?_
      obtain ⟨hz2, h⟩ := ob_if h
      refine lS_X5_5 (n := (Int32.toNatClampNeg x1)) C hz2 rfl dX5_isLogOfCrew_16 ?_
      obtain ⟨y4, u3, hgu3, h⟩ := ob_p h
      refine cS_X5_i (As := [.int (u.1 5 (Int32.toNatClampNeg x1))]) (rest := []) C (mX5_hasSailor C.2.2.2.2.2.2.2.2.1 hgu3) 1 rfl tcX5_hasSailor tlX5_66 tiX5_hasSailor tsX5_hasSailor rfl tnX5 tdX5_hasSailor ⟨Nat.le_of_ble_eq_true rfl, Nat.le_of_ble_eq_true rfl⟩ rfl (Nat.le_of_ble_eq_true rfl) dX5_isLogOfCrew_17 ?_
      refine vi_if_ne (tgt := 25) C dX5_isLogOfCrew_20 (by decide) (fun hc5 => ?_) (fun hc5 => ?_)
      · have h := ob_f h hc5
        obtain ⟨y6, ey6, h⟩ := ob_nm h
        refine vi_iinc (v := y6) (lv' := [(1, .int y6), (0, .ref (q 0))]) C 1 dX5_isLogOfCrew_25 rfl (by rw [ey6]; rfl) (by decide) rfl ?_
        refine vi_goto (tgt := 2) C dX5_isLogOfCrew_28 (by decide) ?_
        refine vi_sub C [1, 0] rfl ?_
        exact ih _ _ h
      · have h := ob_t h hc5
        refine vi_iconst (v := 0) C dX5_isLogOfCrew_23 (by decide) ?_
        exact vi_donez (W := wS q cI cF) RET h (by decide) dX5_isLogOfCrew_24
def fX5_isLogOfCrew (u : vH) : Option (Int32 × vH) := fX5_isLogOfCrew_2 vF (0 : Int32) u
set_option maxRecDepth 100000 in
set_option maxHeartbeats 4000000 in
theorem kX5_isLogOfCrew_e {ad adK adV : Nat → Nat} {tS tF : Nat} {tX sK sV : Nat → Nat} {p : Program} {l : Launch} {e : Env} {s : State} {m : MethodId} {args : Array Value} {below : List Frame} {meth : Method} {c : Code} {A : Nat → Prop} {D : va_G} {cI cF cC cS cO cB cZ : ClassId} {Q : State → Prop} {q : Nat → Nat} (C : vC (vE ad adK adV tS tF tX sK sV) p l s m args meth c A D (vT7 cI cF cC cS cO cB cZ) cX5_isLogOfCrew 2 RX5) {r0 : Int32} {u0 : vH} (RET : ∀ (pc : Nat) (lv : List (Nat × Value)), decode cX5_isLogOfCrew pc = .ok (.ireturn, 1) → (r0 = 0 ∨ r0 = 1) → vV p l e { frames := 1, cells := 0, slots := 0, locals := 21 } s m args below meth c A D 2 0 0 Q (wS q cI cF u0) pc lv [.int r0]) {u : vH} (h : fX5_isLogOfCrew u = some (r0, u0)) : vV p l e { frames := 1, cells := 0, slots := 0, locals := 21 } s m args below meth c A D 2 0 0 Q (wS q cI cF u) 0 [(0, .ref (q 0))] [] := by
  rw [fX5_isLogOfCrew] at h
  refine vi_iconst (v := 0) C dX5_isLogOfCrew_0 (by decide) ?_
  refine vi_istore_n (lv' := [(1, .int (0 : Int32)), (0, .ref (q 0))]) C dX5_isLogOfCrew_1 rfl (by decide) rfl ?_
  refine vi_sub C [1, 0] rfl ?_
  exact kX5_isLogOfCrew_2 C RET  vF _ _ h
theorem mX5_isLogOfCrew {ad adK adV : Nat → Nat} {tS tF : Nat} {tX sK sV : Nat → Nat} (hE : vEok (vE ad adK adV tS tF tX sK sV)) {l : Launch} {D : va_G} {cI cF cC cS cO cB cZ : ClassId} {q : Nat → Nat} {r0 : Int32} {u0 : vH}  {u : vH} (h : fX5_isLogOfCrew u = some (r0, u0)) : vM (vE ad adK adV tS tF tX sK sV) l yX5_isLogOfCrew cX5_isLogOfCrew 2 (some .boolean) 1 21 D (vT7 cI cF cC cS cO cB cZ) [.ref (q 0)] (wS q cI cF u) (vQi D (wS q cI cF u0) r0) :=
  vM_of hE (by decide +kernel) (Nat.le_of_ble_eq_true rfl) (fun p e s m args below meth c A C hr => kX5_isLogOfCrew_e C (vi_retzz C hr) h)
-- ---- X5_isRumCounted
def fX5_isRumCounted (u : vH) : Option (Int32 × vH) := obp (fX5_allCups u) fun y2 u1 => (if u.1 0 12 = (y2 + (u1.1 0 13)) + (u1.1 0 14) then some ((1 : Int32), u1) else some ((0 : Int32), u1))
set_option maxRecDepth 100000 in
set_option maxHeartbeats 4000000 in
theorem kX5_isRumCounted_e {ad adK adV : Nat → Nat} {tS tF : Nat} {tX sK sV : Nat → Nat} {p : Program} {l : Launch} {e : Env} {s : State} {m : MethodId} {args : Array Value} {below : List Frame} {meth : Method} {c : Code} {A : Nat → Prop} {D : va_G} {cI cF cC cS cO cB cZ : ClassId} {Q : State → Prop} {q : Nat → Nat} (C : vC (vE ad adK adV tS tF tX sK sV) p l s m args meth c A D (vT7 cI cF cC cS cO cB cZ) cX5_isRumCounted 1 RX5) {r0 : Int32} {u0 : vH} (RET : ∀ (pc : Nat) (lv : List (Nat × Value)), decode cX5_isRumCounted pc = .ok (.ireturn, 1) → (r0 = 0 ∨ r0 = 1) → vV p l e { frames := 1, cells := 0, slots := 0, locals := 22 } s m args below meth c A D 1 0 0 Q (wS q cI cF u0) pc lv [.int r0]) {u : vH} (h : fX5_isRumCounted u = some (r0, u0)) : vV p l e { frames := 1, cells := 0, slots := 0, locals := 22 } s m args below meth c A D 1 0 0 Q (wS q cI cF u) 0 [(0, .ref (q 0))] [] := by
  rw [fX5_isRumCounted] at h
  refine vi_aload_n C 0 dX5_isRumCounted_0 rfl ?_
  refine gS_X5_0_12 C dX5_isRumCounted_1 ?_
  refine vi_aload_n C 0 dX5_isRumCounted_4 rfl ?_
  obtain ⟨y2, u1, hgu1, h⟩ := ob_p h
  refine cS_X5_i (As := []) (rest := [.int (u.1 0 12)]) C (mX5_allCups C.2.2.2.2.2.2.2.2.1 hgu1) 0 rfl tcX5_allCups tlX5_199 tiX5_allCups tsX5_allCups rfl tnX5 tdX5_allCups ⟨Nat.le_of_ble_eq_true rfl, Nat.le_of_ble_eq_true rfl⟩ rfl (Nat.le_of_ble_eq_true rfl) dX5_isRumCounted_5 ?_
  refine vi_aload_n C 0 dX5_isRumCounted_8 rfl ?_
  refine gS_X5_0_13 C dX5_isRumCounted_9 ?_
  refine vi_iadd C dX5_isRumCounted_12 ?_
  refine vi_aload_n C 0 dX5_isRumCounted_13 rfl ?_
  refine gS_X5_0_14 C dX5_isRumCounted_14 ?_
  refine vi_iadd C dX5_isRumCounted_17 ?_
  refine vi_icmp_ne (tgt := 25) C dX5_isRumCounted_18 (by decide) (fun hc3 => ?_) (fun hc3 => ?_)
  · have h := ob_f h hc3
    refine vi_iconst (v := 0) C dX5_isRumCounted_25 (by decide) ?_
    exact vi_donez (W := wS q cI cF) RET h (by decide) dX5_isRumCounted_26
  · have h := ob_t h hc3
    refine vi_iconst (v := 1) C dX5_isRumCounted_21 (by decide) ?_
    refine vi_goto (tgt := 26) C dX5_isRumCounted_22 (by decide) ?_
    exact vi_donez (W := wS q cI cF) RET h (by decide) dX5_isRumCounted_26
theorem mX5_isRumCounted {ad adK adV : Nat → Nat} {tS tF : Nat} {tX sK sV : Nat → Nat} (hE : vEok (vE ad adK adV tS tF tX sK sV)) {l : Launch} {D : va_G} {cI cF cC cS cO cB cZ : ClassId} {q : Nat → Nat} {r0 : Int32} {u0 : vH}  {u : vH} (h : fX5_isRumCounted u = some (r0, u0)) : vM (vE ad adK adV tS tF tX sK sV) l yX5_isRumCounted cX5_isRumCounted 1 (some .boolean) 1 22 D (vT7 cI cF cC cS cO cB cZ) [.ref (q 0)] (wS q cI cF u) (vQi D (wS q cI cF u0) r0) :=
  vM_of hE (by decide +kernel) (Nat.le_of_ble_eq_true rfl) (fun p e s m args below meth c A C hr => kX5_isRumCounted_e C (vi_retzz C hr) h)
