-- ---- X5_isLogOfCrew
def fX5_isLogOfCrew_2 : Nat → Int32 → vH → Option (Int32 × vH)
  | 0, _, _ => none
  | n + 1, x1, u => (if u.1 0 7 ≤ x1 then some ((1 : Int32), u) else if x1 < 0 ∨ 10 ≤ Int32.toNatClampNeg x1 then none else obp (fX5_hasSailor (u.1 5 (Int32.toNatClampNeg x1)) u) fun y4 u3 => (if y4 = 0 then some ((0 : Int32), u3) else bd ((x1 + 1 : Int32)) fun y6 => fX5_isLogOfCrew_2 n y6 u3))
set_option maxRecDepth 100000 in
set_option maxHeartbeats 4000000 in
theorem kX5_isLogOfCrew_2 {ad adK adV : Nat → Nat} {tS tF : Nat} {p : Program} {l : Launch} {e : Env} {s : State} {m : MethodId} {args : Array Value} {below : List Frame} {meth : Method} {c : Code} {A : Nat → Prop} {D : va_G} {cI cF cC cS cO : ClassId} {Q : State → Prop} {q : Nat → Nat} (C : vC (vE ad adK adV tS tF) p l s m args meth c A D (vT5 cI cF cC cS cO) cX5_isLogOfCrew 2 RX5) {r0 : Int32} {u0 : vH} (RET : ∀ (pc : Nat) (lv : List (Nat × Value)), decode cX5_isLogOfCrew pc = .ok (.ireturn, 1) → (r0 = 0 ∨ r0 = 1) → vV p l e { frames := 1, cells := 0, slots := 0, locals := 21 } s m args below meth c A D 2 0 0 Q (wS q cI cF u0) pc lv [.int r0]) : ∀ (n : Nat) (x1 : Int32) (u : vH), fX5_isLogOfCrew_2 n x1 u = some (r0, u0) → vV p l e { frames := 1, cells := 0, slots := 0, locals := 21 } s m args below meth c A D 2 0 0 Q (wS q cI cF u) 2 [(0, .ref (q 0)), (1, .int x1)] [] := by
  intro n
  induction n with
  | zero => intro x1 u h; rw [fX5_isLogOfCrew_2] at h; cases h
  | succ n ih =>
    intro x1 u h
    rw [fX5_isLogOfCrew_2] at h
    refine vi_iload_n C 1 dX5_isLogOfCrew_2 rfl ?_
    refine vi_aload_n C 0 dX5_isLogOfCrew_3 rfl ?_
    refine gS_X5_0_7 C dX5_isLogOfCrew_4 ?_
    refine vi_icmp_ge (tgt := 31) C dX5_isLogOfCrew_7 (by decide) (fun hc1 => ?_) (fun hc1 => ?_)
    · have h := ob_t h hc1
      refine vi_iconst (v := 1) C dX5_isLogOfCrew_31 (by decide) ?_
      exact vi_donez (W := wS q cI cF) RET h (by decide) dX5_isLogOfCrew_32
    · have h := ob_f h hc1
      refine vi_aload_n C 0 dX5_isLogOfCrew_10 rfl ?_
      refine vi_aload_n C 0 dX5_isLogOfCrew_11 rfl ?_
      refine gS_X5_0_8 C dX5_isLogOfCrew_12 ?_
      refine vi_iload_n C 1 dX5_isLogOfCrew_15 rfl ?_
      obtain ⟨hz2, h⟩ := ob_if h
      refine lS_X5_5 (n := (Int32.toNatClampNeg x1)) C hz2 rfl dX5_isLogOfCrew_16 ?_
      obtain ⟨y4, u3, hgu3, h⟩ := ob_p h
      refine cS_X5_i (As := [.int (u.1 5 (Int32.toNatClampNeg x1))]) (rest := []) C (mX5_hasSailor C.2.2.2.2.2.2.2.2.1 hgu3) 1 rfl tcX5_hasSailor tlX5_66 tiX5_hasSailor tsX5_hasSailor rfl tnX5 tdX5_hasSailor ⟨Nat.le_of_ble_eq_true rfl, Nat.le_of_ble_eq_true rfl⟩ rfl (Nat.le_of_ble_eq_true rfl) dX5_isLogOfCrew_17 ?_
      refine vi_if_ne (tgt := 25) C dX5_isLogOfCrew_20 (by decide) (fun hc5 => ?_) (fun hc5 => ?_)
      · have h := ob_f h hc5
        obtain ⟨y6, ey6, h⟩ := ob_nm h
        refine vi_iinc (v := y6) (lv' := [(1, .int y6), (0, .ref (q 0))]) C 1 dX5_isLogOfCrew_25 rfl (by rw [ey6]; rfl) (by decide) rfl ?_
        refine vi_goto (tgt := 2) C dX5_isLogOfCrew_28 (by decide) ?_
        refine vi_sub C [1, 0] rfl ?_
        exact ih _ _ h
      · have h := ob_t h hc5
        refine vi_iconst (v := 0) C dX5_isLogOfCrew_23 (by decide) ?_
        exact vi_donez (W := wS q cI cF) RET h (by decide) dX5_isLogOfCrew_24
def fX5_isLogOfCrew (u : vH) : Option (Int32 × vH) := fX5_isLogOfCrew_2 vF (0 : Int32) u
set_option maxRecDepth 100000 in
set_option maxHeartbeats 4000000 in
theorem kX5_isLogOfCrew_e {ad adK adV : Nat → Nat} {tS tF : Nat} {p : Program} {l : Launch} {e : Env} {s : State} {m : MethodId} {args : Array Value} {below : List Frame} {meth : Method} {c : Code} {A : Nat → Prop} {D : va_G} {cI cF cC cS cO : ClassId} {Q : State → Prop} {q : Nat → Nat} (C : vC (vE ad adK adV tS tF) p l s m args meth c A D (vT5 cI cF cC cS cO) cX5_isLogOfCrew 2 RX5) {r0 : Int32} {u0 : vH} (RET : ∀ (pc : Nat) (lv : List (Nat × Value)), decode cX5_isLogOfCrew pc = .ok (.ireturn, 1) → (r0 = 0 ∨ r0 = 1) → vV p l e { frames := 1, cells := 0, slots := 0, locals := 21 } s m args below meth c A D 2 0 0 Q (wS q cI cF u0) pc lv [.int r0]) {u : vH} (h : fX5_isLogOfCrew u = some (r0, u0)) : vV p l e { frames := 1, cells := 0, slots := 0, locals := 21 } s m args below meth c A D 2 0 0 Q (wS q cI cF u) 0 [(0, .ref (q 0))] [] := by
  rw [fX5_isLogOfCrew] at h
  refine vi_iconst (v := 0) C dX5_isLogOfCrew_0 (by decide) ?_
  refine vi_istore_n (lv' := [(1, .int (0 : Int32)), (0, .ref (q 0))]) C dX5_isLogOfCrew_1 rfl (by decide) rfl ?_
  refine vi_sub C [1, 0] rfl ?_
  exact kX5_isLogOfCrew_2 C RET  vF _ _ h
theorem mX5_isLogOfCrew {ad adK adV : Nat → Nat} {tS tF : Nat} (hE : vEok (vE ad adK adV tS tF)) {l : Launch} {D : va_G} {cI cF cC cS cO : ClassId} {q : Nat → Nat} {r0 : Int32} {u0 : vH}  {u : vH} (h : fX5_isLogOfCrew u = some (r0, u0)) : vM (vE ad adK adV tS tF) l yX5_isLogOfCrew cX5_isLogOfCrew 2 (some .boolean) 1 21 D (vT5 cI cF cC cS cO) [.ref (q 0)] (wS q cI cF u) (vQi D (wS q cI cF u0) r0) :=
  vM_of hE (by decide +kernel) (Nat.le_of_ble_eq_true rfl) (fun p e s m args below meth c A C hr => kX5_isLogOfCrew_e C (vi_retzz C hr) h)
-- ---- X5_isRumCounted
def fX5_isRumCounted (u : vH) : Option (Int32 × vH) := obp (fX5_allCups u) fun y2 u1 => (if u.1 0 12 = (y2 + (u1.1 0 13)) + (u1.1 0 14) then some ((1 : Int32), u1) else some ((0 : Int32), u1))
set_option maxRecDepth 100000 in
set_option maxHeartbeats 4000000 in
theorem kX5_isRumCounted_e {ad adK adV : Nat → Nat} {tS tF : Nat} {p : Program} {l : Launch} {e : Env} {s : State} {m : MethodId} {args : Array Value} {below : List Frame} {meth : Method} {c : Code} {A : Nat → Prop} {D : va_G} {cI cF cC cS cO : ClassId} {Q : State → Prop} {q : Nat → Nat} (C : vC (vE ad adK adV tS tF) p l s m args meth c A D (vT5 cI cF cC cS cO) cX5_isRumCounted 1 RX5) {r0 : Int32} {u0 : vH} (RET : ∀ (pc : Nat) (lv : List (Nat × Value)), decode cX5_isRumCounted pc = .ok (.ireturn, 1) → (r0 = 0 ∨ r0 = 1) → vV p l e { frames := 1, cells := 0, slots := 0, locals := 22 } s m args below meth c A D 1 0 0 Q (wS q cI cF u0) pc lv [.int r0]) {u : vH} (h : fX5_isRumCounted u = some (r0, u0)) : vV p l e { frames := 1, cells := 0, slots := 0, locals := 22 } s m args below meth c A D 1 0 0 Q (wS q cI cF u) 0 [(0, .ref (q 0))] [] := by
  rw [fX5_isRumCounted] at h
  refine vi_aload_n C 0 dX5_isRumCounted_0 rfl ?_
  refine gS_X5_0_12 C dX5_isRumCounted_1 ?_
  refine vi_aload_n C 0 dX5_isRumCounted_4 rfl ?_
  obtain ⟨y2, u1, hgu1, h⟩ := ob_p h
  refine cS_X5_i (As := []) (rest := [.int (u.1 0 12)]) C (mX5_allCups C.2.2.2.2.2.2.2.2.1 hgu1) 0 rfl tcX5_allCups tlX5_199 tiX5_allCups tsX5_allCups rfl tnX5 tdX5_allCups ⟨Nat.le_of_ble_eq_true rfl, Nat.le_of_ble_eq_true rfl⟩ rfl (Nat.le_of_ble_eq_true rfl) dX5_isRumCounted_5 ?_
  refine vi_aload_n C 0 dX5_isRumCounted_8 rfl ?_
  refine gS_X5_0_13 C dX5_isRumCounted_9 ?_
  refine vi_iadd C dX5_isRumCounted_12 ?_
  refine vi_aload_n C 0 dX5_isRumCounted_13 rfl ?_
  refine gS_X5_0_14 C dX5_isRumCounted_14 ?_
  refine vi_iadd C dX5_isRumCounted_17 ?_
  refine vi_icmp_ne (tgt := 25) C dX5_isRumCounted_18 (by decide) (fun hc3 => ?_) (fun hc3 => ?_)
  · have h := ob_f h hc3
    refine vi_iconst (v := 0) C dX5_isRumCounted_25 (by decide) ?_
    exact vi_donez (W := wS q cI cF) RET h (by decide) dX5_isRumCounted_26
  · have h := ob_t h hc3
    refine vi_iconst (v := 1) C dX5_isRumCounted_21 (by decide) ?_
    refine vi_goto (tgt := 26) C dX5_isRumCounted_22 (by decide) ?_
    exact vi_donez (W := wS q cI cF) RET h (by decide) dX5_isRumCounted_26
theorem mX5_isRumCounted {ad adK adV : Nat → Nat} {tS tF : Nat} (hE : vEok (vE ad adK adV tS tF)) {l : Launch} {D : va_G} {cI cF cC cS cO : ClassId} {q : Nat → Nat} {r0 : Int32} {u0 : vH}  {u : vH} (h : fX5_isRumCounted u = some (r0, u0)) : vM (vE ad adK adV tS tF) l yX5_isRumCounted cX5_isRumCounted 1 (some .boolean) 1 22 D (vT5 cI cF cC cS cO) [.ref (q 0)] (wS q cI cF u) (vQi D (wS q cI cF u0) r0) :=
  vM_of hE (by decide +kernel) (Nat.le_of_ble_eq_true rfl) (fun p e s m args below meth c A C hr => kX5_isRumCounted_e C (vi_retzz C hr) h)
