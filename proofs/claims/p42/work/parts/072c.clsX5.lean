-- ---- X5_sightsOf
def fX5_sightsOf_4 : Nat → Int32 → Int32 → Int32 → vH → Option (Int32 × vH)
  | 0, _, _, _, _ => none
  | n + 1, x1, x2, x3, u => (if u.1 0 7 ≤ x3 then some (x2, u) else if x3 < 0 ∨ 10 ≤ Int32.toNatClampNeg x3 then none else (if u.1 5 (Int32.toNatClampNeg x3) = x1 then bd ((x2 + 1 : Int32)) fun y5 => bd ((x3 + 1 : Int32)) fun y6 => fX5_sightsOf_4 n x1 y5 y6 u else bd ((x3 + 1 : Int32)) fun y4 => fX5_sightsOf_4 n x1 x2 y4 u))
set_option maxRecDepth 100000 in
set_option maxHeartbeats 4000000 in
theorem kX5_sightsOf_4 {ad adK adV : Nat → Nat} {tS tF : Nat} {tX sK sV : Nat → Nat} {p : Program} {l : Launch} {e : Env} {s : State} {m : MethodId} {args : Array Value} {below : List Frame} {meth : Method} {c : Code} {A : Nat → Prop} {D : va_G} {cI cF cC cS cO cB cZ : ClassId} {Q : State → Prop} {q : Nat → Nat} (C : vC (vE ad adK adV tS tF tX sK sV) p l s m args meth c A D (vT7 cI cF cC cS cO cB cZ) cX5_sightsOf 4 RX5) {r0 : Int32} {u0 : vH} (RET : ∀ (pc : Nat) (lv : List (Nat × Value)), decode cX5_sightsOf pc = .ok (.ireturn, 1) → vV p l e { frames := 0, cells := 0, slots := 0, locals := 0 } s m args below meth c A D 4 0 0 Q (wS q cI cF u0) pc lv [.int r0]) : ∀ (n : Nat) (x1 : Int32) (x2 : Int32) (x3 : Int32) (u : vH), fX5_sightsOf_4 n x1 x2 x3 u = some (r0, u0) → vV p l e { frames := 0, cells := 0, slots := 0, locals := 0 } s m args below meth c A D 4 0 0 Q (wS q cI cF u) 4 [(0, .ref (q 0)), (1, .int x1), (2, .int x2), (3, .int x3)] [] := by
  intro n
  induction n with
  | zero => intro x1 x2 x3 u h; rw [fX5_sightsOf_4] at h; cases h
  | succ n ih =>
    intro x1 x2 x3 u h
    rw [fX5_sightsOf_4] at h
    refine vi_iload_n C 3 dX5_sightsOf_4 rfl ?_
    refine vi_aload_n C 0 dX5_sightsOf_5 rfl ?_
    refine gS_X5_0_7 C dX5_sightsOf_6 ?_
    refine vi_icmp_ge (tgt := 31) C dX5_sightsOf_9 (by decide) (fun hc1 => ?_) (fun hc1 => ?_)
    · have h := ob_t h hc1
      refine vi_iload_n C 2 dX5_sightsOf_31 rfl ?_
      exact vi_donei (W := wS q cI cF) RET h dX5_sightsOf_32
    · have h := ob_f h hc1
      refine vi_aload_n C 0 dX5_sightsOf_12 rfl ?_
      refine gS_X5_0_8 C dX5_sightsOf_13 ?_
      refine vi_iload_n C 3 dX5_sightsOf_16 rfl ?_
      obtain ⟨hz2, h⟩ := ob_if h
      refine lS_X5_5 (n := (Int32.toNatClampNeg x3)) C hz2 rfl dX5_sightsOf_17 ?_
      refine vi_iload_n C 1 dX5_sightsOf_18 rfl ?_
      refine vi_icmp_ne (tgt := 25) C dX5_sightsOf_19 (by decide) (fun hc3 => ?_) (fun hc3 => ?_)
      · have h := ob_f h hc3
        obtain ⟨y4, ey4, h⟩ := ob_nm h
        refine vi_iinc (v := y4) (lv' := [(3, .int y4), (0, .ref (q 0)), (1, .int x1), (2, .int x2)]) C 3 dX5_sightsOf_25 rfl (by rw [ey4]; rfl) (by decide) rfl ?_
        refine vi_goto (tgt := 4) C dX5_sightsOf_28 (by decide) ?_
        refine vi_sub C [1, 2, 3, 0] rfl ?_
        exact ih _ _ _ _ h
      · have h := ob_t h hc3
        obtain ⟨y5, ey5, h⟩ := ob_nm h
        refine vi_iinc (v := y5) (lv' := [(2, .int y5), (0, .ref (q 0)), (1, .int x1), (3, .int x3)]) C 2 dX5_sightsOf_22 rfl (by rw [ey5]; rfl) (by decide) rfl ?_
        obtain ⟨y6, ey6, h⟩ := ob_nm h
        refine vi_iinc (v := y6) (lv' := [(3, .int y6), (2, .int y5), (0, .ref (q 0)), (1, .int x1)]) C 3 dX5_sightsOf_25 rfl (by rw [ey6]; rfl) (by decide) rfl ?_
        refine vi_goto (tgt := 4) C dX5_sightsOf_28 (by decide) ?_
        refine vi_sub C [2, 3, 1, 0] rfl ?_
        exact ih _ _ _ _ h
def fX5_sightsOf (x1 : Int32) (u : vH) : Option (Int32 × vH) := fX5_sightsOf_4 vF x1 (0 : Int32) (0 : Int32) u
set_option maxRecDepth 100000 in
set_option maxHeartbeats 4000000 in
theorem kX5_sightsOf_e {ad adK adV : Nat → Nat} {tS tF : Nat} {tX sK sV : Nat → Nat} {p : Program} {l : Launch} {e : Env} {s : State} {m : MethodId} {args : Array Value} {below : List Frame} {meth : Method} {c : Code} {A : Nat → Prop} {D : va_G} {cI cF cC cS cO cB cZ : ClassId} {Q : State → Prop} {q : Nat → Nat} (C : vC (vE ad adK adV tS tF tX sK sV) p l s m args meth c A D (vT7 cI cF cC cS cO cB cZ) cX5_sightsOf 4 RX5) {r0 : Int32} {u0 : vH} (RET : ∀ (pc : Nat) (lv : List (Nat × Value)), decode cX5_sightsOf pc = .ok (.ireturn, 1) → vV p l e { frames := 0, cells := 0, slots := 0, locals := 0 } s m args below meth c A D 4 0 0 Q (wS q cI cF u0) pc lv [.int r0]) {x1 : Int32} {u : vH} (h : fX5_sightsOf x1 u = some (r0, u0)) : vV p l e { frames := 0, cells := 0, slots := 0, locals := 0 } s m args below meth c A D 4 0 0 Q (wS q cI cF u) 0 [(0, .ref (q 0)), (1, .int x1)] [] := by
  rw [fX5_sightsOf] at h
  refine vi_iconst (v := 0) C dX5_sightsOf_0 (by decide) ?_
  refine vi_istore_n (lv' := [(2, .int (0 : Int32)), (0, .ref (q 0)), (1, .int x1)]) C dX5_sightsOf_1 rfl (by decide) rfl ?_
  refine vi_iconst (v := 0) C dX5_sightsOf_2 (by decide) ?_
  refine vi_istore_n (lv' := [(3, .int (0 : Int32)), (2, .int (0 : Int32)), (0, .ref (q 0)), (1, .int x1)]) C dX5_sightsOf_3 rfl (by decide) rfl ?_
  refine vi_sub C [2, 3, 1, 0] rfl ?_
  exact kX5_sightsOf_4 C RET  vF _ _ _ _ h
theorem mX5_sightsOf {ad adK adV : Nat → Nat} {tS tF : Nat} {tX sK sV : Nat → Nat} (hE : vEok (vE ad adK adV tS tF tX sK sV)) {l : Launch} {D : va_G} {cI cF cC cS cO cB cZ : ClassId} {q : Nat → Nat} {r0 : Int32} {u0 : vH}  {x1 : Int32} {u : vH} (h : fX5_sightsOf x1 u = some (r0, u0)) : vM (vE ad adK adV tS tF tX sK sV) l yX5_sightsOf cX5_sightsOf 4 (some .int) 0 0 D (vT7 cI cF cC cS cO cB cZ) [.ref (q 0), .int x1] (wS q cI cF u) (vQi D (wS q cI cF u0) r0) :=
  vM_of hE (by decide +kernel) (Nat.le_of_ble_eq_true rfl) (fun p e s m args below meth c A C hr => kX5_sightsOf_e C (vi_reti C hr) h)
-- ---- X5_hasFix
def fX5_hasFix (x1 : Int32) (u : vH) : Option (Int32 × vH) := obp (fX5_sightsOf x1 u) fun y2 u1 => (if y2 < (2 : Int32) then some ((0 : Int32), u1) else some ((1 : Int32), u1))
set_option maxRecDepth 100000 in
set_option maxHeartbeats 4000000 in
theorem kX5_hasFix_e {ad adK adV : Nat → Nat} {tS tF : Nat} {tX sK sV : Nat → Nat} {p : Program} {l : Launch} {e : Env} {s : State} {m : MethodId} {args : Array Value} {below : List Frame} {meth : Method} {c : Code} {A : Nat → Prop} {D : va_G} {cI cF cC cS cO cB cZ : ClassId} {Q : State → Prop} {q : Nat → Nat} (C : vC (vE ad adK adV tS tF tX sK sV) p l s m args meth c A D (vT7 cI cF cC cS cO cB cZ) cX5_hasFix 2 RX5) {r0 : Int32} {u0 : vH} (RET : ∀ (pc : Nat) (lv : List (Nat × Value)), decode cX5_hasFix pc = .ok (.ireturn, 1) → (r0 = 0 ∨ r0 = 1) → vV p l e { frames := 1, cells := 0, slots := 0, locals := 23 } s m args below meth c A D 2 0 0 Q (wS q cI cF u0) pc lv [.int r0]) {x1 : Int32} {u : vH} (h : fX5_hasFix x1 u = some (r0, u0)) : vV p l e { frames := 1, cells := 0, slots := 0, locals := 23 } s m args below meth c A D 2 0 0 Q (wS q cI cF u) 0 [(0, .ref (q 0)), (1, .int x1)] [] := by
  rw [fX5_hasFix] at h
  refine vi_aload_n C 0 dX5_hasFix_0 rfl ?_
  refine vi_iload_n C 1 dX5_hasFix_1 rfl ?_
  obtain ⟨y2, u1, hgu1, h⟩ := ob_p h
  refine cS_X5_i (As := [.int x1]) (rest := []) C (mX5_sightsOf C.2.2.2.2.2.2.2.2.1 hgu1) 1 rfl tcX5_sightsOf tlX5_159 tiX5_sightsOf tsX5_sightsOf rfl tnX5 tdX5_sightsOf ⟨Nat.le_of_ble_eq_true rfl, Nat.le_of_ble_eq_true rfl⟩ rfl (Nat.le_of_ble_eq_true rfl) dX5_hasFix_2 ?_
  refine vi_iconst (v := 2) C dX5_hasFix_5 (by decide) ?_
  refine vi_icmp_lt (tgt := 13) C dX5_hasFix_6 (by decide) (fun hc3 => ?_) (fun hc3 => ?_)
  · have h := ob_t h hc3
    refine vi_iconst (v := 0) C dX5_hasFix_13 (by decide) ?_
    exact vi_donez (W := wS q cI cF) RET h (by decide) dX5_hasFix_14
  · have h := ob_f h hc3
    refine vi_iconst (v := 1) C dX5_hasFix_9 (by decide) ?_
    refine vi_goto (tgt := 14) C dX5_hasFix_10 (by decide) ?_
    exact vi_donez (W := wS q cI cF) RET h (by decide) dX5_hasFix_14
theorem mX5_hasFix {ad adK adV : Nat → Nat} {tS tF : Nat} {tX sK sV : Nat → Nat} (hE : vEok (vE ad adK adV tS tF tX sK sV)) {l : Launch} {D : va_G} {cI cF cC cS cO cB cZ : ClassId} {q : Nat → Nat} {r0 : Int32} {u0 : vH}  {x1 : Int32} {u : vH} (h : fX5_hasFix x1 u = some (r0, u0)) : vM (vE ad adK adV tS tF tX sK sV) l yX5_hasFix cX5_hasFix 2 (some .boolean) 1 23 D (vT7 cI cF cC cS cO cB cZ) [.ref (q 0), .int x1] (wS q cI cF u) (vQi D (wS q cI cF u0) r0) :=
  vM_of hE (by decide +kernel) (Nat.le_of_ble_eq_true rfl) (fun p e s m args below meth c A C hr => kX5_hasFix_e C (vi_retzz C hr) h)
-- ---- X5_latestReading
def fX5_latestReading (x1 : Int32) (u : vH) : Option (UInt32 × vH) := obp (fX5_sightFrom x1 (0 : Int32) u) fun y2 u1 => (if y2 = (-1 : Int32) then some (FP.fconst0, u1) else if y2 < 0 ∨ 10 ≤ Int32.toNatClampNeg y2 then none else some (u1.2 (Int32.toNatClampNeg y2), u1))
set_option maxRecDepth 100000 in
set_option maxHeartbeats 4000000 in
theorem kX5_latestReading_e {ad adK adV : Nat → Nat} {tS tF : Nat} {tX sK sV : Nat → Nat} {p : Program} {l : Launch} {e : Env} {s : State} {m : MethodId} {args : Array Value} {below : List Frame} {meth : Method} {c : Code} {A : Nat → Prop} {D : va_G} {cI cF cC cS cO cB cZ : ClassId} {Q : State → Prop} {q : Nat → Nat} (C : vC (vE ad adK adV tS tF tX sK sV) p l s m args meth c A D (vT7 cI cF cC cS cO cB cZ) cX5_latestReading 3 RX5) {r0 : UInt32} {u0 : vH} (RET : ∀ (pc : Nat) (lv : List (Nat × Value)), decode cX5_latestReading pc = .ok (.freturn, 1) → vV p l e { frames := 1, cells := 0, slots := 0, locals := 23 } s m args below meth c A D 3 0 0 Q (wS q cI cF u0) pc lv [.float r0]) {x1 : Int32} {u : vH} (h : fX5_latestReading x1 u = some (r0, u0)) : vV p l e { frames := 1, cells := 0, slots := 0, locals := 23 } s m args below meth c A D 3 0 0 Q (wS q cI cF u) 0 [(0, .ref (q 0)), (1, .int x1)] [] := by
  rw [fX5_latestReading] at h
  refine vi_aload_n C 0 dX5_latestReading_0 rfl ?_
  refine vi_iload_n C 1 dX5_latestReading_1 rfl ?_
  refine vi_iconst (v := 0) C dX5_latestReading_2 (by decide) ?_
  obtain ⟨y2, u1, hgu1, h⟩ := ob_p h
  refine cS_X5_i (As := [.int x1, .int (0 : Int32)]) (rest := []) C (mX5_sightFrom C.2.2.2.2.2.2.2.2.1 hgu1) 2 rfl tcX5_sightFrom tlX5_127 tiX5_sightFrom tsX5_sightFrom rfl tnX5 tdX5_sightFrom ⟨Nat.le_of_ble_eq_true rfl, Nat.le_of_ble_eq_true rfl⟩ rfl (Nat.le_of_ble_eq_true rfl) dX5_latestReading_3 ?_
  refine vi_istore_n (lv' := [(2, .int y2), (0, .ref (q 0)), (1, .int x1)]) C dX5_latestReading_6 rfl (by decide) rfl ?_
  refine vi_iload_n C 0 dX5_latestReading_7 rfl ?_
  refine vi_iconst (v := (-1)) C dX5_latestReading_8 (by decide) ?_
  refine vi_icmp_ne (tgt := 16) C dX5_latestReading_9 (by decide) (fun hc3 => ?_) (fun hc3 => ?_)
  · have h := ob_f h hc3
    refine vi_aload_n C 1 dX5_latestReading_16 rfl ?_
    refine gS_X5_0_10 C dX5_latestReading_17 ?_
    refine vi_iload_n C 0 dX5_latestReading_20 rfl ?_
    obtain ⟨hz4, h⟩ := ob_if h
    refine lS_X5_7 (n := (Int32.toNatClampNeg y2)) C hz4 rfl dX5_latestReading_21 ?_
    exact vi_donef (W := wS q cI cF) RET h dX5_latestReading_22
  · have h := ob_t h hc3
    refine vi_fconst0 C dX5_latestReading_12 ?_
    refine vi_goto (tgt := 22) C dX5_latestReading_13 (by decide) ?_
    exact vi_donef (W := wS q cI cF) RET h dX5_latestReading_22
theorem mX5_latestReading {ad adK adV : Nat → Nat} {tS tF : Nat} {tX sK sV : Nat → Nat} (hE : vEok (vE ad adK adV tS tF tX sK sV)) {l : Launch} {D : va_G} {cI cF cC cS cO cB cZ : ClassId} {q : Nat → Nat} {r0 : UInt32} {u0 : vH}  {x1 : Int32} {u : vH} (h : fX5_latestReading x1 u = some (r0, u0)) : vM (vE ad adK adV tS tF tX sK sV) l yX5_latestReading cX5_latestReading 3 (some .float) 1 23 D (vT7 cI cF cC cS cO cB cZ) [.ref (q 0), .int x1] (wS q cI cF u) (vQf D (wS q cI cF u0) r0) :=
  vM_of hE (by decide +kernel) (Nat.le_of_ble_eq_true rfl) (fun p e s m args below meth c A C hr => kX5_latestReading_e C (vi_retf C hr) h)
-- ---- X5_secondReading
def fX5_secondReading (x1 : Int32) (u : vH) : Option (UInt32 × vH) := obp (fX5_sightFrom x1 (0 : Int32) u) fun y2 u1 => obp (fX5_sightFrom x1 (y2 + (1 : Int32)) u1) fun y4 u3 => (if y4 = (-1 : Int32) then some (FP.fconst0, u3) else if y4 < 0 ∨ 10 ≤ Int32.toNatClampNeg y4 then none else some (u3.2 (Int32.toNatClampNeg y4), u3))
set_option maxRecDepth 100000 in
set_option maxHeartbeats 4000000 in
theorem kX5_secondReading_e {ad adK adV : Nat → Nat} {tS tF : Nat} {tX sK sV : Nat → Nat} {p : Program} {l : Launch} {e : Env} {s : State} {m : MethodId} {args : Array Value} {below : List Frame} {meth : Method} {c : Code} {A : Nat → Prop} {D : va_G} {cI cF cC cS cO cB cZ : ClassId} {Q : State → Prop} {q : Nat → Nat} (C : vC (vE ad adK adV tS tF tX sK sV) p l s m args meth c A D (vT7 cI cF cC cS cO cB cZ) cX5_secondReading 3 RX5) {r0 : UInt32} {u0 : vH} (RET : ∀ (pc : Nat) (lv : List (Nat × Value)), decode cX5_secondReading pc = .ok (.freturn, 1) → vV p l e { frames := 1, cells := 0, slots := 0, locals := 23 } s m args below meth c A D 3 0 0 Q (wS q cI cF u0) pc lv [.float r0]) {x1 : Int32} {u : vH} (h : fX5_secondReading x1 u = some (r0, u0)) : vV p l e { frames := 1, cells := 0, slots := 0, locals := 23 } s m args below meth c A D 3 0 0 Q (wS q cI cF u) 0 [(0, .ref (q 0)), (1, .int x1)] [] := by
  rw [fX5_secondReading] at h
  refine vi_aload_n C 0 dX5_secondReading_0 rfl ?_
  refine vi_iload_n C 1 dX5_secondReading_1 rfl ?_
  refine vi_aload_n C 0 dX5_secondReading_2 rfl ?_
  refine vi_iload_n C 1 dX5_secondReading_3 rfl ?_
  refine vi_iconst (v := 0) C dX5_secondReading_4 (by decide) ?_
  obtain ⟨y2, u1, hgu1, h⟩ := ob_p h
  refine cS_X5_i (As := [.int x1, .int (0 : Int32)]) (rest := [.int x1, .ref (q 0)]) C (mX5_sightFrom C.2.2.2.2.2.2.2.2.1 hgu1) 2 rfl tcX5_sightFrom tlX5_127 tiX5_sightFrom tsX5_sightFrom rfl tnX5 tdX5_sightFrom ⟨Nat.le_of_ble_eq_true rfl, Nat.le_of_ble_eq_true rfl⟩ rfl (Nat.le_of_ble_eq_true rfl) dX5_secondReading_5 ?_
  refine vi_iconst (v := 1) C dX5_secondReading_8 (by decide) ?_
  refine vi_iadd C dX5_secondReading_9 ?_
  obtain ⟨y4, u3, hgu3, h⟩ := ob_p h
  refine cS_X5_i (As := [.int x1, .int (y2 + (1 : Int32))]) (rest := []) C (mX5_sightFrom C.2.2.2.2.2.2.2.2.1 hgu3) 2 rfl tcX5_sightFrom tlX5_127 tiX5_sightFrom tsX5_sightFrom rfl tnX5 tdX5_sightFrom ⟨Nat.le_of_ble_eq_true rfl, Nat.le_of_ble_eq_true rfl⟩ rfl (Nat.le_of_ble_eq_true rfl) dX5_secondReading_10 ?_
  refine vi_istore_n (lv' := [(2, .int y4), (0, .ref (q 0)), (1, .int x1)]) C dX5_secondReading_13 rfl (by decide) rfl ?_
  refine vi_iload_n C 0 dX5_secondReading_14 rfl ?_
  refine vi_iconst (v := (-1)) C dX5_secondReading_15 (by decide) ?_
  refine vi_icmp_ne (tgt := 23) C dX5_secondReading_16 (by decide) (fun hc5 => ?_) (fun hc5 => ?_)
  · have h := ob_f h hc5
    refine vi_aload_n C 1 dX5_secondReading_23 rfl ?_
    refine gS_X5_0_10 C dX5_secondReading_24 ?_
    refine vi_iload_n C 0 dX5_secondReading_27 rfl ?_
    obtain ⟨hz6, h⟩ := ob_if h
    refine lS_X5_7 (n := (Int32.toNatClampNeg y4)) C hz6 rfl dX5_secondReading_28 ?_
    exact vi_donef (W := wS q cI cF) RET h dX5_secondReading_29
  · have h := ob_t h hc5
    refine vi_fconst0 C dX5_secondReading_19 ?_
    refine vi_goto (tgt := 29) C dX5_secondReading_20 (by decide) ?_
    exact vi_donef (W := wS q cI cF) RET h dX5_secondReading_29
theorem mX5_secondReading {ad adK adV : Nat → Nat} {tS tF : Nat} {tX sK sV : Nat → Nat} (hE : vEok (vE ad adK adV tS tF tX sK sV)) {l : Launch} {D : va_G} {cI cF cC cS cO cB cZ : ClassId} {q : Nat → Nat} {r0 : UInt32} {u0 : vH}  {x1 : Int32} {u : vH} (h : fX5_secondReading x1 u = some (r0, u0)) : vM (vE ad adK adV tS tF tX sK sV) l yX5_secondReading cX5_secondReading 3 (some .float) 1 23 D (vT7 cI cF cC cS cO cB cZ) [.ref (q 0), .int x1] (wS q cI cF u) (vQf D (wS q cI cF u0) r0) :=
  vM_of hE (by decide +kernel) (Nat.le_of_ble_eq_true rfl) (fun p e s m args below meth c A C hr => kX5_secondReading_e C (vi_retf C hr) h)
-- ---- X5_fixOf
def fX5_fixOf (x1 : Int32) (u : vH) : Option (UInt32 × vH) := obp (fX5_latestReading x1 u) fun y2 u1 => obp (fX5_secondReading x1 u1) fun y4 u3 => if (FP.fadd y2 y4) &&& 0x7fffffff ≤ 0x7f800000 then if (FP.fdiv (FP.fadd y2 y4) (FP.fconst2)) &&& 0x7fffffff ≤ 0x7f800000 then some (FP.fdiv (FP.fadd y2 y4) (FP.fconst2), u3) else none else none
set_option maxRecDepth 100000 in
set_option maxHeartbeats 4000000 in
theorem kX5_fixOf_e {ad adK adV : Nat → Nat} {tS tF : Nat} {tX sK sV : Nat → Nat} {p : Program} {l : Launch} {e : Env} {s : State} {m : MethodId} {args : Array Value} {below : List Frame} {meth : Method} {c : Code} {A : Nat → Prop} {D : va_G} {cI cF cC cS cO cB cZ : ClassId} {Q : State → Prop} {q : Nat → Nat} (C : vC (vE ad adK adV tS tF tX sK sV) p l s m args meth c A D (vT7 cI cF cC cS cO cB cZ) cX5_fixOf 2 RX5) {r0 : UInt32} {u0 : vH} (RET : ∀ (pc : Nat) (lv : List (Nat × Value)), decode cX5_fixOf pc = .ok (.freturn, 1) → vV p l e { frames := 2, cells := 0, slots := 0, locals := 45 } s m args below meth c A D 2 0 0 Q (wS q cI cF u0) pc lv [.float r0]) {x1 : Int32} {u : vH} (h : fX5_fixOf x1 u = some (r0, u0)) : vV p l e { frames := 2, cells := 0, slots := 0, locals := 45 } s m args below meth c A D 2 0 0 Q (wS q cI cF u) 0 [(0, .ref (q 0)), (1, .int x1)] [] := by
  rw [fX5_fixOf] at h
  refine vi_aload_n C 0 dX5_fixOf_0 rfl ?_
  refine vi_iload_n C 1 dX5_fixOf_1 rfl ?_
  obtain ⟨y2, u1, hgu1, h⟩ := ob_p h
  refine cS_X5_f (As := [.int x1]) (rest := []) C (mX5_latestReading C.2.2.2.2.2.2.2.2.1 hgu1) 1 rfl tcX5_latestReading tlX5_162 tiX5_latestReading tsX5_latestReading rfl tnX5 tdX5_latestReading ⟨Nat.le_of_ble_eq_true rfl, Nat.le_of_ble_eq_true rfl⟩ rfl (Nat.le_of_ble_eq_true rfl) dX5_fixOf_2 ?_
  refine vi_aload_n C 0 dX5_fixOf_5 rfl ?_
  refine vi_iload_n C 1 dX5_fixOf_6 rfl ?_
  obtain ⟨y4, u3, hgu3, h⟩ := ob_p h
  refine cS_X5_f (As := [.int x1]) (rest := [.float y2]) C (mX5_secondReading C.2.2.2.2.2.2.2.2.1 hgu3) 1 rfl tcX5_secondReading tlX5_165 tiX5_secondReading tsX5_secondReading rfl tnX5 tdX5_secondReading ⟨Nat.le_of_ble_eq_true rfl, Nat.le_of_ble_eq_true rfl⟩ rfl (Nat.le_of_ble_eq_true rfl) dX5_fixOf_7 ?_
  obtain ⟨hz5, h⟩ := ob_ok h
  refine vi_fadd C dX5_fixOf_10 hz5 ?_
  refine vi_fconst2 C dX5_fixOf_11 ?_
  obtain ⟨hz6, h⟩ := ob_ok h
  refine vi_fdiv C dX5_fixOf_12 hz6 ?_
  exact vi_donef (W := wS q cI cF) RET h dX5_fixOf_13
theorem mX5_fixOf {ad adK adV : Nat → Nat} {tS tF : Nat} {tX sK sV : Nat → Nat} (hE : vEok (vE ad adK adV tS tF tX sK sV)) {l : Launch} {D : va_G} {cI cF cC cS cO cB cZ : ClassId} {q : Nat → Nat} {r0 : UInt32} {u0 : vH}  {x1 : Int32} {u : vH} (h : fX5_fixOf x1 u = some (r0, u0)) : vM (vE ad adK adV tS tF tX sK sV) l yX5_fixOf cX5_fixOf 2 (some .float) 2 45 D (vT7 cI cF cC cS cO cB cZ) [.ref (q 0), .int x1] (wS q cI cF u) (vQf D (wS q cI cF u0) r0) :=
  vM_of hE (by decide +kernel) (Nat.le_of_ble_eq_true rfl) (fun p e s m args below meth c A C hr => kX5_fixOf_e C (vi_retf C hr) h)
-- ---- X5_fixFromLatest
def fX5_fixFromLatest (x1 : Int32) (u : vH) : Option (UInt32 × vH) := obp (fX5_latestReading x1 u) fun y2 u1 => obp (fX5_secondReading x1 u1) fun y4 u3 => if (FP.fsub y4 y2) &&& 0x7fffffff ≤ 0x7f800000 then if (FP.fdiv (FP.fsub y4 y2) (FP.fconst2)) &&& 0x7fffffff ≤ 0x7f800000 then if (FP.fadd y2 (FP.fdiv (FP.fsub y4 y2) (FP.fconst2))) &&& 0x7fffffff ≤ 0x7f800000 then some (FP.fadd y2 (FP.fdiv (FP.fsub y4 y2) (FP.fconst2)), u3) else none else none else none
set_option maxRecDepth 100000 in
set_option maxHeartbeats 4000000 in
theorem kX5_fixFromLatest_e {ad adK adV : Nat → Nat} {tS tF : Nat} {tX sK sV : Nat → Nat} {p : Program} {l : Launch} {e : Env} {s : State} {m : MethodId} {args : Array Value} {below : List Frame} {meth : Method} {c : Code} {A : Nat → Prop} {D : va_G} {cI cF cC cS cO cB cZ : ClassId} {Q : State → Prop} {q : Nat → Nat} (C : vC (vE ad adK adV tS tF tX sK sV) p l s m args meth c A D (vT7 cI cF cC cS cO cB cZ) cX5_fixFromLatest 3 RX5) {r0 : UInt32} {u0 : vH} (RET : ∀ (pc : Nat) (lv : List (Nat × Value)), decode cX5_fixFromLatest pc = .ok (.freturn, 1) → vV p l e { frames := 2, cells := 0, slots := 0, locals := 45 } s m args below meth c A D 3 0 0 Q (wS q cI cF u0) pc lv [.float r0]) {x1 : Int32} {u : vH} (h : fX5_fixFromLatest x1 u = some (r0, u0)) : vV p l e { frames := 2, cells := 0, slots := 0, locals := 45 } s m args below meth c A D 3 0 0 Q (wS q cI cF u) 0 [(0, .ref (q 0)), (1, .int x1)] [] := by
  rw [fX5_fixFromLatest] at h
  refine vi_aload_n C 0 dX5_fixFromLatest_0 rfl ?_
  refine vi_iload_n C 1 dX5_fixFromLatest_1 rfl ?_
  obtain ⟨y2, u1, hgu1, h⟩ := ob_p h
  refine cS_X5_f (As := [.int x1]) (rest := []) C (mX5_latestReading C.2.2.2.2.2.2.2.2.1 hgu1) 1 rfl tcX5_latestReading tlX5_162 tiX5_latestReading tsX5_latestReading rfl tnX5 tdX5_latestReading ⟨Nat.le_of_ble_eq_true rfl, Nat.le_of_ble_eq_true rfl⟩ rfl (Nat.le_of_ble_eq_true rfl) dX5_fixFromLatest_2 ?_
  refine vi_fstore_n (lv' := [(2, .float y2), (0, .ref (q 0)), (1, .int x1)]) C dX5_fixFromLatest_5 rfl (by decide) rfl ?_
  refine vi_fload_n C 0 dX5_fixFromLatest_6 rfl ?_
  refine vi_aload_n C 1 dX5_fixFromLatest_7 rfl ?_
  refine vi_iload_n C 2 dX5_fixFromLatest_8 rfl ?_
  obtain ⟨y4, u3, hgu3, h⟩ := ob_p h
  refine cS_X5_f (As := [.int x1]) (rest := [.float y2]) C (mX5_secondReading C.2.2.2.2.2.2.2.2.1 hgu3) 1 rfl tcX5_secondReading tlX5_165 tiX5_secondReading tsX5_secondReading rfl tnX5 tdX5_secondReading ⟨Nat.le_of_ble_eq_true rfl, Nat.le_of_ble_eq_true rfl⟩ rfl (Nat.le_of_ble_eq_true rfl) dX5_fixFromLatest_9 ?_
  refine vi_fload_n C 0 dX5_fixFromLatest_12 rfl ?_
  obtain ⟨hz5, h⟩ := ob_ok h
  refine vi_fsub C dX5_fixFromLatest_13 hz5 ?_
  refine vi_fconst2 C dX5_fixFromLatest_14 ?_
  obtain ⟨hz6, h⟩ := ob_ok h
  refine vi_fdiv C dX5_fixFromLatest_15 hz6 ?_
  obtain ⟨hz7, h⟩ := ob_ok h
  refine vi_fadd C dX5_fixFromLatest_16 hz7 ?_
  exact vi_donef (W := wS q cI cF) RET h dX5_fixFromLatest_17
theorem mX5_fixFromLatest {ad adK adV : Nat → Nat} {tS tF : Nat} {tX sK sV : Nat → Nat} (hE : vEok (vE ad adK adV tS tF tX sK sV)) {l : Launch} {D : va_G} {cI cF cC cS cO cB cZ : ClassId} {q : Nat → Nat} {r0 : UInt32} {u0 : vH}  {x1 : Int32} {u : vH} (h : fX5_fixFromLatest x1 u = some (r0, u0)) : vM (vE ad adK adV tS tF tX sK sV) l yX5_fixFromLatest cX5_fixFromLatest 3 (some .float) 2 45 D (vT7 cI cF cC cS cO cB cZ) [.ref (q 0), .int x1] (wS q cI cF u) (vQf D (wS q cI cF u0) r0) :=
  vM_of hE (by decide +kernel) (Nat.le_of_ble_eq_true rfl) (fun p e s m args below meth c A C hr => kX5_fixFromLatest_e C (vi_retf C hr) h)
-- ---- X5_unlikeBits
def fX5_unlikeBits_4 : Nat → Int32 → Int32 → Int32 → Int32 → Option (Int32)
  | 0, _, _, _, _ => none
  | n + 1, x1, x2, x3, x4 => (if (16 : Int32) ≤ x4 then some x3 else (if (x1 >>> (x4 &&& 31)) &&& (1 : Int32) = (x2 >>> (x4 &&& 31)) &&& (1 : Int32) then bd ((x4 + 1 : Int32)) fun y3 => fX5_unlikeBits_4 n x1 x2 x3 y3 else bd ((x3 + 1 : Int32)) fun y4 => bd ((x4 + 1 : Int32)) fun y5 => fX5_unlikeBits_4 n x1 x2 y4 y5))
set_option maxRecDepth 100000 in
set_option maxHeartbeats 4000000 in
theorem kX5_unlikeBits_4 {E : (Nat → Prop) → State → Heap → Prop} {p : Program} {l : Launch} {e : Env} {s : State} {m : MethodId} {args : Array Value} {below : List Frame} {meth : Method} {c : Code} {A : Nat → Prop} {D : va_G} {cI cF cC cS cO cB cZ : ClassId} {Q : State → Prop} (C : vC E p l s m args meth c A D (vT7 cI cF cC cS cO cB cZ) cX5_unlikeBits 4 RX5) {r0 : Int32} (RET : ∀ (pc : Nat) (lv : List (Nat × Value)), decode cX5_unlikeBits pc = .ok (.ireturn, 1) → vV p l e { frames := 0, cells := 0, slots := 0, locals := 0 } s m args below meth c A D 4 0 0 Q [] pc lv [.int r0]) : ∀ (n : Nat) (x1 : Int32) (x2 : Int32) (x3 : Int32) (x4 : Int32), fX5_unlikeBits_4 n x1 x2 x3 x4 = some r0 → vV p l e { frames := 0, cells := 0, slots := 0, locals := 0 } s m args below meth c A D 4 0 0 Q [] 4 [(0, .int x1), (1, .int x2), (2, .int x3), (3, .int x4)] [] := by
  intro n
  induction n with
  | zero => intro x1 x2 x3 x4 h; rw [fX5_unlikeBits_4] at h; cases h
  | succ n ih =>
    intro x1 x2 x3 x4 h
    rw [fX5_unlikeBits_4] at h
    refine vi_iload_n C 3 dX5_unlikeBits_4 rfl ?_
    refine vi_bipush (v := 16) C dX5_unlikeBits_5 (by decide) ?_
    refine vi_icmp_ge (tgt := 32) C dX5_unlikeBits_7 (by decide) (fun hc1 => ?_) (fun hc1 => ?_)
    · have h := ob_t h hc1
      refine vi_iload_n C 2 dX5_unlikeBits_32 rfl ?_
      exact vi_donei0  RET h dX5_unlikeBits_33
    · have h := ob_f h hc1
      refine vi_iload_n C 0 dX5_unlikeBits_10 rfl ?_
      refine vi_iload_n C 3 dX5_unlikeBits_11 rfl ?_
      refine vi_ishr C dX5_unlikeBits_12 ?_
      refine vi_iconst (v := 1) C dX5_unlikeBits_13 (by decide) ?_
      refine vi_iand C dX5_unlikeBits_14 ?_
      refine vi_iload_n C 1 dX5_unlikeBits_15 rfl ?_
      refine vi_iload_n C 3 dX5_unlikeBits_16 rfl ?_
      refine vi_ishr C dX5_unlikeBits_17 ?_
      refine vi_iconst (v := 1) C dX5_unlikeBits_18 (by decide) ?_
      refine vi_iand C dX5_unlikeBits_19 ?_
      refine vi_icmp_eq (tgt := 26) C dX5_unlikeBits_20 (by decide) (fun hc2 => ?_) (fun hc2 => ?_)
      · have h := ob_t h hc2
        obtain ⟨y3, ey3, h⟩ := ob_nm h
        refine vi_iinc (v := y3) (lv' := [(3, .int y3), (0, .int x1), (1, .int x2), (2, .int x3)]) C 3 dX5_unlikeBits_26 rfl (by rw [ey3]; rfl) (by decide) rfl ?_
        refine vi_goto (tgt := 4) C dX5_unlikeBits_29 (by decide) ?_
        refine vi_sub C [1, 2, 3, 0] rfl ?_
        exact ih _ _ _ _ h
      · have h := ob_f h hc2
        obtain ⟨y4, ey4, h⟩ := ob_nm h
        refine vi_iinc (v := y4) (lv' := [(2, .int y4), (0, .int x1), (1, .int x2), (3, .int x4)]) C 2 dX5_unlikeBits_23 rfl (by rw [ey4]; rfl) (by decide) rfl ?_
        obtain ⟨y5, ey5, h⟩ := ob_nm h
        refine vi_iinc (v := y5) (lv' := [(3, .int y5), (2, .int y4), (0, .int x1), (1, .int x2)]) C 3 dX5_unlikeBits_26 rfl (by rw [ey5]; rfl) (by decide) rfl ?_
        refine vi_goto (tgt := 4) C dX5_unlikeBits_29 (by decide) ?_
        refine vi_sub C [2, 3, 1, 0] rfl ?_
        exact ih _ _ _ _ h
def fX5_unlikeBits (x1 : Int32) (x2 : Int32) : Option (Int32) := fX5_unlikeBits_4 vF x1 x2 (0 : Int32) (0 : Int32)
set_option maxRecDepth 100000 in
set_option maxHeartbeats 4000000 in
theorem kX5_unlikeBits_e {E : (Nat → Prop) → State → Heap → Prop} {p : Program} {l : Launch} {e : Env} {s : State} {m : MethodId} {args : Array Value} {below : List Frame} {meth : Method} {c : Code} {A : Nat → Prop} {D : va_G} {cI cF cC cS cO cB cZ : ClassId} {Q : State → Prop} (C : vC E p l s m args meth c A D (vT7 cI cF cC cS cO cB cZ) cX5_unlikeBits 4 RX5) {r0 : Int32} (RET : ∀ (pc : Nat) (lv : List (Nat × Value)), decode cX5_unlikeBits pc = .ok (.ireturn, 1) → vV p l e { frames := 0, cells := 0, slots := 0, locals := 0 } s m args below meth c A D 4 0 0 Q [] pc lv [.int r0]) {x1 : Int32} {x2 : Int32} (h : fX5_unlikeBits x1 x2 = some r0) : vV p l e { frames := 0, cells := 0, slots := 0, locals := 0 } s m args below meth c A D 4 0 0 Q [] 0 [(0, .int x1), (1, .int x2)] [] := by
  rw [fX5_unlikeBits] at h
  refine vi_iconst (v := 0) C dX5_unlikeBits_0 (by decide) ?_
  refine vi_istore_n (lv' := [(2, .int (0 : Int32)), (0, .int x1), (1, .int x2)]) C dX5_unlikeBits_1 rfl (by decide) rfl ?_
  refine vi_iconst (v := 0) C dX5_unlikeBits_2 (by decide) ?_
  refine vi_istore_n (lv' := [(3, .int (0 : Int32)), (2, .int (0 : Int32)), (0, .int x1), (1, .int x2)]) C dX5_unlikeBits_3 rfl (by decide) rfl ?_
  refine vi_sub C [2, 3, 1, 0] rfl ?_
  exact kX5_unlikeBits_4 C RET  vF _ _ _ _ h
theorem mX5_unlikeBits {E : (Nat → Prop) → State → Heap → Prop} (hE : vEok E) {l : Launch} {D : va_G} {cI cF cC cS cO cB cZ : ClassId} {r0 : Int32}  {x1 : Int32} {x2 : Int32} (h : fX5_unlikeBits x1 x2 = some r0) : vM E l yX5_unlikeBits cX5_unlikeBits 4 (some .int) 0 0 D (vT7 cI cF cC cS cO cB cZ) [.int x1, .int x2] [] (vQi D [] r0) :=
  vM_of hE (by decide +kernel) (Nat.le_of_ble_eq_true rfl) (fun p e s m args below meth c A C hr => kX5_unlikeBits_e C (vi_reti C hr) h)
-- ---- X5_unlikeByCounts
def fX5_unlikeByCounts (x1 : Int32) (x2 : Int32) : Option (Int32) := (fJ6_bitCount_0f7a4 (x1 ||| x2)).bind fun y1 => (fJ6_bitCount_0f7a4 (x1 &&& x2)).bind fun y2 => some (y1 - y2)
set_option maxRecDepth 100000 in
set_option maxHeartbeats 4000000 in
theorem kX5_unlikeByCounts_e {E : (Nat → Prop) → State → Heap → Prop} {p : Program} {l : Launch} {e : Env} {s : State} {m : MethodId} {args : Array Value} {below : List Frame} {meth : Method} {c : Code} {A : Nat → Prop} {D : va_G} {cI cF cC cS cO cB cZ : ClassId} {Q : State → Prop} (C : vC E p l s m args meth c A D (vT7 cI cF cC cS cO cB cZ) cX5_unlikeByCounts 2 RX5) {r0 : Int32} (RET : ∀ (pc : Nat) (lv : List (Nat × Value)), decode cX5_unlikeByCounts pc = .ok (.ireturn, 1) → vV p l e { frames := 1, cells := 0, slots := 0, locals := 20 } s m args below meth c A D 2 0 0 Q [] pc lv [.int r0]) {x1 : Int32} {x2 : Int32} (h : fX5_unlikeByCounts x1 x2 = some r0) : vV p l e { frames := 1, cells := 0, slots := 0, locals := 20 } s m args below meth c A D 2 0 0 Q [] 0 [(0, .int x1), (1, .int x2)] [] := by
  rw [fX5_unlikeByCounts] at h
  refine vi_iload_n C 0 dX5_unlikeByCounts_0 rfl ?_
  refine vi_iload_n C 1 dX5_unlikeByCounts_1 rfl ?_
  refine vi_ior C dX5_unlikeByCounts_2 ?_
  obtain ⟨y1, hgy1, h⟩ := ob_bd h
  refine vi_callS0i (As := [.int (x1 ||| x2)]) (rest := []) C (mJ6_bitCount_0f7a4 C.2.2.2.2.2.2.2.2.1 hgy1) 1 rfl tcJ6_bitCount_0f7a4 tlX5_135 ttJ6_bitCount_0f7a4 tnJ6 tdJ6_bitCount_0f7a4 ⟨Nat.le_of_ble_eq_true rfl, Nat.le_of_ble_eq_true rfl⟩ rfl (Nat.le_of_ble_eq_true rfl) dX5_unlikeByCounts_3 ?_
  refine vi_iload_n C 0 dX5_unlikeByCounts_6 rfl ?_
  refine vi_iload_n C 1 dX5_unlikeByCounts_7 rfl ?_
  refine vi_iand C dX5_unlikeByCounts_8 ?_
  obtain ⟨y2, hgy2, h⟩ := ob_bd h
  refine vi_callS0i (As := [.int (x1 &&& x2)]) (rest := [.int y1]) C (mJ6_bitCount_0f7a4 C.2.2.2.2.2.2.2.2.1 hgy2) 1 rfl tcJ6_bitCount_0f7a4 tlX5_135 ttJ6_bitCount_0f7a4 tnJ6 tdJ6_bitCount_0f7a4 ⟨Nat.le_of_ble_eq_true rfl, Nat.le_of_ble_eq_true rfl⟩ rfl (Nat.le_of_ble_eq_true rfl) dX5_unlikeByCounts_9 ?_
  refine vi_isub C dX5_unlikeByCounts_12 ?_
  exact vi_donei0  RET h dX5_unlikeByCounts_13
theorem mX5_unlikeByCounts {E : (Nat → Prop) → State → Heap → Prop} (hE : vEok E) {l : Launch} {D : va_G} {cI cF cC cS cO cB cZ : ClassId} {r0 : Int32}  {x1 : Int32} {x2 : Int32} (h : fX5_unlikeByCounts x1 x2 = some r0) : vM E l yX5_unlikeByCounts cX5_unlikeByCounts 2 (some .int) 1 20 D (vT7 cI cF cC cS cO cB cZ) [.int x1, .int x2] [] (vQi D [] r0) :=
  vM_of hE (by decide +kernel) (Nat.le_of_ble_eq_true rfl) (fun p e s m args below meth c A C hr => kX5_unlikeByCounts_e C (vi_reti C hr) h)
-- ---- X5_closestTurn
def fX5_closestTurn_4 : Nat → Int32 → Int32 → Int32 → Int32 → Option (Int32)
  | 0, _, _, _, _ => none
  | n + 1, x1, x2, x3, x4 => (if (16 : Int32) ≤ x4 then some x3 else (fX5_turned x1 x4).bind fun y2 => (fX5_unlikeBits y2 x2).bind fun y3 => (fX5_turned x1 x3).bind fun y4 => (fX5_unlikeBits y4 x2).bind fun y5 => (if y5 ≤ y3 then bd ((x4 + 1 : Int32)) fun y7 => fX5_closestTurn_4 n x1 x2 x3 y7 else bd ((x4 + 1 : Int32)) fun y8 => fX5_closestTurn_4 n x1 x2 x4 y8))
set_option maxRecDepth 100000 in
set_option maxHeartbeats 4000000 in
theorem kX5_closestTurn_4 {E : (Nat → Prop) → State → Heap → Prop} {p : Program} {l : Launch} {e : Env} {s : State} {m : MethodId} {args : Array Value} {below : List Frame} {meth : Method} {c : Code} {A : Nat → Prop} {D : va_G} {cI cF cC cS cO cB cZ : ClassId} {Q : State → Prop} (C : vC E p l s m args meth c A D (vT7 cI cF cC cS cO cB cZ) cX5_closestTurn 4 RX5) {r0 : Int32} (RET : ∀ (pc : Nat) (lv : List (Nat × Value)), decode cX5_closestTurn pc = .ok (.ireturn, 1) → vV p l e { frames := 2, cells := 0, slots := 0, locals := 44 } s m args below meth c A D 4 0 0 Q [] pc lv [.int r0]) : ∀ (n : Nat) (x1 : Int32) (x2 : Int32) (x3 : Int32) (x4 : Int32), fX5_closestTurn_4 n x1 x2 x3 x4 = some r0 → vV p l e { frames := 2, cells := 0, slots := 0, locals := 44 } s m args below meth c A D 4 0 0 Q [] 4 [(0, .int x1), (1, .int x2), (2, .int x3), (3, .int x4)] [] := by
  intro n
  induction n with
  | zero => intro x1 x2 x3 x4 h; rw [fX5_closestTurn_4] at h; cases h
  | succ n ih =>
    intro x1 x2 x3 x4 h
    rw [fX5_closestTurn_4] at h
    refine vi_iload_n C 3 dX5_closestTurn_4 rfl ?_
    refine vi_bipush (v := 16) C dX5_closestTurn_5 (by decide) ?_
    refine vi_icmp_ge (tgt := 39) C dX5_closestTurn_7 (by decide) (fun hc1 => ?_) (fun hc1 => ?_)
    · have h := ob_t h hc1
      refine vi_iload_n C 2 dX5_closestTurn_39 rfl ?_
      exact vi_donei0  RET h dX5_closestTurn_40
    · have h := ob_f h hc1
      refine vi_iload_n C 0 dX5_closestTurn_10 rfl ?_
      refine vi_iload_n C 3 dX5_closestTurn_11 rfl ?_
      obtain ⟨y2, hgy2, h⟩ := ob_bd h
      refine vi_callS0i (As := [.int x1, .int x4]) (rest := []) C (mX5_turned C.2.2.2.2.2.2.2.2.1 hgy2) 2 rfl tcX5_turned tlX5_123 ttX5_turned tnX5 tdX5_turned ⟨Nat.le_of_ble_eq_true rfl, Nat.le_of_ble_eq_true rfl⟩ rfl (Nat.le_of_ble_eq_true rfl) dX5_closestTurn_12 ?_
      refine vi_iload_n C 1 dX5_closestTurn_15 rfl ?_
      obtain ⟨y3, hgy3, h⟩ := ob_bd h
      refine vi_callS0i (As := [.int y2, .int x2]) (rest := []) C (mX5_unlikeBits C.2.2.2.2.2.2.2.2.1 hgy3) 2 rfl tcX5_unlikeBits tlX5_168 ttX5_unlikeBits tnX5 tdX5_unlikeBits ⟨Nat.le_of_ble_eq_true rfl, Nat.le_of_ble_eq_true rfl⟩ rfl (Nat.le_of_ble_eq_true rfl) dX5_closestTurn_16 ?_
      refine vi_iload_n C 0 dX5_closestTurn_19 rfl ?_
      refine vi_iload_n C 2 dX5_closestTurn_20 rfl ?_
      obtain ⟨y4, hgy4, h⟩ := ob_bd h
      refine vi_callS0i (As := [.int x1, .int x3]) (rest := [.int y3]) C (mX5_turned C.2.2.2.2.2.2.2.2.1 hgy4) 2 rfl tcX5_turned tlX5_123 ttX5_turned tnX5 tdX5_turned ⟨Nat.le_of_ble_eq_true rfl, Nat.le_of_ble_eq_true rfl⟩ rfl (Nat.le_of_ble_eq_true rfl) dX5_closestTurn_21 ?_
      refine vi_iload_n C 1 dX5_closestTurn_24 rfl ?_
      obtain ⟨y5, hgy5, h⟩ := ob_bd h
      refine vi_callS0i (As := [.int y4, .int x2]) (rest := [.int y3]) C (mX5_unlikeBits C.2.2.2.2.2.2.2.2.1 hgy5) 2 rfl tcX5_unlikeBits tlX5_168 ttX5_unlikeBits tnX5 tdX5_unlikeBits ⟨Nat.le_of_ble_eq_true rfl, Nat.le_of_ble_eq_true rfl⟩ rfl (Nat.le_of_ble_eq_true rfl) dX5_closestTurn_25 ?_
      refine vi_icmp_ge (tgt := 33) C dX5_closestTurn_28 (by decide) (fun hc6 => ?_) (fun hc6 => ?_)
      · have h := ob_t h hc6
        obtain ⟨y7, ey7, h⟩ := ob_nm h
        refine vi_iinc (v := y7) (lv' := [(3, .int y7), (0, .int x1), (1, .int x2), (2, .int x3)]) C 3 dX5_closestTurn_33 rfl (by rw [ey7]; rfl) (by decide) rfl ?_
        refine vi_goto (tgt := 4) C dX5_closestTurn_36 (by decide) ?_
        refine vi_sub C [1, 2, 3, 0] rfl ?_
        exact ih _ _ _ _ h
      · have h := ob_f h hc6
        refine vi_iload_n C 3 dX5_closestTurn_31 rfl ?_
        refine vi_istore_n (lv' := [(2, .int x4), (0, .int x1), (1, .int x2), (3, .int x4)]) C dX5_closestTurn_32 rfl (by decide) rfl ?_
        obtain ⟨y8, ey8, h⟩ := ob_nm h
        refine vi_iinc (v := y8) (lv' := [(3, .int y8), (2, .int x4), (0, .int x1), (1, .int x2)]) C 3 dX5_closestTurn_33 rfl (by rw [ey8]; rfl) (by decide) rfl ?_
        refine vi_goto (tgt := 4) C dX5_closestTurn_36 (by decide) ?_
        refine vi_sub C [2, 3, 1, 0] rfl ?_
        exact ih _ _ _ _ h
def fX5_closestTurn (x1 : Int32) (x2 : Int32) : Option (Int32) := fX5_closestTurn_4 vF x1 x2 (0 : Int32) (1 : Int32)
set_option maxRecDepth 100000 in
set_option maxHeartbeats 4000000 in
theorem kX5_closestTurn_e {E : (Nat → Prop) → State → Heap → Prop} {p : Program} {l : Launch} {e : Env} {s : State} {m : MethodId} {args : Array Value} {below : List Frame} {meth : Method} {c : Code} {A : Nat → Prop} {D : va_G} {cI cF cC cS cO cB cZ : ClassId} {Q : State → Prop} (C : vC E p l s m args meth c A D (vT7 cI cF cC cS cO cB cZ) cX5_closestTurn 4 RX5) {r0 : Int32} (RET : ∀ (pc : Nat) (lv : List (Nat × Value)), decode cX5_closestTurn pc = .ok (.ireturn, 1) → vV p l e { frames := 2, cells := 0, slots := 0, locals := 44 } s m args below meth c A D 4 0 0 Q [] pc lv [.int r0]) {x1 : Int32} {x2 : Int32} (h : fX5_closestTurn x1 x2 = some r0) : vV p l e { frames := 2, cells := 0, slots := 0, locals := 44 } s m args below meth c A D 4 0 0 Q [] 0 [(0, .int x1), (1, .int x2)] [] := by
  rw [fX5_closestTurn] at h
  refine vi_iconst (v := 0) C dX5_closestTurn_0 (by decide) ?_
  refine vi_istore_n (lv' := [(2, .int (0 : Int32)), (0, .int x1), (1, .int x2)]) C dX5_closestTurn_1 rfl (by decide) rfl ?_
  refine vi_iconst (v := 1) C dX5_closestTurn_2 (by decide) ?_
  refine vi_istore_n (lv' := [(3, .int (1 : Int32)), (2, .int (0 : Int32)), (0, .int x1), (1, .int x2)]) C dX5_closestTurn_3 rfl (by decide) rfl ?_
  refine vi_sub C [2, 3, 1, 0] rfl ?_
  exact kX5_closestTurn_4 C RET  vF _ _ _ _ h
theorem mX5_closestTurn {E : (Nat → Prop) → State → Heap → Prop} (hE : vEok E) {l : Launch} {D : va_G} {cI cF cC cS cO cB cZ : ClassId} {r0 : Int32}  {x1 : Int32} {x2 : Int32} (h : fX5_closestTurn x1 x2 = some r0) : vM E l yX5_closestTurn cX5_closestTurn 4 (some .int) 2 44 D (vT7 cI cF cC cS cO cB cZ) [.int x1, .int x2] [] (vQi D [] r0) :=
  vM_of hE (by decide +kernel) (Nat.le_of_ble_eq_true rfl) (fun p e s m args below meth c A C hr => kX5_closestTurn_e C (vi_reti C hr) h)
-- ---- X5_areMates
def fX5_areMates (x1 : Int32) (x2 : Int32) (u : vH) : Option (Int32 × vH) := (if x1 = x2 then some ((0 : Int32), u) else if x1 < 0 ∨ 8 ≤ Int32.toNatClampNeg x1 then none else if x2 < 0 ∨ 8 ≤ Int32.toNatClampNeg x2 then none else (fX5_unlikeByCounts (u.1 1 (Int32.toNatClampNeg x1)) (u.1 1 (Int32.toNatClampNeg x2))).bind fun y4 => (if (4 : Int32) < y4 then some ((0 : Int32), u) else some ((1 : Int32), u)))
set_option maxRecDepth 100000 in
set_option maxHeartbeats 4000000 in
theorem kX5_areMates_e {ad adK adV : Nat → Nat} {tS tF : Nat} {tX sK sV : Nat → Nat} {p : Program} {l : Launch} {e : Env} {s : State} {m : MethodId} {args : Array Value} {below : List Frame} {meth : Method} {c : Code} {A : Nat → Prop} {D : va_G} {cI cF cC cS cO cB cZ : ClassId} {Q : State → Prop} {q : Nat → Nat} (C : vC (vE ad adK adV tS tF tX sK sV) p l s m args meth c A D (vT7 cI cF cC cS cO cB cZ) cX5_areMates 3 RX5) {r0 : Int32} {u0 : vH} (RET : ∀ (pc : Nat) (lv : List (Nat × Value)), decode cX5_areMates pc = .ok (.ireturn, 1) → (r0 = 0 ∨ r0 = 1) → vV p l e { frames := 2, cells := 0, slots := 0, locals := 41 } s m args below meth c A D 3 0 0 Q (wS q cI cF u0) pc lv [.int r0]) {x1 : Int32} {x2 : Int32} {u : vH} (h : fX5_areMates x1 x2 u = some (r0, u0)) : vV p l e { frames := 2, cells := 0, slots := 0, locals := 41 } s m args below meth c A D 3 0 0 Q (wS q cI cF u) 0 [(0, .ref (q 0)), (1, .int x1), (2, .int x2)] [] := by
  rw [fX5_areMates] at h
  refine vi_iload_n C 1 dX5_areMates_0 rfl ?_
  refine vi_iload_n C 2 dX5_areMates_1 rfl ?_
  refine vi_icmp_eq (tgt := 28) C dX5_areMates_2 (by decide) (fun hc1 => ?_) (fun hc1 => ?_)
  · have h := ob_t h hc1
    refine vi_iconst (v := 0) C dX5_areMates_28 (by decide) ?_
    exact vi_donez (W := wS q cI cF) RET h (by decide) dX5_areMates_29
  · have h := ob_f h hc1
    refine vi_aload_n C 0 dX5_areMates_5 rfl ?_
    refine gS_X5_0_1 C dX5_areMates_6 ?_
    refine vi_iload_n C 1 dX5_areMates_9 rfl ?_
    obtain ⟨hz2, h⟩ := ob_if h
    refine lS_X5_1 (n := (Int32.toNatClampNeg x1)) C hz2 rfl dX5_areMates_10 ?_
    refine vi_aload_n C 0 dX5_areMates_11 rfl ?_
    refine gS_X5_0_1 C dX5_areMates_12 ?_
    refine vi_iload_n C 2 dX5_areMates_15 rfl ?_
    obtain ⟨hz3, h⟩ := ob_if h
    refine lS_X5_1 (n := (Int32.toNatClampNeg x2)) C hz3 rfl dX5_areMates_16 ?_
    obtain ⟨y4, hgy4, h⟩ := ob_bd h
    refine vi_callS0i (As := [.int (u.1 1 (Int32.toNatClampNeg x1)), .int (u.1 1 (Int32.toNatClampNeg x2))]) (rest := []) C (mX5_unlikeByCounts C.2.2.2.2.2.2.2.2.1 hgy4) 2 rfl tcX5_unlikeByCounts tlX5_171 ttX5_unlikeByCounts tnX5 tdX5_unlikeByCounts ⟨Nat.le_of_ble_eq_true rfl, Nat.le_of_ble_eq_true rfl⟩ rfl (Nat.le_of_ble_eq_true rfl) dX5_areMates_17 ?_
    refine vi_iconst (v := 4) C dX5_areMates_20 (by decide) ?_
    refine vi_icmp_gt (tgt := 28) C dX5_areMates_21 (by decide) (fun hc5 => ?_) (fun hc5 => ?_)
    · have h := ob_t h hc5
      refine vi_iconst (v := 0) C dX5_areMates_28 (by decide) ?_
      exact vi_donez (W := wS q cI cF) RET h (by decide) dX5_areMates_29
    · have h := ob_f h hc5
      refine vi_iconst (v := 1) C dX5_areMates_24 (by decide) ?_
      refine vi_goto (tgt := 29) C dX5_areMates_25 (by decide) ?_
      exact vi_donez (W := wS q cI cF) RET h (by decide) dX5_areMates_29
theorem mX5_areMates {ad adK adV : Nat → Nat} {tS tF : Nat} {tX sK sV : Nat → Nat} (hE : vEok (vE ad adK adV tS tF tX sK sV)) {l : Launch} {D : va_G} {cI cF cC cS cO cB cZ : ClassId} {q : Nat → Nat} {r0 : Int32} {u0 : vH}  {x1 : Int32} {x2 : Int32} {u : vH} (h : fX5_areMates x1 x2 u = some (r0, u0)) : vM (vE ad adK adV tS tF tX sK sV) l yX5_areMates cX5_areMates 3 (some .boolean) 2 41 D (vT7 cI cF cC cS cO cB cZ) [.ref (q 0), .int x1, .int x2] (wS q cI cF u) (vQi D (wS q cI cF u0) r0) :=
  vM_of hE (by decide +kernel) (Nat.le_of_ble_eq_true rfl) (fun p e s m args below meth c A C hr => kX5_areMates_e C (vi_retzz C hr) h)
-- ---- X5_mateSet
def fX5_mateSet_4 : Nat → Int32 → Int32 → Int32 → vH → Option (Int32 × vH)
  | 0, _, _, _, _ => none
  | n + 1, x1, x2, x3, u => (if u.1 0 0 ≤ x3 then some (x2, u) else obp (fX5_areMates x1 x3 u) fun y3 u2 => (if y3 = 0 then bd ((x3 + 1 : Int32)) fun y5 => fX5_mateSet_4 n x1 x2 y5 u2 else bd ((x2 ||| ((1 : Int32) <<< (x3 &&& 31)) : Int32)) fun y6 => bd ((x3 + 1 : Int32)) fun y7 => fX5_mateSet_4 n x1 y6 y7 u2))
set_option maxRecDepth 100000 in
set_option maxHeartbeats 4000000 in
theorem kX5_mateSet_4 {ad adK adV : Nat → Nat} {tS tF : Nat} {tX sK sV : Nat → Nat} {p : Program} {l : Launch} {e : Env} {s : State} {m : MethodId} {args : Array Value} {below : List Frame} {meth : Method} {c : Code} {A : Nat → Prop} {D : va_G} {cI cF cC cS cO cB cZ : ClassId} {Q : State → Prop} {q : Nat → Nat} (C : vC (vE ad adK adV tS tF tX sK sV) p l s m args meth c A D (vT7 cI cF cC cS cO cB cZ) cX5_mateSet 4 RX5) {r0 : Int32} {u0 : vH} (RET : ∀ (pc : Nat) (lv : List (Nat × Value)), decode cX5_mateSet pc = .ok (.ireturn, 1) → vV p l e { frames := 3, cells := 0, slots := 0, locals := 63 } s m args below meth c A D 4 0 0 Q (wS q cI cF u0) pc lv [.int r0]) : ∀ (n : Nat) (x1 : Int32) (x2 : Int32) (x3 : Int32) (u : vH), fX5_mateSet_4 n x1 x2 x3 u = some (r0, u0) → vV p l e { frames := 3, cells := 0, slots := 0, locals := 63 } s m args below meth c A D 4 0 0 Q (wS q cI cF u) 4 [(0, .ref (q 0)), (1, .int x1), (2, .int x2), (3, .int x3)] [] := by
  intro n
  induction n with
  | zero => intro x1 x2 x3 u h; rw [fX5_mateSet_4] at h; cases h
  | succ n ih =>
    intro x1 x2 x3 u h
    rw [fX5_mateSet_4] at h
    refine vi_iload_n C 3 dX5_mateSet_4 rfl ?_
    refine vi_aload_n C 0 dX5_mateSet_5 rfl ?_
    refine gS_X5_0_0 C dX5_mateSet_6 ?_
    refine vi_icmp_ge (tgt := 33) C dX5_mateSet_9 (by decide) (fun hc1 => ?_) (fun hc1 => ?_)
    · have h := ob_t h hc1
      refine vi_iload_n C 2 dX5_mateSet_33 rfl ?_
      exact vi_donei (W := wS q cI cF) RET h dX5_mateSet_34
    · have h := ob_f h hc1
      refine vi_aload_n C 0 dX5_mateSet_12 rfl ?_
      refine vi_iload_n C 1 dX5_mateSet_13 rfl ?_
      refine vi_iload_n C 3 dX5_mateSet_14 rfl ?_
      obtain ⟨y3, u2, hgu2, h⟩ := ob_p h
      refine cS_X5_i (As := [.int x1, .int x3]) (rest := []) C (mX5_areMates C.2.2.2.2.2.2.2.2.1 hgu2) 2 rfl tcX5_areMates tlX5_174 tiX5_areMates tsX5_areMates rfl tnX5 tdX5_areMates ⟨Nat.le_of_ble_eq_true rfl, Nat.le_of_ble_eq_true rfl⟩ rfl (Nat.le_of_ble_eq_true rfl) dX5_mateSet_15 ?_
      refine vi_if_eq (tgt := 27) C dX5_mateSet_18 (by decide) (fun hc4 => ?_) (fun hc4 => ?_)
      · have h := ob_t h hc4
        obtain ⟨y5, ey5, h⟩ := ob_nm h
        refine vi_iinc (v := y5) (lv' := [(3, .int y5), (0, .ref (q 0)), (1, .int x1), (2, .int x2)]) C 3 dX5_mateSet_27 rfl (by rw [ey5]; rfl) (by decide) rfl ?_
        refine vi_goto (tgt := 4) C dX5_mateSet_30 (by decide) ?_
        refine vi_sub C [1, 2, 3, 0] rfl ?_
        exact ih _ _ _ _ h
      · have h := ob_f h hc4
        refine vi_iload_n C 2 dX5_mateSet_21 rfl ?_
        refine vi_iconst (v := 1) C dX5_mateSet_22 (by decide) ?_
        refine vi_iload_n C 3 dX5_mateSet_23 rfl ?_
        refine vi_ishl C dX5_mateSet_24 ?_
        refine vi_ior C dX5_mateSet_25 ?_
        obtain ⟨y6, ey6, h⟩ := ob_nm h
        refine vi_nmi ey6 ?_
        refine vi_istore_n (lv' := [(2, .int y6), (0, .ref (q 0)), (1, .int x1), (3, .int x3)]) C dX5_mateSet_26 rfl (by decide) rfl ?_
        obtain ⟨y7, ey7, h⟩ := ob_nm h
        refine vi_iinc (v := y7) (lv' := [(3, .int y7), (2, .int y6), (0, .ref (q 0)), (1, .int x1)]) C 3 dX5_mateSet_27 rfl (by rw [ey7]; rfl) (by decide) rfl ?_
        refine vi_goto (tgt := 4) C dX5_mateSet_30 (by decide) ?_
        refine vi_sub C [2, 3, 1, 0] rfl ?_
        exact ih _ _ _ _ h
def fX5_mateSet (x1 : Int32) (u : vH) : Option (Int32 × vH) := fX5_mateSet_4 vF x1 (0 : Int32) (0 : Int32) u
set_option maxRecDepth 100000 in
set_option maxHeartbeats 4000000 in
theorem kX5_mateSet_e {ad adK adV : Nat → Nat} {tS tF : Nat} {tX sK sV : Nat → Nat} {p : Program} {l : Launch} {e : Env} {s : State} {m : MethodId} {args : Array Value} {below : List Frame} {meth : Method} {c : Code} {A : Nat → Prop} {D : va_G} {cI cF cC cS cO cB cZ : ClassId} {Q : State → Prop} {q : Nat → Nat} (C : vC (vE ad adK adV tS tF tX sK sV) p l s m args meth c A D (vT7 cI cF cC cS cO cB cZ) cX5_mateSet 4 RX5) {r0 : Int32} {u0 : vH} (RET : ∀ (pc : Nat) (lv : List (Nat × Value)), decode cX5_mateSet pc = .ok (.ireturn, 1) → vV p l e { frames := 3, cells := 0, slots := 0, locals := 63 } s m args below meth c A D 4 0 0 Q (wS q cI cF u0) pc lv [.int r0]) {x1 : Int32} {u : vH} (h : fX5_mateSet x1 u = some (r0, u0)) : vV p l e { frames := 3, cells := 0, slots := 0, locals := 63 } s m args below meth c A D 4 0 0 Q (wS q cI cF u) 0 [(0, .ref (q 0)), (1, .int x1)] [] := by
  rw [fX5_mateSet] at h
  refine vi_iconst (v := 0) C dX5_mateSet_0 (by decide) ?_
  refine vi_istore_n (lv' := [(2, .int (0 : Int32)), (0, .ref (q 0)), (1, .int x1)]) C dX5_mateSet_1 rfl (by decide) rfl ?_
  refine vi_iconst (v := 0) C dX5_mateSet_2 (by decide) ?_
  refine vi_istore_n (lv' := [(3, .int (0 : Int32)), (2, .int (0 : Int32)), (0, .ref (q 0)), (1, .int x1)]) C dX5_mateSet_3 rfl (by decide) rfl ?_
  refine vi_sub C [2, 3, 1, 0] rfl ?_
  exact kX5_mateSet_4 C RET  vF _ _ _ _ h
theorem mX5_mateSet {ad adK adV : Nat → Nat} {tS tF : Nat} {tX sK sV : Nat → Nat} (hE : vEok (vE ad adK adV tS tF tX sK sV)) {l : Launch} {D : va_G} {cI cF cC cS cO cB cZ : ClassId} {q : Nat → Nat} {r0 : Int32} {u0 : vH}  {x1 : Int32} {u : vH} (h : fX5_mateSet x1 u = some (r0, u0)) : vM (vE ad adK adV tS tF tX sK sV) l yX5_mateSet cX5_mateSet 4 (some .int) 3 63 D (vT7 cI cF cC cS cO cB cZ) [.ref (q 0), .int x1] (wS q cI cF u) (vQi D (wS q cI cF u0) r0) :=
  vM_of hE (by decide +kernel) (Nat.le_of_ble_eq_true rfl) (fun p e s m args below meth c A C hr => kX5_mateSet_e C (vi_reti C hr) h)
-- ---- X5_matesOf
def fX5_matesOf (x1 : Int32) (u : vH) : Option (Int32 × vH) := obp (fX5_mateSet x1 u) fun y2 u1 => (fJ6_bitCount_0f7a4 y2).bind fun y3 => some (y3, u1)
set_option maxRecDepth 100000 in
set_option maxHeartbeats 4000000 in
theorem kX5_matesOf_e {ad adK adV : Nat → Nat} {tS tF : Nat} {tX sK sV : Nat → Nat} {p : Program} {l : Launch} {e : Env} {s : State} {m : MethodId} {args : Array Value} {below : List Frame} {meth : Method} {c : Code} {A : Nat → Prop} {D : va_G} {cI cF cC cS cO cB cZ : ClassId} {Q : State → Prop} {q : Nat → Nat} (C : vC (vE ad adK adV tS tF tX sK sV) p l s m args meth c A D (vT7 cI cF cC cS cO cB cZ) cX5_matesOf 2 RX5) {r0 : Int32} {u0 : vH} (RET : ∀ (pc : Nat) (lv : List (Nat × Value)), decode cX5_matesOf pc = .ok (.ireturn, 1) → vV p l e { frames := 4, cells := 0, slots := 0, locals := 86 } s m args below meth c A D 2 0 0 Q (wS q cI cF u0) pc lv [.int r0]) {x1 : Int32} {u : vH} (h : fX5_matesOf x1 u = some (r0, u0)) : vV p l e { frames := 4, cells := 0, slots := 0, locals := 86 } s m args below meth c A D 2 0 0 Q (wS q cI cF u) 0 [(0, .ref (q 0)), (1, .int x1)] [] := by
  rw [fX5_matesOf] at h
  refine vi_aload_n C 0 dX5_matesOf_0 rfl ?_
  refine vi_iload_n C 1 dX5_matesOf_1 rfl ?_
  obtain ⟨y2, u1, hgu1, h⟩ := ob_p h
  refine cS_X5_i (As := [.int x1]) (rest := []) C (mX5_mateSet C.2.2.2.2.2.2.2.2.1 hgu1) 1 rfl tcX5_mateSet tlX5_178 tiX5_mateSet tsX5_mateSet rfl tnX5 tdX5_mateSet ⟨Nat.le_of_ble_eq_true rfl, Nat.le_of_ble_eq_true rfl⟩ rfl (Nat.le_of_ble_eq_true rfl) dX5_matesOf_2 ?_
  obtain ⟨y3, hgy3, h⟩ := ob_bd h
  refine vi_callS0i (As := [.int y2]) (rest := []) C (mJ6_bitCount_0f7a4 C.2.2.2.2.2.2.2.2.1 hgy3) 1 rfl tcJ6_bitCount_0f7a4 tlX5_135 ttJ6_bitCount_0f7a4 tnJ6 tdJ6_bitCount_0f7a4 ⟨Nat.le_of_ble_eq_true rfl, Nat.le_of_ble_eq_true rfl⟩ rfl (Nat.le_of_ble_eq_true rfl) dX5_matesOf_5 ?_
  exact vi_donei (W := wS q cI cF) RET h dX5_matesOf_8
theorem mX5_matesOf {ad adK adV : Nat → Nat} {tS tF : Nat} {tX sK sV : Nat → Nat} (hE : vEok (vE ad adK adV tS tF tX sK sV)) {l : Launch} {D : va_G} {cI cF cC cS cO cB cZ : ClassId} {q : Nat → Nat} {r0 : Int32} {u0 : vH}  {x1 : Int32} {u : vH} (h : fX5_matesOf x1 u = some (r0, u0)) : vM (vE ad adK adV tS tF tX sK sV) l yX5_matesOf cX5_matesOf 2 (some .int) 4 86 D (vT7 cI cF cC cS cO cB cZ) [.ref (q 0), .int x1] (wS q cI cF u) (vQi D (wS q cI cF u0) r0) :=
  vM_of hE (by decide +kernel) (Nat.le_of_ble_eq_true rfl) (fun p e s m args below meth c A C hr => kX5_matesOf_e C (vi_reti C hr) h)
-- ---- X5_messOf
def fX5_messOf_20 : Nat → (Int32 → Int32 → vH → Option (Int32 × vH)) → Int32 → Int32 → Int32 → Int32 → vH → Option (Int32 × vH)
  | 0, _, _, _, _, _, _ => none
  | n + 1, rec_6, x1, x2, x3, x4, u => (if u.1 0 0 ≤ x4 then bd ((x2 + 1 : Int32)) fun y2 => rec_6 x3 y2 u else (if (x1 >>> (x4 &&& 31)) &&& (1 : Int32) = (1 : Int32) then obp (fX5_mateSet x4 u) fun y6 u5 => bd ((x3 ||| y6 : Int32)) fun y7 => bd ((x4 + 1 : Int32)) fun y8 => fX5_messOf_20 n rec_6 x1 x2 y7 y8 u5 else bd ((x4 + 1 : Int32)) fun y4 => fX5_messOf_20 n rec_6 x1 x2 x3 y4 u))
set_option maxRecDepth 100000 in
set_option maxHeartbeats 4000000 in
theorem kX5_messOf_20 {ad adK adV : Nat → Nat} {tS tF : Nat} {tX sK sV : Nat → Nat} {p : Program} {l : Launch} {e : Env} {s : State} {m : MethodId} {args : Array Value} {below : List Frame} {meth : Method} {c : Code} {A : Nat → Prop} {D : va_G} {cI cF cC cS cO cB cZ : ClassId} {Q : State → Prop} {q : Nat → Nat} (C : vC (vE ad adK adV tS tF tX sK sV) p l s m args meth c A D (vT7 cI cF cC cS cO cB cZ) cX5_messOf 6 RX5) {r0 : Int32} {u0 : vH} (RET : ∀ (pc : Nat) (lv : List (Nat × Value)), decode cX5_messOf pc = .ok (.ireturn, 1) → vV p l e { frames := 4, cells := 0, slots := 0, locals := 86 } s m args below meth c A D 6 0 0 Q (wS q cI cF u0) pc lv [.int r0]) {rec_6 : Int32 → Int32 → vH → Option (Int32 × vH)} (REC_6 : ∀ (x1 : Int32) (x2 : Int32) (u : vH), rec_6 x1 x2 u = some (r0, u0) → vV p l e { frames := 4, cells := 0, slots := 0, locals := 86 } s m args below meth c A D 6 0 0 Q (wS q cI cF u) 6 [(0, .ref (q 0)), (2, .int x1), (3, .int x2)] []) : ∀ (n : Nat) (x1 : Int32) (x2 : Int32) (x3 : Int32) (x4 : Int32) (u : vH), fX5_messOf_20 n rec_6 x1 x2 x3 x4 u = some (r0, u0) → vV p l e { frames := 4, cells := 0, slots := 0, locals := 86 } s m args below meth c A D 6 0 0 Q (wS q cI cF u) 20 [(0, .ref (q 0)), (2, .int x1), (3, .int x2), (4, .int x3), (5, .int x4)] [] := by
  intro n
  induction n with
  | zero => intro x1 x2 x3 x4 u h; rw [fX5_messOf_20] at h; cases h
  | succ n ih =>
    intro x1 x2 x3 x4 u h
    rw [fX5_messOf_20] at h
    refine vi_iload C 4 dX5_messOf_20 rfl ?_
    refine vi_aload_n C 0 dX5_messOf_22 rfl ?_
    refine gS_X5_0_0 C dX5_messOf_23 ?_
    refine vi_icmp_ge (tgt := 56) C dX5_messOf_26 (by decide) (fun hc1 => ?_) (fun hc1 => ?_)
    · have h := ob_t h hc1
      refine vi_iload C 3 dX5_messOf_56 rfl ?_
      refine vi_istore_n (lv' := [(2, .int x3), (0, .ref (q 0)), (3, .int x2), (4, .int x3), (5, .int x4)]) C dX5_messOf_58 rfl (by decide) rfl ?_
      obtain ⟨y2, ey2, h⟩ := ob_nm h
      refine vi_iinc (v := y2) (lv' := [(3, .int y2), (2, .int x3), (0, .ref (q 0)), (4, .int x3), (5, .int x4)]) C 2 dX5_messOf_59 rfl (by rw [ey2]; rfl) (by decide) rfl ?_
      refine vi_goto (tgt := 6) C dX5_messOf_62 (by decide) ?_
      refine vi_sub C [2, 1, 0] rfl ?_
      exact REC_6 _ _ _ h
    · have h := ob_f h hc1
      refine vi_iload_n C 1 dX5_messOf_29 rfl ?_
      refine vi_iload C 4 dX5_messOf_30 rfl ?_
      refine vi_ishr C dX5_messOf_32 ?_
      refine vi_iconst (v := 1) C dX5_messOf_33 (by decide) ?_
      refine vi_iand C dX5_messOf_34 ?_
      refine vi_iconst (v := 1) C dX5_messOf_35 (by decide) ?_
      refine vi_icmp_ne (tgt := 50) C dX5_messOf_36 (by decide) (fun hc3 => ?_) (fun hc3 => ?_)
      · have h := ob_f h hc3
        obtain ⟨y4, ey4, h⟩ := ob_nm h
        refine vi_iinc (v := y4) (lv' := [(5, .int y4), (0, .ref (q 0)), (2, .int x1), (3, .int x2), (4, .int x3)]) C 4 dX5_messOf_50 rfl (by rw [ey4]; rfl) (by decide) rfl ?_
        refine vi_goto (tgt := 20) C dX5_messOf_53 (by decide) ?_
        refine vi_sub C [1, 2, 3, 4, 0] rfl ?_
        exact ih _ _ _ _ _ h
      · have h := ob_t h hc3
        refine vi_iload C 3 dX5_messOf_39 rfl ?_
        refine vi_aload_n C 0 dX5_messOf_41 rfl ?_
        refine vi_iload C 4 dX5_messOf_42 rfl ?_
        obtain ⟨y6, u5, hgu5, h⟩ := ob_p h
        refine cS_X5_i (As := [.int x4]) (rest := [.int x3]) C (mX5_mateSet C.2.2.2.2.2.2.2.2.1 hgu5) 1 rfl tcX5_mateSet tlX5_178 tiX5_mateSet tsX5_mateSet rfl tnX5 tdX5_mateSet ⟨Nat.le_of_ble_eq_true rfl, Nat.le_of_ble_eq_true rfl⟩ rfl (Nat.le_of_ble_eq_true rfl) dX5_messOf_44 ?_
        refine vi_ior C dX5_messOf_47 ?_
        obtain ⟨y7, ey7, h⟩ := ob_nm h
        refine vi_nmi ey7 ?_
        refine vi_istore (lv' := [(4, .int y7), (0, .ref (q 0)), (2, .int x1), (3, .int x2), (5, .int x4)]) C dX5_messOf_48 (by decide) rfl ?_
        obtain ⟨y8, ey8, h⟩ := ob_nm h
        refine vi_iinc (v := y8) (lv' := [(5, .int y8), (4, .int y7), (0, .ref (q 0)), (2, .int x1), (3, .int x2)]) C 4 dX5_messOf_50 rfl (by rw [ey8]; rfl) (by decide) rfl ?_
        refine vi_goto (tgt := 20) C dX5_messOf_53 (by decide) ?_
        refine vi_sub C [2, 3, 4, 1, 0] rfl ?_
        exact ih _ _ _ _ _ h
def fX5_messOf_6 : Nat → Int32 → Int32 → vH → Option (Int32 × vH)
  | 0, _, _, _ => none
  | n + 1, x1, x2, u => (if u.1 0 0 ≤ x2 then some (x1, u) else fX5_messOf_20 vF (fun a0 a1 a2 => fX5_messOf_6 n  a0 a1 a2) x1 x2 x1 (0 : Int32) u)
set_option maxRecDepth 100000 in
set_option maxHeartbeats 4000000 in
theorem kX5_messOf_6 {ad adK adV : Nat → Nat} {tS tF : Nat} {tX sK sV : Nat → Nat} {p : Program} {l : Launch} {e : Env} {s : State} {m : MethodId} {args : Array Value} {below : List Frame} {meth : Method} {c : Code} {A : Nat → Prop} {D : va_G} {cI cF cC cS cO cB cZ : ClassId} {Q : State → Prop} {q : Nat → Nat} (C : vC (vE ad adK adV tS tF tX sK sV) p l s m args meth c A D (vT7 cI cF cC cS cO cB cZ) cX5_messOf 6 RX5) {r0 : Int32} {u0 : vH} (RET : ∀ (pc : Nat) (lv : List (Nat × Value)), decode cX5_messOf pc = .ok (.ireturn, 1) → vV p l e { frames := 4, cells := 0, slots := 0, locals := 86 } s m args below meth c A D 6 0 0 Q (wS q cI cF u0) pc lv [.int r0]) : ∀ (n : Nat) (x1 : Int32) (x2 : Int32) (u : vH), fX5_messOf_6 n x1 x2 u = some (r0, u0) → vV p l e { frames := 4, cells := 0, slots := 0, locals := 86 } s m args below meth c A D 6 0 0 Q (wS q cI cF u) 6 [(0, .ref (q 0)), (2, .int x1), (3, .int x2)] [] := by
  intro n
  induction n with
  | zero => intro x1 x2 u h; rw [fX5_messOf_6] at h; cases h
  | succ n ih =>
    intro x1 x2 u h
    rw [fX5_messOf_6] at h
    refine vi_iload_n C 2 dX5_messOf_6 rfl ?_
    refine vi_aload_n C 0 dX5_messOf_7 rfl ?_
    refine gS_X5_0_0 C dX5_messOf_8 ?_
    refine vi_icmp_ge (tgt := 65) C dX5_messOf_11 (by decide) (fun hc1 => ?_) (fun hc1 => ?_)
    · have h := ob_t h hc1
      refine vi_iload_n C 1 dX5_messOf_65 rfl ?_
      exact vi_donei (W := wS q cI cF) RET h dX5_messOf_66
    · have h := ob_f h hc1
      refine vi_iload_n C 1 dX5_messOf_14 rfl ?_
      refine vi_istore (lv' := [(4, .int x1), (0, .ref (q 0)), (2, .int x1), (3, .int x2)]) C dX5_messOf_15 (by decide) rfl ?_
      refine vi_iconst (v := 0) C dX5_messOf_17 (by decide) ?_
      refine vi_istore (lv' := [(5, .int (0 : Int32)), (4, .int x1), (0, .ref (q 0)), (2, .int x1), (3, .int x2)]) C dX5_messOf_18 (by decide) rfl ?_
      refine vi_sub C [2, 3, 4, 1, 0] rfl ?_
      exact kX5_messOf_20 C RET ih vF _ _ _ _ _ h
def fX5_messOf (x1 : Int32) (u : vH) : Option (Int32 × vH) := bd (((1 : Int32) <<< (x1 &&& 31) : Int32)) fun y1 => fX5_messOf_6 vF y1 (1 : Int32) u
set_option maxRecDepth 100000 in
set_option maxHeartbeats 4000000 in
theorem kX5_messOf_e {ad adK adV : Nat → Nat} {tS tF : Nat} {tX sK sV : Nat → Nat} {p : Program} {l : Launch} {e : Env} {s : State} {m : MethodId} {args : Array Value} {below : List Frame} {meth : Method} {c : Code} {A : Nat → Prop} {D : va_G} {cI cF cC cS cO cB cZ : ClassId} {Q : State → Prop} {q : Nat → Nat} (C : vC (vE ad adK adV tS tF tX sK sV) p l s m args meth c A D (vT7 cI cF cC cS cO cB cZ) cX5_messOf 6 RX5) {r0 : Int32} {u0 : vH} (RET : ∀ (pc : Nat) (lv : List (Nat × Value)), decode cX5_messOf pc = .ok (.ireturn, 1) → vV p l e { frames := 4, cells := 0, slots := 0, locals := 86 } s m args below meth c A D 6 0 0 Q (wS q cI cF u0) pc lv [.int r0]) {x1 : Int32} {u : vH} (h : fX5_messOf x1 u = some (r0, u0)) : vV p l e { frames := 4, cells := 0, slots := 0, locals := 86 } s m args below meth c A D 6 0 0 Q (wS q cI cF u) 0 [(0, .ref (q 0)), (1, .int x1)] [] := by
  rw [fX5_messOf] at h
  refine vi_iconst (v := 1) C dX5_messOf_0 (by decide) ?_
  refine vi_iload_n C 1 dX5_messOf_1 rfl ?_
  refine vi_ishl C dX5_messOf_2 ?_
  obtain ⟨y1, ey1, h⟩ := ob_nm h
  refine vi_nmi ey1 ?_
  refine vi_istore_n (lv' := [(2, .int y1), (0, .ref (q 0)), (1, .int x1)]) C dX5_messOf_3 rfl (by decide) rfl ?_
  refine vi_iconst (v := 1) C dX5_messOf_4 (by decide) ?_
  refine vi_istore_n (lv' := [(3, .int (1 : Int32)), (2, .int y1), (0, .ref (q 0)), (1, .int x1)]) C dX5_messOf_5 rfl (by decide) rfl ?_
  refine vi_sub C [2, 1, 0] rfl ?_
  exact kX5_messOf_6 C RET  vF _ _ _ h
theorem mX5_messOf {ad adK adV : Nat → Nat} {tS tF : Nat} {tX sK sV : Nat → Nat} (hE : vEok (vE ad adK adV tS tF tX sK sV)) {l : Launch} {D : va_G} {cI cF cC cS cO cB cZ : ClassId} {q : Nat → Nat} {r0 : Int32} {u0 : vH}  {x1 : Int32} {u : vH} (h : fX5_messOf x1 u = some (r0, u0)) : vM (vE ad adK adV tS tF tX sK sV) l yX5_messOf cX5_messOf 6 (some .int) 4 86 D (vT7 cI cF cC cS cO cB cZ) [.ref (q 0), .int x1] (wS q cI cF u) (vQi D (wS q cI cF u0) r0) :=
  vM_of hE (by decide +kernel) (Nat.le_of_ble_eq_true rfl) (fun p e s m args below meth c A C hr => kX5_messOf_e C (vi_reti C hr) h)
-- ---- X5_allMesses
def fX5_allMesses_4 : Nat → Int32 → Int32 → vH → Option (Int32 × vH)
  | 0, _, _, _ => none
  | n + 1, x1, x2, u => (if u.1 0 0 ≤ x2 then some (x1, u) else bd ((((1 : Int32) <<< (x2 &&& 31)) - (1 : Int32) : Int32)) fun y2 => obp (fX5_messOf x2 u) fun y4 u3 => (if y4 &&& y2 = 0 then bd ((x1 + 1 : Int32)) fun y7 => bd ((x2 + 1 : Int32)) fun y8 => fX5_allMesses_4 n y7 y8 u3 else bd ((x2 + 1 : Int32)) fun y6 => fX5_allMesses_4 n x1 y6 u3))
set_option maxRecDepth 100000 in
set_option maxHeartbeats 4000000 in
theorem kX5_allMesses_4 {ad adK adV : Nat → Nat} {tS tF : Nat} {tX sK sV : Nat → Nat} {p : Program} {l : Launch} {e : Env} {s : State} {m : MethodId} {args : Array Value} {below : List Frame} {meth : Method} {c : Code} {A : Nat → Prop} {D : va_G} {cI cF cC cS cO cB cZ : ClassId} {Q : State → Prop} {q : Nat → Nat} (C : vC (vE ad adK adV tS tF tX sK sV) p l s m args meth c A D (vT7 cI cF cC cS cO cB cZ) cX5_allMesses 4 RX5) {r0 : Int32} {u0 : vH} (RET : ∀ (pc : Nat) (lv : List (Nat × Value)), decode cX5_allMesses pc = .ok (.ireturn, 1) → vV p l e { frames := 5, cells := 0, slots := 0, locals := 111 } s m args below meth c A D 4 0 0 Q (wS q cI cF u0) pc lv [.int r0]) : ∀ (n : Nat) (x1 : Int32) (x2 : Int32) (u : vH), fX5_allMesses_4 n x1 x2 u = some (r0, u0) → vV p l e { frames := 5, cells := 0, slots := 0, locals := 111 } s m args below meth c A D 4 0 0 Q (wS q cI cF u) 4 [(0, .ref (q 0)), (1, .int x1), (2, .int x2)] [] := by
  intro n
  induction n with
  | zero => intro x1 x2 u h; rw [fX5_allMesses_4] at h; cases h
  | succ n ih =>
    intro x1 x2 u h
    rw [fX5_allMesses_4] at h
    refine vi_iload_n C 2 dX5_allMesses_4 rfl ?_
    refine vi_aload_n C 0 dX5_allMesses_5 rfl ?_
    refine gS_X5_0_0 C dX5_allMesses_6 ?_
    refine vi_icmp_ge (tgt := 37) C dX5_allMesses_9 (by decide) (fun hc1 => ?_) (fun hc1 => ?_)
    · have h := ob_t h hc1
      refine vi_iload_n C 1 dX5_allMesses_37 rfl ?_
      exact vi_donei (W := wS q cI cF) RET h dX5_allMesses_38
    · have h := ob_f h hc1
      refine vi_iconst (v := 1) C dX5_allMesses_12 (by decide) ?_
      refine vi_iload_n C 2 dX5_allMesses_13 rfl ?_
      refine vi_ishl C dX5_allMesses_14 ?_
      refine vi_iconst (v := 1) C dX5_allMesses_15 (by decide) ?_
      refine vi_isub C dX5_allMesses_16 ?_
      obtain ⟨y2, ey2, h⟩ := ob_nm h
      refine vi_nmi ey2 ?_
      refine vi_istore_n (lv' := [(3, .int y2), (0, .ref (q 0)), (1, .int x1), (2, .int x2)]) C dX5_allMesses_17 rfl (by decide) rfl ?_
      refine vi_aload_n C 1 dX5_allMesses_18 rfl ?_
      refine vi_iload_n C 3 dX5_allMesses_19 rfl ?_
      obtain ⟨y4, u3, hgu3, h⟩ := ob_p h
      refine cS_X5_i (As := [.int x2]) (rest := []) C (mX5_messOf C.2.2.2.2.2.2.2.2.1 hgu3) 1 rfl tcX5_messOf tlX5_181 tiX5_messOf tsX5_messOf rfl tnX5 tdX5_messOf ⟨Nat.le_of_ble_eq_true rfl, Nat.le_of_ble_eq_true rfl⟩ rfl (Nat.le_of_ble_eq_true rfl) dX5_allMesses_20 ?_
      refine vi_iload_n C 0 dX5_allMesses_23 rfl ?_
      refine vi_iand C dX5_allMesses_24 ?_
      refine vi_if_ne (tgt := 31) C dX5_allMesses_25 (by decide) (fun hc5 => ?_) (fun hc5 => ?_)
      · have h := ob_f h hc5
        obtain ⟨y6, ey6, h⟩ := ob_nm h
        refine vi_iinc (v := y6) (lv' := [(2, .int y6), (3, .int y2), (0, .ref (q 0)), (1, .int x1)]) C 3 dX5_allMesses_31 rfl (by rw [ey6]; rfl) (by decide) rfl ?_
        refine vi_goto (tgt := 4) C dX5_allMesses_34 (by decide) ?_
        refine vi_sub C [2, 3, 0] rfl ?_
        exact ih _ _ _ h
      · have h := ob_t h hc5
        obtain ⟨y7, ey7, h⟩ := ob_nm h
        refine vi_iinc (v := y7) (lv' := [(1, .int y7), (3, .int y2), (0, .ref (q 0)), (2, .int x2)]) C 2 dX5_allMesses_28 rfl (by rw [ey7]; rfl) (by decide) rfl ?_
        obtain ⟨y8, ey8, h⟩ := ob_nm h
        refine vi_iinc (v := y8) (lv' := [(2, .int y8), (1, .int y7), (3, .int y2), (0, .ref (q 0))]) C 3 dX5_allMesses_31 rfl (by rw [ey8]; rfl) (by decide) rfl ?_
        refine vi_goto (tgt := 4) C dX5_allMesses_34 (by decide) ?_
        refine vi_sub C [3, 1, 0] rfl ?_
        exact ih _ _ _ h
def fX5_allMesses (u : vH) : Option (Int32 × vH) := fX5_allMesses_4 vF (0 : Int32) (0 : Int32) u
set_option maxRecDepth 100000 in
set_option maxHeartbeats 4000000 in
theorem kX5_allMesses_e {ad adK adV : Nat → Nat} {tS tF : Nat} {tX sK sV : Nat → Nat} {p : Program} {l : Launch} {e : Env} {s : State} {m : MethodId} {args : Array Value} {below : List Frame} {meth : Method} {c : Code} {A : Nat → Prop} {D : va_G} {cI cF cC cS cO cB cZ : ClassId} {Q : State → Prop} {q : Nat → Nat} (C : vC (vE ad adK adV tS tF tX sK sV) p l s m args meth c A D (vT7 cI cF cC cS cO cB cZ) cX5_allMesses 4 RX5) {r0 : Int32} {u0 : vH} (RET : ∀ (pc : Nat) (lv : List (Nat × Value)), decode cX5_allMesses pc = .ok (.ireturn, 1) → vV p l e { frames := 5, cells := 0, slots := 0, locals := 111 } s m args below meth c A D 4 0 0 Q (wS q cI cF u0) pc lv [.int r0]) {u : vH} (h : fX5_allMesses u = some (r0, u0)) : vV p l e { frames := 5, cells := 0, slots := 0, locals := 111 } s m args below meth c A D 4 0 0 Q (wS q cI cF u) 0 [(0, .ref (q 0))] [] := by
  rw [fX5_allMesses] at h
  refine vi_iconst (v := 0) C dX5_allMesses_0 (by decide) ?_
  refine vi_istore_n (lv' := [(1, .int (0 : Int32)), (0, .ref (q 0))]) C dX5_allMesses_1 rfl (by decide) rfl ?_
  refine vi_iconst (v := 0) C dX5_allMesses_2 (by decide) ?_
  refine vi_istore_n (lv' := [(2, .int (0 : Int32)), (1, .int (0 : Int32)), (0, .ref (q 0))]) C dX5_allMesses_3 rfl (by decide) rfl ?_
  refine vi_sub C [2, 1, 0] rfl ?_
  exact kX5_allMesses_4 C RET  vF _ _ _ h
theorem mX5_allMesses {ad adK adV : Nat → Nat} {tS tF : Nat} {tX sK sV : Nat → Nat} (hE : vEok (vE ad adK adV tS tF tX sK sV)) {l : Launch} {D : va_G} {cI cF cC cS cO cB cZ : ClassId} {q : Nat → Nat} {r0 : Int32} {u0 : vH}  {u : vH} (h : fX5_allMesses u = some (r0, u0)) : vM (vE ad adK adV tS tF tX sK sV) l yX5_allMesses cX5_allMesses 4 (some .int) 5 111 D (vT7 cI cF cC cS cO cB cZ) [.ref (q 0)] (wS q cI cF u) (vQi D (wS q cI cF u0) r0) :=
  vM_of hE (by decide +kernel) (Nat.le_of_ble_eq_true rfl) (fun p e s m args below meth c A C hr => kX5_allMesses_e C (vi_reti C hr) h)
-- ---- X5_sailorsIn
def fX5_sailorsIn_4 : Nat → Int32 → Int32 → Int32 → vH → Option (Int32 × vH)
  | 0, _, _, _, _ => none
  | n + 1, x1, x2, x3, u => (if u.1 0 0 ≤ x3 then some (x2, u) else if x3 < 0 ∨ 8 ≤ Int32.toNatClampNeg x3 then none else (if u.1 3 (Int32.toNatClampNeg x3) = x1 then bd ((x2 + 1 : Int32)) fun y5 => bd ((x3 + 1 : Int32)) fun y6 => fX5_sailorsIn_4 n x1 y5 y6 u else bd ((x3 + 1 : Int32)) fun y4 => fX5_sailorsIn_4 n x1 x2 y4 u))
set_option maxRecDepth 100000 in
set_option maxHeartbeats 4000000 in
theorem kX5_sailorsIn_4 {ad adK adV : Nat → Nat} {tS tF : Nat} {tX sK sV : Nat → Nat} {p : Program} {l : Launch} {e : Env} {s : State} {m : MethodId} {args : Array Value} {below : List Frame} {meth : Method} {c : Code} {A : Nat → Prop} {D : va_G} {cI cF cC cS cO cB cZ : ClassId} {Q : State → Prop} {q : Nat → Nat} (C : vC (vE ad adK adV tS tF tX sK sV) p l s m args meth c A D (vT7 cI cF cC cS cO cB cZ) cX5_sailorsIn 4 RX5) {r0 : Int32} {u0 : vH} (RET : ∀ (pc : Nat) (lv : List (Nat × Value)), decode cX5_sailorsIn pc = .ok (.ireturn, 1) → vV p l e { frames := 0, cells := 0, slots := 0, locals := 0 } s m args below meth c A D 4 0 0 Q (wS q cI cF u0) pc lv [.int r0]) : ∀ (n : Nat) (x1 : Int32) (x2 : Int32) (x3 : Int32) (u : vH), fX5_sailorsIn_4 n x1 x2 x3 u = some (r0, u0) → vV p l e { frames := 0, cells := 0, slots := 0, locals := 0 } s m args below meth c A D 4 0 0 Q (wS q cI cF u) 4 [(0, .ref (q 0)), (1, .int x1), (2, .int x2), (3, .int x3)] [] := by
  intro n
  induction n with
  | zero => intro x1 x2 x3 u h; rw [fX5_sailorsIn_4] at h; cases h
  | succ n ih =>
    intro x1 x2 x3 u h
    rw [fX5_sailorsIn_4] at h
    refine vi_iload_n C 3 dX5_sailorsIn_4 rfl ?_
    refine vi_aload_n C 0 dX5_sailorsIn_5 rfl ?_
    refine gS_X5_0_0 C dX5_sailorsIn_6 ?_
    refine vi_icmp_ge (tgt := 31) C dX5_sailorsIn_9 (by decide) (fun hc1 => ?_) (fun hc1 => ?_)
    · have h := ob_t h hc1
      refine vi_iload_n C 2 dX5_sailorsIn_31 rfl ?_
      exact vi_donei (W := wS q cI cF) RET h dX5_sailorsIn_32
    · have h := ob_f h hc1
      refine vi_aload_n C 0 dX5_sailorsIn_12 rfl ?_
      refine gS_X5_0_3 C dX5_sailorsIn_13 ?_
      refine vi_iload_n C 3 dX5_sailorsIn_16 rfl ?_
      obtain ⟨hz2, h⟩ := ob_if h
      refine lS_X5_3 (n := (Int32.toNatClampNeg x3)) C hz2 rfl dX5_sailorsIn_17 ?_
      refine vi_iload_n C 1 dX5_sailorsIn_18 rfl ?_
      refine vi_icmp_ne (tgt := 25) C dX5_sailorsIn_19 (by decide) (fun hc3 => ?_) (fun hc3 => ?_)
      · have h := ob_f h hc3
        obtain ⟨y4, ey4, h⟩ := ob_nm h
        refine vi_iinc (v := y4) (lv' := [(3, .int y4), (0, .ref (q 0)), (1, .int x1), (2, .int x2)]) C 3 dX5_sailorsIn_25 rfl (by rw [ey4]; rfl) (by decide) rfl ?_
        refine vi_goto (tgt := 4) C dX5_sailorsIn_28 (by decide) ?_
        refine vi_sub C [1, 2, 3, 0] rfl ?_
        exact ih _ _ _ _ h
      · have h := ob_t h hc3
        obtain ⟨y5, ey5, h⟩ := ob_nm h
        refine vi_iinc (v := y5) (lv' := [(2, .int y5), (0, .ref (q 0)), (1, .int x1), (3, .int x3)]) C 2 dX5_sailorsIn_22 rfl (by rw [ey5]; rfl) (by decide) rfl ?_
        obtain ⟨y6, ey6, h⟩ := ob_nm h
        refine vi_iinc (v := y6) (lv' := [(3, .int y6), (2, .int y5), (0, .ref (q 0)), (1, .int x1)]) C 3 dX5_sailorsIn_25 rfl (by rw [ey6]; rfl) (by decide) rfl ?_
        refine vi_goto (tgt := 4) C dX5_sailorsIn_28 (by decide) ?_
        refine vi_sub C [2, 3, 1, 0] rfl ?_
        exact ih _ _ _ _ h
def fX5_sailorsIn (x1 : Int32) (u : vH) : Option (Int32 × vH) := fX5_sailorsIn_4 vF x1 (0 : Int32) (0 : Int32) u
set_option maxRecDepth 100000 in
set_option maxHeartbeats 4000000 in
theorem kX5_sailorsIn_e {ad adK adV : Nat → Nat} {tS tF : Nat} {tX sK sV : Nat → Nat} {p : Program} {l : Launch} {e : Env} {s : State} {m : MethodId} {args : Array Value} {below : List Frame} {meth : Method} {c : Code} {A : Nat → Prop} {D : va_G} {cI cF cC cS cO cB cZ : ClassId} {Q : State → Prop} {q : Nat → Nat} (C : vC (vE ad adK adV tS tF tX sK sV) p l s m args meth c A D (vT7 cI cF cC cS cO cB cZ) cX5_sailorsIn 4 RX5) {r0 : Int32} {u0 : vH} (RET : ∀ (pc : Nat) (lv : List (Nat × Value)), decode cX5_sailorsIn pc = .ok (.ireturn, 1) → vV p l e { frames := 0, cells := 0, slots := 0, locals := 0 } s m args below meth c A D 4 0 0 Q (wS q cI cF u0) pc lv [.int r0]) {x1 : Int32} {u : vH} (h : fX5_sailorsIn x1 u = some (r0, u0)) : vV p l e { frames := 0, cells := 0, slots := 0, locals := 0 } s m args below meth c A D 4 0 0 Q (wS q cI cF u) 0 [(0, .ref (q 0)), (1, .int x1)] [] := by
  rw [fX5_sailorsIn] at h
  refine vi_iconst (v := 0) C dX5_sailorsIn_0 (by decide) ?_
  refine vi_istore_n (lv' := [(2, .int (0 : Int32)), (0, .ref (q 0)), (1, .int x1)]) C dX5_sailorsIn_1 rfl (by decide) rfl ?_
  refine vi_iconst (v := 0) C dX5_sailorsIn_2 (by decide) ?_
  refine vi_istore_n (lv' := [(3, .int (0 : Int32)), (2, .int (0 : Int32)), (0, .ref (q 0)), (1, .int x1)]) C dX5_sailorsIn_3 rfl (by decide) rfl ?_
  refine vi_sub C [2, 3, 1, 0] rfl ?_
  exact kX5_sailorsIn_4 C RET  vF _ _ _ _ h
theorem mX5_sailorsIn {ad adK adV : Nat → Nat} {tS tF : Nat} {tX sK sV : Nat → Nat} (hE : vEok (vE ad adK adV tS tF tX sK sV)) {l : Launch} {D : va_G} {cI cF cC cS cO cB cZ : ClassId} {q : Nat → Nat} {r0 : Int32} {u0 : vH}  {x1 : Int32} {u : vH} (h : fX5_sailorsIn x1 u = some (r0, u0)) : vM (vE ad adK adV tS tF tX sK sV) l yX5_sailorsIn cX5_sailorsIn 4 (some .int) 0 0 D (vT7 cI cF cC cS cO cB cZ) [.ref (q 0), .int x1] (wS q cI cF u) (vQi D (wS q cI cF u0) r0) :=
  vM_of hE (by decide +kernel) (Nat.le_of_ble_eq_true rfl) (fun p e s m args below meth c A C hr => kX5_sailorsIn_e C (vi_reti C hr) h)
-- ---- X5_watchCheer
def fX5_watchCheer_4 : Nat → Int32 → Int32 → Int32 → vH → Option (Int32 × vH)
  | 0, _, _, _, _ => none
  | n + 1, x1, x2, x3, u => (if u.1 0 0 ≤ x3 then some (x2, u) else if x3 < 0 ∨ 8 ≤ Int32.toNatClampNeg x3 then none else (if u.1 3 (Int32.toNatClampNeg x3) = x1 then if x3 < 0 ∨ 8 ≤ Int32.toNatClampNeg x3 then none else (fX5_cheerIn (u.1 1 (Int32.toNatClampNeg x3))).bind fun y6 => bd ((x2 + y6 : Int32)) fun y7 => bd ((x3 + 1 : Int32)) fun y8 => fX5_watchCheer_4 n x1 y7 y8 u else bd ((x3 + 1 : Int32)) fun y4 => fX5_watchCheer_4 n x1 x2 y4 u))
set_option maxRecDepth 100000 in
set_option maxHeartbeats 4000000 in
theorem kX5_watchCheer_4 {ad adK adV : Nat → Nat} {tS tF : Nat} {tX sK sV : Nat → Nat} {p : Program} {l : Launch} {e : Env} {s : State} {m : MethodId} {args : Array Value} {below : List Frame} {meth : Method} {c : Code} {A : Nat → Prop} {D : va_G} {cI cF cC cS cO cB cZ : ClassId} {Q : State → Prop} {q : Nat → Nat} (C : vC (vE ad adK adV tS tF tX sK sV) p l s m args meth c A D (vT7 cI cF cC cS cO cB cZ) cX5_watchCheer 4 RX5) {r0 : Int32} {u0 : vH} (RET : ∀ (pc : Nat) (lv : List (Nat × Value)), decode cX5_watchCheer pc = .ok (.ireturn, 1) → vV p l e { frames := 2, cells := 0, slots := 0, locals := 40 } s m args below meth c A D 4 0 0 Q (wS q cI cF u0) pc lv [.int r0]) : ∀ (n : Nat) (x1 : Int32) (x2 : Int32) (x3 : Int32) (u : vH), fX5_watchCheer_4 n x1 x2 x3 u = some (r0, u0) → vV p l e { frames := 2, cells := 0, slots := 0, locals := 40 } s m args below meth c A D 4 0 0 Q (wS q cI cF u) 4 [(0, .ref (q 0)), (1, .int x1), (2, .int x2), (3, .int x3)] [] := by
  intro n
  induction n with
  | zero => intro x1 x2 x3 u h; rw [fX5_watchCheer_4] at h; cases h
  | succ n ih =>
    intro x1 x2 x3 u h
    rw [fX5_watchCheer_4] at h
    refine vi_iload_n C 3 dX5_watchCheer_4 rfl ?_
    refine vi_aload_n C 0 dX5_watchCheer_5 rfl ?_
    refine gS_X5_0_0 C dX5_watchCheer_6 ?_
    refine vi_icmp_ge (tgt := 40) C dX5_watchCheer_9 (by decide) (fun hc1 => ?_) (fun hc1 => ?_)
    · have h := ob_t h hc1
      refine vi_iload_n C 2 dX5_watchCheer_40 rfl ?_
      exact vi_donei (W := wS q cI cF) RET h dX5_watchCheer_41
    · have h := ob_f h hc1
      refine vi_aload_n C 0 dX5_watchCheer_12 rfl ?_
      refine gS_X5_0_3 C dX5_watchCheer_13 ?_
      refine vi_iload_n C 3 dX5_watchCheer_16 rfl ?_
      obtain ⟨hz2, h⟩ := ob_if h
      refine lS_X5_3 (n := (Int32.toNatClampNeg x3)) C hz2 rfl dX5_watchCheer_17 ?_
      refine vi_iload_n C 1 dX5_watchCheer_18 rfl ?_
      refine vi_icmp_ne (tgt := 34) C dX5_watchCheer_19 (by decide) (fun hc3 => ?_) (fun hc3 => ?_)
      · have h := ob_f h hc3
        obtain ⟨y4, ey4, h⟩ := ob_nm h
        refine vi_iinc (v := y4) (lv' := [(3, .int y4), (0, .ref (q 0)), (1, .int x1), (2, .int x2)]) C 3 dX5_watchCheer_34 rfl (by rw [ey4]; rfl) (by decide) rfl ?_
        refine vi_goto (tgt := 4) C dX5_watchCheer_37 (by decide) ?_
        refine vi_sub C [1, 2, 3, 0] rfl ?_
        exact ih _ _ _ _ h
      · have h := ob_t h hc3
        refine vi_iload_n C 2 dX5_watchCheer_22 rfl ?_
        refine vi_aload_n C 0 dX5_watchCheer_23 rfl ?_
        refine gS_X5_0_1 C dX5_watchCheer_24 ?_
        refine vi_iload_n C 3 dX5_watchCheer_27 rfl ?_
        obtain ⟨hz5, h⟩ := ob_if h
        refine lS_X5_1 (n := (Int32.toNatClampNeg x3)) C hz5 rfl dX5_watchCheer_28 ?_
        obtain ⟨y6, hgy6, h⟩ := ob_bd h
        refine vi_callS0i (As := [.int (u.1 1 (Int32.toNatClampNeg x3))]) (rest := [.int x2]) C (mX5_cheerIn C.2.2.2.2.2.2.2.2.1 hgy6) 1 rfl tcX5_cheerIn tlX5_148 ttX5_cheerIn tnX5 tdX5_cheerIn ⟨Nat.le_of_ble_eq_true rfl, Nat.le_of_ble_eq_true rfl⟩ rfl (Nat.le_of_ble_eq_true rfl) dX5_watchCheer_29 ?_
        refine vi_iadd C dX5_watchCheer_32 ?_
        obtain ⟨y7, ey7, h⟩ := ob_nm h
        refine vi_nmi ey7 ?_
        refine vi_istore_n (lv' := [(2, .int y7), (0, .ref (q 0)), (1, .int x1), (3, .int x3)]) C dX5_watchCheer_33 rfl (by decide) rfl ?_
        obtain ⟨y8, ey8, h⟩ := ob_nm h
        refine vi_iinc (v := y8) (lv' := [(3, .int y8), (2, .int y7), (0, .ref (q 0)), (1, .int x1)]) C 3 dX5_watchCheer_34 rfl (by rw [ey8]; rfl) (by decide) rfl ?_
        refine vi_goto (tgt := 4) C dX5_watchCheer_37 (by decide) ?_
        refine vi_sub C [2, 3, 1, 0] rfl ?_
        exact ih _ _ _ _ h
def fX5_watchCheer (x1 : Int32) (u : vH) : Option (Int32 × vH) := fX5_watchCheer_4 vF x1 (0 : Int32) (0 : Int32) u
set_option maxRecDepth 100000 in
set_option maxHeartbeats 4000000 in
theorem kX5_watchCheer_e {ad adK adV : Nat → Nat} {tS tF : Nat} {tX sK sV : Nat → Nat} {p : Program} {l : Launch} {e : Env} {s : State} {m : MethodId} {args : Array Value} {below : List Frame} {meth : Method} {c : Code} {A : Nat → Prop} {D : va_G} {cI cF cC cS cO cB cZ : ClassId} {Q : State → Prop} {q : Nat → Nat} (C : vC (vE ad adK adV tS tF tX sK sV) p l s m args meth c A D (vT7 cI cF cC cS cO cB cZ) cX5_watchCheer 4 RX5) {r0 : Int32} {u0 : vH} (RET : ∀ (pc : Nat) (lv : List (Nat × Value)), decode cX5_watchCheer pc = .ok (.ireturn, 1) → vV p l e { frames := 2, cells := 0, slots := 0, locals := 40 } s m args below meth c A D 4 0 0 Q (wS q cI cF u0) pc lv [.int r0]) {x1 : Int32} {u : vH} (h : fX5_watchCheer x1 u = some (r0, u0)) : vV p l e { frames := 2, cells := 0, slots := 0, locals := 40 } s m args below meth c A D 4 0 0 Q (wS q cI cF u) 0 [(0, .ref (q 0)), (1, .int x1)] [] := by
  rw [fX5_watchCheer] at h
  refine vi_iconst (v := 0) C dX5_watchCheer_0 (by decide) ?_
  refine vi_istore_n (lv' := [(2, .int (0 : Int32)), (0, .ref (q 0)), (1, .int x1)]) C dX5_watchCheer_1 rfl (by decide) rfl ?_
  refine vi_iconst (v := 0) C dX5_watchCheer_2 (by decide) ?_
  refine vi_istore_n (lv' := [(3, .int (0 : Int32)), (2, .int (0 : Int32)), (0, .ref (q 0)), (1, .int x1)]) C dX5_watchCheer_3 rfl (by decide) rfl ?_
  refine vi_sub C [2, 3, 1, 0] rfl ?_
  exact kX5_watchCheer_4 C RET  vF _ _ _ _ h
theorem mX5_watchCheer {ad adK adV : Nat → Nat} {tS tF : Nat} {tX sK sV : Nat → Nat} (hE : vEok (vE ad adK adV tS tF tX sK sV)) {l : Launch} {D : va_G} {cI cF cC cS cO cB cZ : ClassId} {q : Nat → Nat} {r0 : Int32} {u0 : vH}  {x1 : Int32} {u : vH} (h : fX5_watchCheer x1 u = some (r0, u0)) : vM (vE ad adK adV tS tF tX sK sV) l yX5_watchCheer cX5_watchCheer 4 (some .int) 2 40 D (vT7 cI cF cC cS cO cB cZ) [.ref (q 0), .int x1] (wS q cI cF u) (vQi D (wS q cI cF u0) r0) :=
  vM_of hE (by decide +kernel) (Nat.le_of_ble_eq_true rfl) (fun p e s m args below meth c A C hr => kX5_watchCheer_e C (vi_reti C hr) h)
