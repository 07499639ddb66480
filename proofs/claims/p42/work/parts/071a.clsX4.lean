-- ---- X4_keep
def fX4_keep (x1 : Int32) (x2 : Int32) (u : vS) : Option (vS) := bd (up2 u 1 0 x1) fun u1 => bd (up2 u1 2 0 x2) fun u2 => bd (up2 u2 0 2 (1 : Int32)) fun u3 => some u3
set_option maxRecDepth 100000 in
set_option maxHeartbeats 4000000 in
theorem kX4_keep_e {ad adK adV : Nat → Nat} {tS tF : Nat} {tX sK sV : Nat → Nat} {p : Program} {l : Launch} {e : Env} {s : State} {m : MethodId} {args : Array Value} {below : List Frame} {meth : Method} {c : Code} {A : Nat → Prop} {D : va_G} {cI cF cC cS cO cB cZ : ClassId} {Q : State → Prop} {q : Nat → Nat} (C : vC (vE ad adK adV tS tF tX sK sV) p l s m args meth c A D (vT7 cI cF cC cS cO cB cZ) cX4_keep 3 RX4) {u0 : vS} (RET : ∀ (pc : Nat) (lv : List (Nat × Value)), decode cX4_keep pc = .ok (.return_, 1) → vV p l e { frames := 0, cells := 0, slots := 0, locals := 0 } s m args below meth c A D 3 0 0 Q (wRe q cI u0) pc lv []) {x1 : Int32} {x2 : Int32} {u : vS} (h : fX4_keep x1 x2 u = some u0) : vV p l e { frames := 0, cells := 0, slots := 0, locals := 0 } s m args below meth c A D 3 0 0 Q (wRe q cI u) 0 [(0, .ref (q 0)), (1, .int x1), (2, .int x2)] [] := by
  rw [fX4_keep] at h
  refine vi_aload_n C 0 dX4_keep_0 rfl ?_
  refine gRe_X4_0_0 C dX4_keep_1 ?_
  refine vi_iconst (v := 0) C dX4_keep_4 (by decide) ?_
  refine vi_iload_n C 1 dX4_keep_5 rfl ?_
  obtain ⟨u1, eu1, h⟩ := ob_nm h
  refine sRe_X4_1 (n := 0) C (by decide) rfl dX4_keep_6 eu1.symm ?_
  refine vi_aload_n C 0 dX4_keep_7 rfl ?_
  refine gRe_X4_0_1 C dX4_keep_8 ?_
  refine vi_iconst (v := 0) C dX4_keep_11 (by decide) ?_
  refine vi_iload_n C 2 dX4_keep_12 rfl ?_
  obtain ⟨u2, eu2, h⟩ := ob_nm h
  refine sRe_X4_2 (n := 0) C (by decide) rfl dX4_keep_13 eu2.symm ?_
  refine vi_aload_n C 0 dX4_keep_14 rfl ?_
  refine vi_iconst (v := 1) C dX4_keep_15 (by decide) ?_
  obtain ⟨u3, eu3, h⟩ := ob_nm h
  refine pRe_X4_0_2 C dX4_keep_16 eu3.symm ?_
  exact vi_donev (W := wRe q cI) RET h dX4_keep_19
theorem mX4_keep {ad adK adV : Nat → Nat} {tS tF : Nat} {tX sK sV : Nat → Nat} (hE : vEok (vE ad adK adV tS tF tX sK sV)) {l : Launch} {D : va_G} {cI cF cC cS cO cB cZ : ClassId} {q : Nat → Nat} {u0 : vS}  {x1 : Int32} {x2 : Int32} {u : vS} (h : fX4_keep x1 x2 u = some u0) : vM (vE ad adK adV tS tF tX sK sV) l yX4_keep cX4_keep 3 none 0 0 D (vT7 cI cF cC cS cO cB cZ) [.ref (q 0), .int x1, .int x2] (wRe q cI u) (vQv D (wRe q cI u0)) :=
  vM_of hE (by decide +kernel) (Nat.le_of_ble_eq_true rfl) (fun p e s m args below meth c A C hr => kX4_keep_e C (vi_retv C hr) h)
-- ---- X4_keepBehind
def fX4_keepBehind (x1 : Int32) (x2 : Int32) (u : vS) : Option (vS) := bd (up2 u 1 1 x1) fun u1 => bd (up2 u1 2 1 x2) fun u2 => bd (up2 u2 0 2 (2 : Int32)) fun u3 => some u3
set_option maxRecDepth 100000 in
set_option maxHeartbeats 4000000 in
theorem kX4_keepBehind_e {ad adK adV : Nat → Nat} {tS tF : Nat} {tX sK sV : Nat → Nat} {p : Program} {l : Launch} {e : Env} {s : State} {m : MethodId} {args : Array Value} {below : List Frame} {meth : Method} {c : Code} {A : Nat → Prop} {D : va_G} {cI cF cC cS cO cB cZ : ClassId} {Q : State → Prop} {q : Nat → Nat} (C : vC (vE ad adK adV tS tF tX sK sV) p l s m args meth c A D (vT7 cI cF cC cS cO cB cZ) cX4_keepBehind 3 RX4) {u0 : vS} (RET : ∀ (pc : Nat) (lv : List (Nat × Value)), decode cX4_keepBehind pc = .ok (.return_, 1) → vV p l e { frames := 0, cells := 0, slots := 0, locals := 0 } s m args below meth c A D 3 0 0 Q (wRe q cI u0) pc lv []) {x1 : Int32} {x2 : Int32} {u : vS} (h : fX4_keepBehind x1 x2 u = some u0) : vV p l e { frames := 0, cells := 0, slots := 0, locals := 0 } s m args below meth c A D 3 0 0 Q (wRe q cI u) 0 [(0, .ref (q 0)), (1, .int x1), (2, .int x2)] [] := by
  rw [fX4_keepBehind] at h
  refine vi_aload_n C 0 dX4_keepBehind_0 rfl ?_
  refine gRe_X4_0_0 C dX4_keepBehind_1 ?_
  refine vi_iconst (v := 1) C dX4_keepBehind_4 (by decide) ?_
  refine vi_iload_n C 1 dX4_keepBehind_5 rfl ?_
  obtain ⟨u1, eu1, h⟩ := ob_nm h
  refine sRe_X4_1 (n := 1) C (by decide) rfl dX4_keepBehind_6 eu1.symm ?_
  refine vi_aload_n C 0 dX4_keepBehind_7 rfl ?_
  refine gRe_X4_0_1 C dX4_keepBehind_8 ?_
  refine vi_iconst (v := 1) C dX4_keepBehind_11 (by decide) ?_
  refine vi_iload_n C 2 dX4_keepBehind_12 rfl ?_
  obtain ⟨u2, eu2, h⟩ := ob_nm h
  refine sRe_X4_2 (n := 1) C (by decide) rfl dX4_keepBehind_13 eu2.symm ?_
  refine vi_aload_n C 0 dX4_keepBehind_14 rfl ?_
  refine vi_iconst (v := 2) C dX4_keepBehind_15 (by decide) ?_
  obtain ⟨u3, eu3, h⟩ := ob_nm h
  refine pRe_X4_0_2 C dX4_keepBehind_16 eu3.symm ?_
  exact vi_donev (W := wRe q cI) RET h dX4_keepBehind_19
theorem mX4_keepBehind {ad adK adV : Nat → Nat} {tS tF : Nat} {tX sK sV : Nat → Nat} (hE : vEok (vE ad adK adV tS tF tX sK sV)) {l : Launch} {D : va_G} {cI cF cC cS cO cB cZ : ClassId} {q : Nat → Nat} {u0 : vS}  {x1 : Int32} {x2 : Int32} {u : vS} (h : fX4_keepBehind x1 x2 u = some u0) : vM (vE ad adK adV tS tF tX sK sV) l yX4_keepBehind cX4_keepBehind 3 none 0 0 D (vT7 cI cF cC cS cO cB cZ) [.ref (q 0), .int x1, .int x2] (wRe q cI u) (vQv D (wRe q cI u0)) :=
  vM_of hE (by decide +kernel) (Nat.le_of_ble_eq_true rfl) (fun p e s m args below meth c A C hr => kX4_keepBehind_e C (vi_retv C hr) h)
