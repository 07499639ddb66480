-- ---- X3_clear
def fX3_clear (u : vS) : Option (vS) := bd (up2 u 0 1 (0 : Int32)) fun u1 => some u1
set_option maxRecDepth 100000 in
set_option maxHeartbeats 4000000 in
theorem kX3_clear_e {ad adK adV : Nat → Nat} {tS tF : Nat} {tX sK sV : Nat → Nat} {p : Program} {l : Launch} {e : Env} {s : State} {m : MethodId} {args : Array Value} {below : List Frame} {meth : Method} {c : Code} {A : Nat → Prop} {D : va_G} {cI cF cC cS cO cB cZ : ClassId} {Q : State → Prop} {q : Nat → Nat} (C : vC (vE ad adK adV tS tF tX sK sV) p l s m args meth c A D (vT7 cI cF cC cS cO cB cZ) cX3_clear 1 RX3) {u0 : vS} (RET : ∀ (pc : Nat) (lv : List (Nat × Value)), decode cX3_clear pc = .ok (.return_, 1) → vV p l e { frames := 0, cells := 0, slots := 0, locals := 0 } s m args below meth c A D 1 0 0 Q (wLn q cI cC u0) pc lv []) {u : vS} (h : fX3_clear u = some u0) : vV p l e { frames := 0, cells := 0, slots := 0, locals := 0 } s m args below meth c A D 1 0 0 Q (wLn q cI cC u) 0 [(0, .ref (q 0))] [] := by
  rw [fX3_clear] at h
  refine vi_aload_n C 0 dX3_clear_0 rfl ?_
  refine vi_iconst (v := 0) C dX3_clear_1 (by decide) ?_
  obtain ⟨u1, eu1, h⟩ := ob_nm h
  refine pL_X3_0_1 C dX3_clear_2 eu1.symm ?_
  exact vi_donev (W := wLn q cI cC) RET h dX3_clear_5
theorem mX3_clear {ad adK adV : Nat → Nat} {tS tF : Nat} {tX sK sV : Nat → Nat} (hE : vEok (vE ad adK adV tS tF tX sK sV)) {l : Launch} {D : va_G} {cI cF cC cS cO cB cZ : ClassId} {q : Nat → Nat} {u0 : vS}  {u : vS} (h : fX3_clear u = some u0) : vM (vE ad adK adV tS tF tX sK sV) l yX3_clear cX3_clear 1 none 0 0 D (vT7 cI cF cC cS cO cB cZ) [.ref (q 0)] (wLn q cI cC u) (vQv D (wLn q cI cC u0)) :=
  vM_of hE (by decide +kernel) (Nat.le_of_ble_eq_true rfl) (fun p e s m args below meth c A C hr => kX3_clear_e C (vi_retv C hr) h)
-- ---- X3_put
def fX3_put (x1 : Int32) (u : vS) : Option (vS) := (if (140 : Int32) ≤ u 0 1 then some u else if u 0 1 < 0 ∨ 140 ≤ Int32.toNatClampNeg (u 0 1) then none else bd (up2 u 1 (Int32.toNatClampNeg (u 0 1)) (vp_nar .char x1)) fun u3 => bd (up2 u3 0 1 ((u3 0 1) + (1 : Int32))) fun u4 => some u4)
set_option maxRecDepth 100000 in
set_option maxHeartbeats 4000000 in
theorem kX3_put_e {ad adK adV : Nat → Nat} {tS tF : Nat} {tX sK sV : Nat → Nat} {p : Program} {l : Launch} {e : Env} {s : State} {m : MethodId} {args : Array Value} {below : List Frame} {meth : Method} {c : Code} {A : Nat → Prop} {D : va_G} {cI cF cC cS cO cB cZ : ClassId} {Q : State → Prop} {q : Nat → Nat} (C : vC (vE ad adK adV tS tF tX sK sV) p l s m args meth c A D (vT7 cI cF cC cS cO cB cZ) cX3_put 2 RX3) {u0 : vS} (RET : ∀ (pc : Nat) (lv : List (Nat × Value)), decode cX3_put pc = .ok (.return_, 1) → vV p l e { frames := 0, cells := 0, slots := 0, locals := 0 } s m args below meth c A D 2 0 0 Q (wLn q cI cC u0) pc lv []) {x1 : Int32} {u : vS} (h : fX3_put x1 u = some u0) : vV p l e { frames := 0, cells := 0, slots := 0, locals := 0 } s m args below meth c A D 2 0 0 Q (wLn q cI cC u) 0 [(0, .ref (q 0)), (1, .int x1)] [] := by
  rw [fX3_put] at h
  refine vi_aload_n C 0 dX3_put_0 rfl ?_
  refine gL_X3_0_1 C dX3_put_1 ?_
  refine vi_sipush (v := 140) C dX3_put_4 (by decide) ?_
  refine vi_icmp_ge (tgt := 30) C dX3_put_7 (by decide) (fun hc1 => ?_) (fun hc1 => ?_)
  · have h := ob_t h hc1
    exact vi_donev (W := wLn q cI cC) RET h dX3_put_30
  · have h := ob_f h hc1
    refine vi_aload_n C 0 dX3_put_10 rfl ?_
    refine gL_X3_0_0 C dX3_put_11 ?_
    refine vi_aload_n C 0 dX3_put_14 rfl ?_
    refine gL_X3_0_1 C dX3_put_15 ?_
    refine vi_iload_n C 1 dX3_put_18 rfl ?_
    obtain ⟨hz2, h⟩ := ob_if h
    obtain ⟨u3, eu3, h⟩ := ob_nm h
    refine sL_X3_1 (n := (Int32.toNatClampNeg (u 0 1))) C hz2 rfl dX3_put_19 eu3.symm ?_
    refine vi_aload_n C 0 dX3_put_20 rfl ?_
    refine vi_dup C dX3_put_21 rfl ?_
    refine gL_X3_0_1 C dX3_put_22 ?_
    refine vi_iconst (v := 1) C dX3_put_25 (by decide) ?_
    refine vi_iadd C dX3_put_26 ?_
    obtain ⟨u4, eu4, h⟩ := ob_nm h
    refine pL_X3_0_1 C dX3_put_27 eu4.symm ?_
    exact vi_donev (W := wLn q cI cC) RET h dX3_put_30
theorem mX3_put {ad adK adV : Nat → Nat} {tS tF : Nat} {tX sK sV : Nat → Nat} (hE : vEok (vE ad adK adV tS tF tX sK sV)) {l : Launch} {D : va_G} {cI cF cC cS cO cB cZ : ClassId} {q : Nat → Nat} {u0 : vS}  {x1 : Int32} {u : vS} (h : fX3_put x1 u = some u0) : vM (vE ad adK adV tS tF tX sK sV) l yX3_put cX3_put 2 none 0 0 D (vT7 cI cF cC cS cO cB cZ) [.ref (q 0), .int x1] (wLn q cI cC u) (vQv D (wLn q cI cC u0)) :=
  vM_of hE (by decide +kernel) (Nat.le_of_ble_eq_true rfl) (fun p e s m args below meth c A C hr => kX3_put_e C (vi_retv C hr) h)
-- ---- X3_putMood
def fX3_putMood_3 : Nat → Int32 → Int32 → vS → Option (vS)
  | 0, _, _, _ => none
  | n + 1, x1, x2, u => (if x2 < 0 then some u else bd (((x1 >>> (x2 &&& 31)) &&& (15 : Int32) : Int32)) fun y2 => (if (10 : Int32) ≤ y2 then (fX3_put ((Int32.toUInt32 (((97 : Int32) + y2) - (10 : Int32)) % 65536).toInt32) u).bind fun u4 => bd ((x2 + (-4) : Int32)) fun y5 => fX3_putMood_3 n x1 y5 u4 else (fX3_put ((Int32.toUInt32 ((48 : Int32) + y2) % 65536).toInt32) u).bind fun u6 => bd ((x2 + (-4) : Int32)) fun y7 => fX3_putMood_3 n x1 y7 u6))
set_option maxRecDepth 100000 in
set_option maxHeartbeats 4000000 in
theorem kX3_putMood_3 {ad adK adV : Nat → Nat} {tS tF : Nat} {tX sK sV : Nat → Nat} {p : Program} {l : Launch} {e : Env} {s : State} {m : MethodId} {args : Array Value} {below : List Frame} {meth : Method} {c : Code} {A : Nat → Prop} {D : va_G} {cI cF cC cS cO cB cZ : ClassId} {Q : State → Prop} {q : Nat → Nat} (C : vC (vE ad adK adV tS tF tX sK sV) p l s m args meth c A D (vT7 cI cF cC cS cO cB cZ) cX3_putMood 4 RX3) {u0 : vS} (RET : ∀ (pc : Nat) (lv : List (Nat × Value)), decode cX3_putMood pc = .ok (.return_, 1) → vV p l e { frames := 1, cells := 0, slots := 0, locals := 21 } s m args below meth c A D 4 0 0 Q (wLn q cI cC u0) pc lv []) : ∀ (n : Nat) (x1 : Int32) (x2 : Int32) (u : vS), fX3_putMood_3 n x1 x2 u = some u0 → vV p l e { frames := 1, cells := 0, slots := 0, locals := 21 } s m args below meth c A D 4 0 0 Q (wLn q cI cC u) 3 [(0, .ref (q 0)), (1, .int x1), (2, .int x2)] [] := by
  intro n
  induction n with
  | zero => intro x1 x2 u h; rw [fX3_putMood_3] at h; cases h
  | succ n ih =>
    intro x1 x2 u h
    rw [fX3_putMood_3] at h
    refine vi_iload_n C 2 dX3_putMood_3 rfl ?_
    refine vi_if_lt (tgt := 45) C dX3_putMood_4 (by decide) (fun hc1 => ?_) (fun hc1 => ?_)
    · have h := ob_t h hc1
      exact vi_donev (W := wLn q cI cC) RET h dX3_putMood_45
    · have h := ob_f h hc1
      refine vi_iload_n C 1 dX3_putMood_7 rfl ?_
      refine vi_iload_n C 2 dX3_putMood_8 rfl ?_
      refine vi_ishr C dX3_putMood_9 ?_
      refine vi_bipush (v := 15) C dX3_putMood_10 (by decide) ?_
      refine vi_iand C dX3_putMood_12 ?_
      obtain ⟨y2, ey2, h⟩ := ob_nm h
      refine vi_nmi ey2 ?_
      refine vi_istore_n (lv' := [(3, .int y2), (0, .ref (q 0)), (1, .int x1), (2, .int x2)]) C dX3_putMood_13 rfl (by decide) rfl ?_
      refine vi_aload_n C 1 dX3_putMood_14 rfl ?_
      refine vi_iload_n C 0 dX3_putMood_15 rfl ?_
      refine vi_bipush (v := 10) C dX3_putMood_16 (by decide) ?_
      refine vi_icmp_ge (tgt := 28) C dX3_putMood_18 (by decide) (fun hc3 => ?_) (fun hc3 => ?_)
      · have h := ob_t h hc3
        refine vi_bipush (v := 97) C dX3_putMood_28 (by decide) ?_
        refine vi_iload_n C 0 dX3_putMood_30 rfl ?_
        refine vi_iadd C dX3_putMood_31 ?_
        refine vi_bipush (v := 10) C dX3_putMood_32 (by decide) ?_
        refine vi_isub C dX3_putMood_34 ?_
        refine vi_i2c C dX3_putMood_35 ?_
        obtain ⟨u4, hgu4, h⟩ := ob_bd h
        refine cL_X3_v (As := [.int ((Int32.toUInt32 (((97 : Int32) + y2) - (10 : Int32)) % 65536).toInt32)]) (rest := []) C (mX3_put C.2.2.2.2.2.2.2.2.1 hgu4) 1 rfl tcX3_put tlX3_19 tiX3_put tsX3_put rfl tnX3 tdX3_put ⟨Nat.le_of_ble_eq_true rfl, Nat.le_of_ble_eq_true rfl⟩ rfl (Nat.le_of_ble_eq_true rfl) dX3_putMood_36 ?_
        obtain ⟨y5, ey5, h⟩ := ob_nm h
        refine vi_iinc (v := y5) (lv' := [(2, .int y5), (3, .int y2), (0, .ref (q 0)), (1, .int x1)]) C 3 dX3_putMood_39 rfl (by rw [ey5]; rfl) (by decide) rfl ?_
        refine vi_goto (tgt := 3) C dX3_putMood_42 (by decide) ?_
        refine vi_sub C [2, 3, 0] rfl ?_
        exact ih _ _ _ h
      · have h := ob_f h hc3
        refine vi_bipush (v := 48) C dX3_putMood_21 (by decide) ?_
        refine vi_iload_n C 0 dX3_putMood_23 rfl ?_
        refine vi_iadd C dX3_putMood_24 ?_
        refine vi_goto (tgt := 35) C dX3_putMood_25 (by decide) ?_
        refine vi_i2c C dX3_putMood_35 ?_
        obtain ⟨u6, hgu6, h⟩ := ob_bd h
        refine cL_X3_v (As := [.int ((Int32.toUInt32 ((48 : Int32) + y2) % 65536).toInt32)]) (rest := []) C (mX3_put C.2.2.2.2.2.2.2.2.1 hgu6) 1 rfl tcX3_put tlX3_19 tiX3_put tsX3_put rfl tnX3 tdX3_put ⟨Nat.le_of_ble_eq_true rfl, Nat.le_of_ble_eq_true rfl⟩ rfl (Nat.le_of_ble_eq_true rfl) dX3_putMood_36 ?_
        obtain ⟨y7, ey7, h⟩ := ob_nm h
        refine vi_iinc (v := y7) (lv' := [(2, .int y7), (3, .int y2), (0, .ref (q 0)), (1, .int x1)]) C 3 dX3_putMood_39 rfl (by rw [ey7]; rfl) (by decide) rfl ?_
        refine vi_goto (tgt := 3) C dX3_putMood_42 (by decide) ?_
        refine vi_sub C [2, 3, 0] rfl ?_
        exact ih _ _ _ h
def fX3_putMood (x1 : Int32) (u : vS) : Option (vS) := fX3_putMood_3 vF x1 (12 : Int32) u
set_option maxRecDepth 100000 in
set_option maxHeartbeats 4000000 in
theorem kX3_putMood_e {ad adK adV : Nat → Nat} {tS tF : Nat} {tX sK sV : Nat → Nat} {p : Program} {l : Launch} {e : Env} {s : State} {m : MethodId} {args : Array Value} {below : List Frame} {meth : Method} {c : Code} {A : Nat → Prop} {D : va_G} {cI cF cC cS cO cB cZ : ClassId} {Q : State → Prop} {q : Nat → Nat} (C : vC (vE ad adK adV tS tF tX sK sV) p l s m args meth c A D (vT7 cI cF cC cS cO cB cZ) cX3_putMood 4 RX3) {u0 : vS} (RET : ∀ (pc : Nat) (lv : List (Nat × Value)), decode cX3_putMood pc = .ok (.return_, 1) → vV p l e { frames := 1, cells := 0, slots := 0, locals := 21 } s m args below meth c A D 4 0 0 Q (wLn q cI cC u0) pc lv []) {x1 : Int32} {u : vS} (h : fX3_putMood x1 u = some u0) : vV p l e { frames := 1, cells := 0, slots := 0, locals := 21 } s m args below meth c A D 4 0 0 Q (wLn q cI cC u) 0 [(0, .ref (q 0)), (1, .int x1)] [] := by
  rw [fX3_putMood] at h
  refine vi_bipush (v := 12) C dX3_putMood_0 (by decide) ?_
  refine vi_istore_n (lv' := [(2, .int (12 : Int32)), (0, .ref (q 0)), (1, .int x1)]) C dX3_putMood_2 rfl (by decide) rfl ?_
  refine vi_sub C [1, 2, 0] rfl ?_
  exact kX3_putMood_3 C RET  vF _ _ _ h
theorem mX3_putMood {ad adK adV : Nat → Nat} {tS tF : Nat} {tX sK sV : Nat → Nat} (hE : vEok (vE ad adK adV tS tF tX sK sV)) {l : Launch} {D : va_G} {cI cF cC cS cO cB cZ : ClassId} {q : Nat → Nat} {u0 : vS}  {x1 : Int32} {u : vS} (h : fX3_putMood x1 u = some u0) : vM (vE ad adK adV tS tF tX sK sV) l yX3_putMood cX3_putMood 4 none 1 21 D (vT7 cI cF cC cS cO cB cZ) [.ref (q 0), .int x1] (wLn q cI cC u) (vQv D (wLn q cI cC u0)) :=
  vM_of hE (by decide +kernel) (Nat.le_of_ble_eq_true rfl) (fun p e s m args below meth c A C hr => kX3_putMood_e C (vi_retv C hr) h)
-- ---- X3_putNumber
def fX3_putNumber_44 (rec_23 : Int64 → Int64 → vS → Option (vS)) (x1 : Int64) (x2 : Int64) (u : vS) : Option (vS) := if x2 = 0 then none else (fX3_put ((Int32.toUInt32 (Int64.toInt32 ((48 : Int64) + ((x1 / x2) - (x1 / x2) / (10 : Int64) * (10 : Int64)))) % 65536).toInt32) u).bind fun u2 => bd ((x2 / (10 : Int64) : Int64)) fun y3 => rec_23 x1 y3 u2
set_option maxRecDepth 100000 in
set_option maxHeartbeats 4000000 in
theorem kX3_putNumber_44 {ad adK adV : Nat → Nat} {tS tF : Nat} {tX sK sV : Nat → Nat} {p : Program} {l : Launch} {e : Env} {s : State} {m : MethodId} {args : Array Value} {below : List Frame} {meth : Method} {c : Code} {A : Nat → Prop} {D : va_G} {cI cF cC cS cO cB cZ : ClassId} {Q : State → Prop} {q : Nat → Nat} (C : vC (vE ad adK adV tS tF tX sK sV) p l s m args meth c A D (vT7 cI cF cC cS cO cB cZ) cX3_putNumber 6 RX3) {u0 : vS} (RET : ∀ (pc : Nat) (lv : List (Nat × Value)), decode cX3_putNumber pc = .ok (.return_, 1) → vV p l e { frames := 1, cells := 0, slots := 0, locals := 21 } s m args below meth c A D 6 0 0 Q (wLn q cI cC u0) pc lv []) {rec_23 : Int64 → Int64 → vS → Option (vS)} (REC_23 : ∀ (x1 : Int64) (x2 : Int64) (u : vS), rec_23 x1 x2 u = some u0 → vV p l e { frames := 1, cells := 0, slots := 0, locals := 21 } s m args below meth c A D 6 0 0 Q (wLn q cI cC u) 23 [(0, .ref (q 0)), (2, .long x1), (4, .long x2)] []) : ∀ (x1 : Int64) (x2 : Int64) (u : vS), fX3_putNumber_44 rec_23 x1 x2 u = some u0 → vV p l e { frames := 1, cells := 0, slots := 0, locals := 21 } s m args below meth c A D 6 0 0 Q (wLn q cI cC u) 44 [(0, .ref (q 0)), (2, .long x1), (4, .long x2)] [] := by
  intro x1 x2 u h
  rw [fX3_putNumber_44] at h
  refine vi_aload_n C 0 dX3_putNumber_44 rfl ?_
  refine vi_ldc2 (v := 48) C dX3_putNumber_45 tkX3_25 ?_
  refine vi_lload_n C 1 dX3_putNumber_48 rfl ?_
  refine vi_lload C 2 dX3_putNumber_49 rfl ?_
  obtain ⟨hz1, h⟩ := ob_if h
  refine vi_ldiv C dX3_putNumber_51 hz1 ?_
  refine vi_ldc2 (v := 10) C dX3_putNumber_52 tkX3_27 ?_
  refine vi_lrem C dX3_putNumber_55 (by decide) ?_
  refine vi_ladd C dX3_putNumber_56 ?_
  refine vi_l2i C dX3_putNumber_57 ?_
  refine vi_i2c C dX3_putNumber_58 ?_
  obtain ⟨u2, hgu2, h⟩ := ob_bd h
  refine cL_X3_v (As := [.int ((Int32.toUInt32 (Int64.toInt32 ((48 : Int64) + ((x1 / x2) - (x1 / x2) / (10 : Int64) * (10 : Int64)))) % 65536).toInt32)]) (rest := []) C (mX3_put C.2.2.2.2.2.2.2.2.1 hgu2) 1 rfl tcX3_put tlX3_19 tiX3_put tsX3_put rfl tnX3 tdX3_put ⟨Nat.le_of_ble_eq_true rfl, Nat.le_of_ble_eq_true rfl⟩ rfl (Nat.le_of_ble_eq_true rfl) dX3_putNumber_59 ?_
  refine vi_lload C 2 dX3_putNumber_62 rfl ?_
  refine vi_ldc2 (v := 10) C dX3_putNumber_64 tkX3_27 ?_
  refine vi_ldiv C dX3_putNumber_67 (by decide) ?_
  obtain ⟨y3, ey3, h⟩ := ob_nm h
  refine vi_nml ey3 ?_
  refine vi_lstore (lv' := [(4, .long y3), (0, .ref (q 0)), (2, .long x1)]) C dX3_putNumber_68 (by decide) rfl ?_
  refine vi_goto (tgt := 23) C dX3_putNumber_70 (by decide) ?_
  refine vi_sub C [1, 2, 0] rfl ?_
  exact REC_23 _ _ _ h
def fX3_putNumber_23 : Nat → Int64 → Int64 → vS → Option (vS)
  | 0, _, _, _ => none
  | n + 1, x1, x2, u => (if lg_cmp x2 (0 : Int64) ≤ 0 then some u else (if 0 ≤ lg_cmp x1 x2 then fX3_putNumber_44 (fun a0 a1 a2 => fX3_putNumber_23 n  a0 a1 a2) x1 x2 u else (if lg_cmp x2 (1 : Int64) = 0 then fX3_putNumber_44 (fun a0 a1 a2 => fX3_putNumber_23 n  a0 a1 a2) x1 x2 u else bd ((x2 / (10 : Int64) : Int64)) fun y4 => fX3_putNumber_23 n x1 y4 u)))
set_option maxRecDepth 100000 in
set_option maxHeartbeats 4000000 in
theorem kX3_putNumber_23 {ad adK adV : Nat → Nat} {tS tF : Nat} {tX sK sV : Nat → Nat} {p : Program} {l : Launch} {e : Env} {s : State} {m : MethodId} {args : Array Value} {below : List Frame} {meth : Method} {c : Code} {A : Nat → Prop} {D : va_G} {cI cF cC cS cO cB cZ : ClassId} {Q : State → Prop} {q : Nat → Nat} (C : vC (vE ad adK adV tS tF tX sK sV) p l s m args meth c A D (vT7 cI cF cC cS cO cB cZ) cX3_putNumber 6 RX3) {u0 : vS} (RET : ∀ (pc : Nat) (lv : List (Nat × Value)), decode cX3_putNumber pc = .ok (.return_, 1) → vV p l e { frames := 1, cells := 0, slots := 0, locals := 21 } s m args below meth c A D 6 0 0 Q (wLn q cI cC u0) pc lv []) : ∀ (n : Nat) (x1 : Int64) (x2 : Int64) (u : vS), fX3_putNumber_23 n x1 x2 u = some u0 → vV p l e { frames := 1, cells := 0, slots := 0, locals := 21 } s m args below meth c A D 6 0 0 Q (wLn q cI cC u) 23 [(0, .ref (q 0)), (2, .long x1), (4, .long x2)] [] := by
  intro n
  induction n with
  | zero => intro x1 x2 u h; rw [fX3_putNumber_23] at h; cases h
  | succ n ih =>
    intro x1 x2 u h
    rw [fX3_putNumber_23] at h
    refine vi_lload C 2 dX3_putNumber_23 rfl ?_
    refine vi_lconst (v := 0) C dX3_putNumber_25 (by decide) ?_
    refine vi_lcmp C dX3_putNumber_26 ?_
    refine vi_if_le (tgt := 73) C dX3_putNumber_27 (by decide) (fun hc1 => ?_) (fun hc1 => ?_)
    · have h := ob_t h hc1
      exact vi_donev (W := wLn q cI cC) RET h dX3_putNumber_73
    · have h := ob_f h hc1
      refine vi_lload_n C 1 dX3_putNumber_30 rfl ?_
      refine vi_lload C 2 dX3_putNumber_31 rfl ?_
      refine vi_lcmp C dX3_putNumber_33 ?_
      refine vi_if_ge (tgt := 44) C dX3_putNumber_34 (by decide) (fun hc2 => ?_) (fun hc2 => ?_)
      · have h := ob_t h hc2
        refine vi_sub C [0, 1, 2] rfl ?_
        exact kX3_putNumber_44 C RET ih  _ _ _ h
      · have h := ob_f h hc2
        refine vi_lload C 2 dX3_putNumber_37 rfl ?_
        refine vi_lconst (v := 1) C dX3_putNumber_39 (by decide) ?_
        refine vi_lcmp C dX3_putNumber_40 ?_
        refine vi_if_ne (tgt := 62) C dX3_putNumber_41 (by decide) (fun hc3 => ?_) (fun hc3 => ?_)
        · have h := ob_f h hc3
          refine vi_lload C 2 dX3_putNumber_62 rfl ?_
          refine vi_ldc2 (v := 10) C dX3_putNumber_64 tkX3_27 ?_
          refine vi_ldiv C dX3_putNumber_67 (by decide) ?_
          obtain ⟨y4, ey4, h⟩ := ob_nm h
          refine vi_nml ey4 ?_
          refine vi_lstore (lv' := [(4, .long y4), (0, .ref (q 0)), (2, .long x1)]) C dX3_putNumber_68 (by decide) rfl ?_
          refine vi_goto (tgt := 23) C dX3_putNumber_70 (by decide) ?_
          refine vi_sub C [1, 2, 0] rfl ?_
          exact ih _ _ _ h
        · have h := ob_t h hc3
          refine vi_sub C [0, 1, 2] rfl ?_
          exact kX3_putNumber_44 C RET ih  _ _ _ h
def fX3_putNumber (x1 : Int32) (u : vS) : Option (vS) := bd ((Int32.toInt64 x1 : Int64)) fun y1 => (if 0 ≤ lg_cmp y1 (0 : Int64) then fX3_putNumber_23 vF y1 (1000000000 : Int64) u else (fX3_put (45 : Int32) u).bind fun u3 => bd ((-y1 : Int64)) fun y4 => fX3_putNumber_23 vF y4 (1000000000 : Int64) u3)
set_option maxRecDepth 100000 in
set_option maxHeartbeats 4000000 in
theorem kX3_putNumber_e {ad adK adV : Nat → Nat} {tS tF : Nat} {tX sK sV : Nat → Nat} {p : Program} {l : Launch} {e : Env} {s : State} {m : MethodId} {args : Array Value} {below : List Frame} {meth : Method} {c : Code} {A : Nat → Prop} {D : va_G} {cI cF cC cS cO cB cZ : ClassId} {Q : State → Prop} {q : Nat → Nat} (C : vC (vE ad adK adV tS tF tX sK sV) p l s m args meth c A D (vT7 cI cF cC cS cO cB cZ) cX3_putNumber 6 RX3) {u0 : vS} (RET : ∀ (pc : Nat) (lv : List (Nat × Value)), decode cX3_putNumber pc = .ok (.return_, 1) → vV p l e { frames := 1, cells := 0, slots := 0, locals := 21 } s m args below meth c A D 6 0 0 Q (wLn q cI cC u0) pc lv []) {x1 : Int32} {u : vS} (h : fX3_putNumber x1 u = some u0) : vV p l e { frames := 1, cells := 0, slots := 0, locals := 21 } s m args below meth c A D 6 0 0 Q (wLn q cI cC u) 0 [(0, .ref (q 0)), (1, .int x1)] [] := by
  rw [fX3_putNumber] at h
  refine vi_iload_n C 1 dX3_putNumber_0 rfl ?_
  refine vi_i2l C dX3_putNumber_1 ?_
  obtain ⟨y1, ey1, h⟩ := ob_nm h
  refine vi_nml ey1 ?_
  refine vi_lstore_n (lv' := [(2, .long y1), (0, .ref (q 0)), (1, .int x1)]) C dX3_putNumber_2 rfl (by decide) rfl ?_
  refine vi_lload_n C 0 dX3_putNumber_3 rfl ?_
  refine vi_lconst (v := 0) C dX3_putNumber_4 (by decide) ?_
  refine vi_lcmp C dX3_putNumber_5 ?_
  refine vi_if_ge (tgt := 18) C dX3_putNumber_6 (by decide) (fun hc2 => ?_) (fun hc2 => ?_)
  · have h := ob_t h hc2
    refine vi_ldc2 (v := 1000000000) C dX3_putNumber_18 tkX3_23 ?_
    refine vi_lstore (lv' := [(4, .long (1000000000 : Int64)), (2, .long y1), (0, .ref (q 0)), (1, .int x1)]) C dX3_putNumber_21 (by decide) rfl ?_
    refine vi_sub C [2, 1, 0] rfl ?_
    exact kX3_putNumber_23 C RET  vF _ _ _ h
  · have h := ob_f h hc2
    refine vi_aload_n C 1 dX3_putNumber_9 rfl ?_
    refine vi_bipush (v := 45) C dX3_putNumber_10 (by decide) ?_
    obtain ⟨u3, hgu3, h⟩ := ob_bd h
    refine cL_X3_v (As := [.int (45 : Int32)]) (rest := []) C (mX3_put C.2.2.2.2.2.2.2.2.1 hgu3) 1 rfl tcX3_put tlX3_19 tiX3_put tsX3_put rfl tnX3 tdX3_put ⟨Nat.le_of_ble_eq_true rfl, Nat.le_of_ble_eq_true rfl⟩ rfl (Nat.le_of_ble_eq_true rfl) dX3_putNumber_12 ?_
    refine vi_lload_n C 0 dX3_putNumber_15 rfl ?_
    refine vi_lneg C dX3_putNumber_16 ?_
    obtain ⟨y4, ey4, h⟩ := ob_nm h
    refine vi_nml ey4 ?_
    refine vi_lstore_n (lv' := [(2, .long y4), (0, .ref (q 0)), (1, .int x1)]) C dX3_putNumber_17 rfl (by decide) rfl ?_
    refine vi_ldc2 (v := 1000000000) C dX3_putNumber_18 tkX3_23 ?_
    refine vi_lstore (lv' := [(4, .long (1000000000 : Int64)), (2, .long y4), (0, .ref (q 0)), (1, .int x1)]) C dX3_putNumber_21 (by decide) rfl ?_
    refine vi_sub C [2, 1, 0] rfl ?_
    exact kX3_putNumber_23 C RET  vF _ _ _ h
theorem mX3_putNumber {ad adK adV : Nat → Nat} {tS tF : Nat} {tX sK sV : Nat → Nat} (hE : vEok (vE ad adK adV tS tF tX sK sV)) {l : Launch} {D : va_G} {cI cF cC cS cO cB cZ : ClassId} {q : Nat → Nat} {u0 : vS}  {x1 : Int32} {u : vS} (h : fX3_putNumber x1 u = some u0) : vM (vE ad adK adV tS tF tX sK sV) l yX3_putNumber cX3_putNumber 6 none 1 21 D (vT7 cI cF cC cS cO cB cZ) [.ref (q 0), .int x1] (wLn q cI cC u) (vQv D (wLn q cI cC u0)) :=
  vM_of hE (by decide +kernel) (Nat.le_of_ble_eq_true rfl) (fun p e s m args below meth c A C hr => kX3_putNumber_e C (vi_retv C hr) h)
