-- ---- X7_sightOf
def fX7_sightOf (x1 : Int32) (x2 : Int32) (u : vZ) : Option (Int32 × vZ) := obp (fX5_hasSight x1 u.2.1.1) fun y2 u1b => bd ((u.1, ((u1b, u.2.1.2), u.2.2))) fun u1 => (if y2 = 0 then some ((-100001 : Int32), u1) else (if x2 = 0 then if x1 < 0 ∨ 10 ≤ Int32.toNatClampNeg x1 then none else some (u1.2.1.1.1 5 (Int32.toNatClampNeg x1), u1) else (if x2 = 1 then if x1 < 0 ∨ 10 ≤ Int32.toNatClampNeg x1 then none else some (u1.2.1.1.1 6 (Int32.toNatClampNeg x1), u1) else (if x2 = 2 then if x1 < 0 ∨ 10 ≤ Int32.toNatClampNeg x1 then none else (fX7_bitsOf (u1.2.1.1.2 (Int32.toNatClampNeg x1))).bind fun y9 => some (y9, u1) else some ((-100002 : Int32), u1)))))
set_option maxRecDepth 100000 in
set_option maxHeartbeats 4000000 in
theorem kX7_sightOf_e {ad adK adV : Nat → Nat} {tS tF : Nat} {tX sK sV : Nat → Nat} {p : Program} {l : Launch} {e : Env} {s : State} {m : MethodId} {args : Array Value} {below : List Frame} {meth : Method} {c : Code} {A : Nat → Prop} {D : va_G} {cI cF cC cS cO cB cZ : ClassId} {Q : State → Prop} {q0 qs qo qt qv qr qx ql : Nat → Nat} {qh : Nat → Nat → Nat} (C : vC (vE ad adK adV tS tF tX sK sV) p l s m args meth c A D (vT7 cI cF cC cS cO cB cZ) cX7_sightOf 3 RX7) {r0 : Int32} {u0 : vZ} (RET : ∀ (pc : Nat) (lv : List (Nat × Value)), decode cX7_sightOf pc = .ok (.ireturn, 1) → vV p l e { frames := 1, cells := 0, slots := 0, locals := 23 } s m args below meth c A D 3 0 0 Q (wX q0 qs qo qt qv qr qx ql ad qh cI cF cC cS cO u0) pc lv [.int r0]) {x1 : Int32} {x2 : Int32} {u : vZ} (h : fX7_sightOf x1 x2 u = some (r0, u0)) : vV p l e { frames := 1, cells := 0, slots := 0, locals := 23 } s m args below meth c A D 3 0 0 Q (wX q0 qs qo qt qv qr qx ql ad qh cI cF cC cS cO u) 0 [(0, .ref (q0 0)), (1, .int x1), (2, .int x2)] [] := by
  rw [fX7_sightOf] at h
  refine vi_aload_n C 0 dX7_sightOf_0 rfl ?_
  refine gM_X7_0_0 C dX7_sightOf_1 ?_
  refine vi_iload_n C 1 dX7_sightOf_4 rfl ?_
  obtain ⟨y2, u1b, hgu1, h⟩ := ob_p h
  obtain ⟨u1, eu1, h⟩ := ob_nm h
  refine cM_ship_i (As := [.int x1]) (rest := []) C (mX5_hasSight C.2.2.2.2.2.2.2.2.1 hgu1) 1 rfl tcX5_hasSight tlX7_166 tiX5_hasSight tsX5_hasSight rfl tnX5 tdX5_hasSight ⟨Nat.le_of_ble_eq_true rfl, Nat.le_of_ble_eq_true rfl⟩ eu1 rfl (Nat.le_of_ble_eq_true rfl) dX7_sightOf_5 ?_
  refine vi_if_ne (tgt := 14) C dX7_sightOf_8 (by decide) (fun hc3 => ?_) (fun hc3 => ?_)
  · have h := ob_f h hc3
    refine vi_iload_n C 2 dX7_sightOf_14 rfl ?_
    by_cases hc5 : x2 = 0
    · have h := ob_t h hc5
      refine vi_tswIn (off := 25) (tgt := 40) C dX7_sightOf_15 (by rw [hc5]; decide) (by rw [hc5]; decide) (by rw [hc5]; rfl) (by decide) ?_
      refine vi_aload_n C 0 dX7_sightOf_40 rfl ?_
      refine gM_X7_0_0 C dX7_sightOf_41 ?_
      refine gM_X7_1_8 C dX7_sightOf_44 ?_
      refine vi_iload_n C 1 dX7_sightOf_47 rfl ?_
      obtain ⟨hz4, h⟩ := ob_if h
      refine lM_X7_6 (n := (Int32.toNatClampNeg x1)) C hz4 rfl dX7_sightOf_48 ?_
      exact vi_donei (W := wX q0 qs qo qt qv qr qx ql ad qh cI cF cC cS cO) RET h dX7_sightOf_49
    · replace h := ob_f h hc5
      by_cases hc7 : x2 = 1
      · have h := ob_t h hc7
        refine vi_tswIn (off := 35) (tgt := 50) C dX7_sightOf_15 (by rw [hc7]; decide) (by rw [hc7]; decide) (by rw [hc7]; rfl) (by decide) ?_
        refine vi_aload_n C 0 dX7_sightOf_50 rfl ?_
        refine gM_X7_0_0 C dX7_sightOf_51 ?_
        refine gM_X7_1_9 C dX7_sightOf_54 ?_
        refine vi_iload_n C 1 dX7_sightOf_57 rfl ?_
        obtain ⟨hz6, h⟩ := ob_if h
        refine lM_X7_7 (n := (Int32.toNatClampNeg x1)) C hz6 rfl dX7_sightOf_58 ?_
        exact vi_donei (W := wX q0 qs qo qt qv qr qx ql ad qh cI cF cC cS cO) RET h dX7_sightOf_59
      · replace h := ob_f h hc7
        by_cases hc10 : x2 = 2
        · have h := ob_t h hc10
          refine vi_tswIn (off := 45) (tgt := 60) C dX7_sightOf_15 (by rw [hc10]; decide) (by rw [hc10]; decide) (by rw [hc10]; rfl) (by decide) ?_
          refine vi_aload_n C 0 dX7_sightOf_60 rfl ?_
          refine gM_X7_0_0 C dX7_sightOf_61 ?_
          refine gM_X7_1_10 C dX7_sightOf_64 ?_
          refine vi_iload_n C 1 dX7_sightOf_67 rfl ?_
          obtain ⟨hz8, h⟩ := ob_if h
          refine lM_X7_8 (n := (Int32.toNatClampNeg x1)) C hz8 rfl dX7_sightOf_68 ?_
          obtain ⟨y9, hgy9, h⟩ := ob_bd h
          refine vi_callS0i (As := [.float (u1.2.1.1.2 (Int32.toNatClampNeg x1))]) (rest := []) C (mX7_bitsOf C.2.2.2.2.2.2.2.2.1 hgy9) 1 rfl tcX7_bitsOf tlX7_179 ttX7_bitsOf tnX7 tdX7_bitsOf ⟨Nat.le_of_ble_eq_true rfl, Nat.le_of_ble_eq_true rfl⟩ rfl (Nat.le_of_ble_eq_true rfl) dX7_sightOf_69 ?_
          exact vi_donei (W := wX q0 qs qo qt qv qr qx ql ad qh cI cF cC cS cO) RET h dX7_sightOf_72
        · replace h := ob_f h hc10
          refine vi_tswOut (tgt := 73) C dX7_sightOf_15 (by have thc5 := lv_neT hc5 (a := 0) (by decide); have thc7 := lv_neT hc7 (a := 1) (by decide); have thc10 := lv_neT hc10 (a := 2) (by decide); omega) (by decide) ?_
          refine vi_ldc (v := (-100002)) C dX7_sightOf_73 tkX7_54 ?_
          exact vi_donei (W := wX q0 qs qo qt qv qr qx ql ad qh cI cF cC cS cO) RET h dX7_sightOf_75
  · have h := ob_t h hc3
    refine vi_ldc (v := (-100001)) C dX7_sightOf_11 tkX7_77 ?_
    exact vi_donei (W := wX q0 qs qo qt qv qr qx ql ad qh cI cF cC cS cO) RET h dX7_sightOf_13
theorem mX7_sightOf {ad adK adV : Nat → Nat} {tS tF : Nat} {tX sK sV : Nat → Nat} (hE : vEok (vE ad adK adV tS tF tX sK sV)) {l : Launch} {D : va_G} {cI cF cC cS cO cB cZ : ClassId} {q0 qs qo qt qv qr qx ql : Nat → Nat} {qh : Nat → Nat → Nat} {r0 : Int32} {u0 : vZ}  {x1 : Int32} {x2 : Int32} {u : vZ} (h : fX7_sightOf x1 x2 u = some (r0, u0)) : vM (vE ad adK adV tS tF tX sK sV) l yX7_sightOf cX7_sightOf 3 (some .int) 1 23 D (vT7 cI cF cC cS cO cB cZ) [.ref (q0 0), .int x1, .int x2] (wX q0 qs qo qt qv qr qx ql ad qh cI cF cC cS cO u) (vQi D (wX q0 qs qo qt qv qr qx ql ad qh cI cF cC cS cO u0) r0) :=
  vM_of hE (by decide +kernel) (Nat.le_of_ble_eq_true rfl) (fun p e s m args below meth c A C hr => kX7_sightOf_e C (vi_reti C hr) h)
-- ---- X7_angle
def fX7_angle (x1 : Int32) (u : vZ) : Option (UInt32 × vZ) := obp (fX5_hasSailor x1 u.2.1.1) fun y2 u1b => bd ((u.1, ((u1b, u.2.1.2), u.2.2))) fun u1 => (if y2 = 0 then some (FP.fconst0, u1) else obp (fX5_angleAfter x1 (0 : Int32) u1.2.1.1) fun y5 u4b => bd ((u1.1, ((u4b, u1.2.1.2), u1.2.2))) fun u4 => if (FP.fdiv (FP.i2f y5) (1082130432 : UInt32)) &&& 0x7fffffff ≤ 0x7f800000 then some (FP.fdiv (FP.i2f y5) (1082130432 : UInt32), u4) else none)
set_option maxRecDepth 100000 in
set_option maxHeartbeats 4000000 in
theorem kX7_angle_e {ad adK adV : Nat → Nat} {tS tF : Nat} {tX sK sV : Nat → Nat} {p : Program} {l : Launch} {e : Env} {s : State} {m : MethodId} {args : Array Value} {below : List Frame} {meth : Method} {c : Code} {A : Nat → Prop} {D : va_G} {cI cF cC cS cO cB cZ : ClassId} {Q : State → Prop} {q0 qs qo qt qv qr qx ql : Nat → Nat} {qh : Nat → Nat → Nat} (C : vC (vE ad adK adV tS tF tX sK sV) p l s m args meth c A D (vT7 cI cF cC cS cO cB cZ) cX7_angle 2 RX7) {r0 : UInt32} {u0 : vZ} (RET : ∀ (pc : Nat) (lv : List (Nat × Value)), decode cX7_angle pc = .ok (.freturn, 1) → vV p l e { frames := 3, cells := 0, slots := 0, locals := 70 } s m args below meth c A D 2 0 0 Q (wX q0 qs qo qt qv qr qx ql ad qh cI cF cC cS cO u0) pc lv [.float r0]) {x1 : Int32} {u : vZ} (h : fX7_angle x1 u = some (r0, u0)) : vV p l e { frames := 3, cells := 0, slots := 0, locals := 70 } s m args below meth c A D 2 0 0 Q (wX q0 qs qo qt qv qr qx ql ad qh cI cF cC cS cO u) 0 [(0, .ref (q0 0)), (1, .int x1)] [] := by
  rw [fX7_angle] at h
  refine vi_aload_n C 0 dX7_angle_0 rfl ?_
  refine gM_X7_0_0 C dX7_angle_1 ?_
  refine vi_iload_n C 1 dX7_angle_4 rfl ?_
  obtain ⟨y2, u1b, hgu1, h⟩ := ob_p h
  obtain ⟨u1, eu1, h⟩ := ob_nm h
  refine cM_ship_i (As := [.int x1]) (rest := []) C (mX5_hasSailor C.2.2.2.2.2.2.2.2.1 hgu1) 1 rfl tcX5_hasSailor tlX7_74 tiX5_hasSailor tsX5_hasSailor rfl tnX5 tdX5_hasSailor ⟨Nat.le_of_ble_eq_true rfl, Nat.le_of_ble_eq_true rfl⟩ eu1 rfl (Nat.le_of_ble_eq_true rfl) dX7_angle_5 ?_
  refine vi_if_eq (tgt := 27) C dX7_angle_8 (by decide) (fun hc3 => ?_) (fun hc3 => ?_)
  · have h := ob_t h hc3
    refine vi_fconst0 C dX7_angle_27 ?_
    exact vi_donef (W := wX q0 qs qo qt qv qr qx ql ad qh cI cF cC cS cO) RET h dX7_angle_28
  · have h := ob_f h hc3
    refine vi_aload_n C 0 dX7_angle_11 rfl ?_
    refine gM_X7_0_0 C dX7_angle_12 ?_
    refine vi_iload_n C 1 dX7_angle_15 rfl ?_
    refine vi_iconst (v := 0) C dX7_angle_16 (by decide) ?_
    obtain ⟨y5, u4b, hgu4, h⟩ := ob_p h
    obtain ⟨u4, eu4, h⟩ := ob_nm h
    refine cM_ship_i (As := [.int x1, .int (0 : Int32)]) (rest := []) C (mX5_angleAfter C.2.2.2.2.2.2.2.2.1 hgu4) 2 rfl tcX5_angleAfter tlX7_144 tiX5_angleAfter tsX5_angleAfter rfl tnX5 tdX5_angleAfter ⟨Nat.le_of_ble_eq_true rfl, Nat.le_of_ble_eq_true rfl⟩ eu4 rfl (Nat.le_of_ble_eq_true rfl) dX7_angle_17 ?_
    refine vi_i2f C dX7_angle_20 ?_
    refine vi_ldcf (v := 1082130432) C dX7_angle_21 tkX7_183 ?_
    obtain ⟨hz6, h⟩ := ob_ok h
    refine vi_fdiv C dX7_angle_23 hz6 ?_
    refine vi_goto (tgt := 28) C dX7_angle_24 (by decide) ?_
    exact vi_donef (W := wX q0 qs qo qt qv qr qx ql ad qh cI cF cC cS cO) RET h dX7_angle_28
theorem mX7_angle {ad adK adV : Nat → Nat} {tS tF : Nat} {tX sK sV : Nat → Nat} (hE : vEok (vE ad adK adV tS tF tX sK sV)) {l : Launch} {D : va_G} {cI cF cC cS cO cB cZ : ClassId} {q0 qs qo qt qv qr qx ql : Nat → Nat} {qh : Nat → Nat → Nat} {r0 : UInt32} {u0 : vZ}  {x1 : Int32} {u : vZ} (h : fX7_angle x1 u = some (r0, u0)) : vM (vE ad adK adV tS tF tX sK sV) l yX7_angle cX7_angle 2 (some .float) 3 70 D (vT7 cI cF cC cS cO cB cZ) [.ref (q0 0), .int x1] (wX q0 qs qo qt qv qr qx ql ad qh cI cF cC cS cO u) (vQf D (wX q0 qs qo qt qv qr qx ql ad qh cI cF cC cS cO u0) r0) :=
  vM_of hE (by decide +kernel) (Nat.le_of_ble_eq_true rfl) (fun p e s m args below meth c A C hr => kX7_angle_e C (vi_retf C hr) h)
-- ---- X7_readBits
def fX7_readBits (x1 : Int32) (u : vZ) : Option (Int32 × vZ) := obp (fX5_hasSailor x1 u.2.1.1) fun y2 u1b => bd ((u.1, ((u1b, u.2.1.2), u.2.2))) fun u1 => (if y2 = 0 then some ((-100001 : Int32), u1) else obp (fX5_readingOf x1 u1.2.1.1) fun y5 u4b => bd ((u1.1, ((u4b, u1.2.1.2), u1.2.2))) fun u4 => (fX7_bitsOf y5).bind fun y6 => some (y6, u4))
set_option maxRecDepth 100000 in
set_option maxHeartbeats 4000000 in
theorem kX7_readBits_e {ad adK adV : Nat → Nat} {tS tF : Nat} {tX sK sV : Nat → Nat} {p : Program} {l : Launch} {e : Env} {s : State} {m : MethodId} {args : Array Value} {below : List Frame} {meth : Method} {c : Code} {A : Nat → Prop} {D : va_G} {cI cF cC cS cO cB cZ : ClassId} {Q : State → Prop} {q0 qs qo qt qv qr qx ql : Nat → Nat} {qh : Nat → Nat → Nat} (C : vC (vE ad adK adV tS tF tX sK sV) p l s m args meth c A D (vT7 cI cF cC cS cO cB cZ) cX7_readBits 2 RX7) {r0 : Int32} {u0 : vZ} (RET : ∀ (pc : Nat) (lv : List (Nat × Value)), decode cX7_readBits pc = .ok (.ireturn, 1) → vV p l e { frames := 4, cells := 0, slots := 0, locals := 92 } s m args below meth c A D 2 0 0 Q (wX q0 qs qo qt qv qr qx ql ad qh cI cF cC cS cO u0) pc lv [.int r0]) {x1 : Int32} {u : vZ} (h : fX7_readBits x1 u = some (r0, u0)) : vV p l e { frames := 4, cells := 0, slots := 0, locals := 92 } s m args below meth c A D 2 0 0 Q (wX q0 qs qo qt qv qr qx ql ad qh cI cF cC cS cO u) 0 [(0, .ref (q0 0)), (1, .int x1)] [] := by
  rw [fX7_readBits] at h
  refine vi_aload_n C 0 dX7_readBits_0 rfl ?_
  refine gM_X7_0_0 C dX7_readBits_1 ?_
  refine vi_iload_n C 1 dX7_readBits_4 rfl ?_
  obtain ⟨y2, u1b, hgu1, h⟩ := ob_p h
  obtain ⟨u1, eu1, h⟩ := ob_nm h
  refine cM_ship_i (As := [.int x1]) (rest := []) C (mX5_hasSailor C.2.2.2.2.2.2.2.2.1 hgu1) 1 rfl tcX5_hasSailor tlX7_74 tiX5_hasSailor tsX5_hasSailor rfl tnX5 tdX5_hasSailor ⟨Nat.le_of_ble_eq_true rfl, Nat.le_of_ble_eq_true rfl⟩ eu1 rfl (Nat.le_of_ble_eq_true rfl) dX7_readBits_5 ?_
  refine vi_if_eq (tgt := 25) C dX7_readBits_8 (by decide) (fun hc3 => ?_) (fun hc3 => ?_)
  · have h := ob_t h hc3
    refine vi_ldc (v := (-100001)) C dX7_readBits_25 tkX7_77 ?_
    exact vi_donei (W := wX q0 qs qo qt qv qr qx ql ad qh cI cF cC cS cO) RET h dX7_readBits_27
  · have h := ob_f h hc3
    refine vi_aload_n C 0 dX7_readBits_11 rfl ?_
    refine gM_X7_0_0 C dX7_readBits_12 ?_
    refine vi_iload_n C 1 dX7_readBits_15 rfl ?_
    obtain ⟨y5, u4b, hgu4, h⟩ := ob_p h
    obtain ⟨u4, eu4, h⟩ := ob_nm h
    refine cM_ship_f (As := [.int x1]) (rest := []) C (mX5_readingOf C.2.2.2.2.2.2.2.2.1 hgu4) 1 rfl tcX5_readingOf tlX7_184 tiX5_readingOf tsX5_readingOf rfl tnX5 tdX5_readingOf ⟨Nat.le_of_ble_eq_true rfl, Nat.le_of_ble_eq_true rfl⟩ eu4 rfl (Nat.le_of_ble_eq_true rfl) dX7_readBits_16 ?_
    obtain ⟨y6, hgy6, h⟩ := ob_bd h
    refine vi_callS0i (As := [.float y5]) (rest := []) C (mX7_bitsOf C.2.2.2.2.2.2.2.2.1 hgy6) 1 rfl tcX7_bitsOf tlX7_179 ttX7_bitsOf tnX7 tdX7_bitsOf ⟨Nat.le_of_ble_eq_true rfl, Nat.le_of_ble_eq_true rfl⟩ rfl (Nat.le_of_ble_eq_true rfl) dX7_readBits_19 ?_
    refine vi_goto (tgt := 27) C dX7_readBits_22 (by decide) ?_
    exact vi_donei (W := wX q0 qs qo qt qv qr qx ql ad qh cI cF cC cS cO) RET h dX7_readBits_27
theorem mX7_readBits {ad adK adV : Nat → Nat} {tS tF : Nat} {tX sK sV : Nat → Nat} (hE : vEok (vE ad adK adV tS tF tX sK sV)) {l : Launch} {D : va_G} {cI cF cC cS cO cB cZ : ClassId} {q0 qs qo qt qv qr qx ql : Nat → Nat} {qh : Nat → Nat → Nat} {r0 : Int32} {u0 : vZ}  {x1 : Int32} {u : vZ} (h : fX7_readBits x1 u = some (r0, u0)) : vM (vE ad adK adV tS tF tX sK sV) l yX7_readBits cX7_readBits 2 (some .int) 4 92 D (vT7 cI cF cC cS cO cB cZ) [.ref (q0 0), .int x1] (wX q0 qs qo qt qv qr qx ql ad qh cI cF cC cS cO u) (vQi D (wX q0 qs qo qt qv qr qx ql ad qh cI cF cC cS cO u0) r0) :=
  vM_of hE (by decide +kernel) (Nat.le_of_ble_eq_true rfl) (fun p e s m args below meth c A C hr => kX7_readBits_e C (vi_reti C hr) h)
-- ---- X7_fixBits
def fX7_fixBits (x1 : Int32) (u : vZ) : Option (Int32 × vZ) := obp (fX5_hasSailor x1 u.2.1.1) fun y2 u1b => bd ((u.1, ((u1b, u.2.1.2), u.2.2))) fun u1 => (if y2 = 0 then some ((-100001 : Int32), u1) else obp (fX5_hasFix x1 u1.2.1.1) fun y5 u4b => bd ((u1.1, ((u4b, u1.2.1.2), u1.2.2))) fun u4 => (if y5 = 0 then some ((-100006 : Int32), u4) else obp (fX5_fixOf x1 u4.2.1.1) fun y8 u7b => bd ((u4.1, ((u7b, u4.2.1.2), u4.2.2))) fun u7 => (fX7_bitsOf y8).bind fun y9 => some (y9, u7)))
set_option maxRecDepth 100000 in
set_option maxHeartbeats 4000000 in
theorem kX7_fixBits_e {ad adK adV : Nat → Nat} {tS tF : Nat} {tX sK sV : Nat → Nat} {p : Program} {l : Launch} {e : Env} {s : State} {m : MethodId} {args : Array Value} {below : List Frame} {meth : Method} {c : Code} {A : Nat → Prop} {D : va_G} {cI cF cC cS cO cB cZ : ClassId} {Q : State → Prop} {q0 qs qo qt qv qr qx ql : Nat → Nat} {qh : Nat → Nat → Nat} (C : vC (vE ad adK adV tS tF tX sK sV) p l s m args meth c A D (vT7 cI cF cC cS cO cB cZ) cX7_fixBits 2 RX7) {r0 : Int32} {u0 : vZ} (RET : ∀ (pc : Nat) (lv : List (Nat × Value)), decode cX7_fixBits pc = .ok (.ireturn, 1) → vV p l e { frames := 3, cells := 0, slots := 0, locals := 66 } s m args below meth c A D 2 0 0 Q (wX q0 qs qo qt qv qr qx ql ad qh cI cF cC cS cO u0) pc lv [.int r0]) {x1 : Int32} {u : vZ} (h : fX7_fixBits x1 u = some (r0, u0)) : vV p l e { frames := 3, cells := 0, slots := 0, locals := 66 } s m args below meth c A D 2 0 0 Q (wX q0 qs qo qt qv qr qx ql ad qh cI cF cC cS cO u) 0 [(0, .ref (q0 0)), (1, .int x1)] [] := by
  rw [fX7_fixBits] at h
  refine vi_aload_n C 0 dX7_fixBits_0 rfl ?_
  refine gM_X7_0_0 C dX7_fixBits_1 ?_
  refine vi_iload_n C 1 dX7_fixBits_4 rfl ?_
  obtain ⟨y2, u1b, hgu1, h⟩ := ob_p h
  obtain ⟨u1, eu1, h⟩ := ob_nm h
  refine cM_ship_i (As := [.int x1]) (rest := []) C (mX5_hasSailor C.2.2.2.2.2.2.2.2.1 hgu1) 1 rfl tcX5_hasSailor tlX7_74 tiX5_hasSailor tsX5_hasSailor rfl tnX5 tdX5_hasSailor ⟨Nat.le_of_ble_eq_true rfl, Nat.le_of_ble_eq_true rfl⟩ eu1 rfl (Nat.le_of_ble_eq_true rfl) dX7_fixBits_5 ?_
  refine vi_if_ne (tgt := 14) C dX7_fixBits_8 (by decide) (fun hc3 => ?_) (fun hc3 => ?_)
  · have h := ob_f h hc3
    refine vi_aload_n C 0 dX7_fixBits_14 rfl ?_
    refine gM_X7_0_0 C dX7_fixBits_15 ?_
    refine vi_iload_n C 1 dX7_fixBits_18 rfl ?_
    obtain ⟨y5, u4b, hgu4, h⟩ := ob_p h
    obtain ⟨u4, eu4, h⟩ := ob_nm h
    refine cM_ship_i (As := [.int x1]) (rest := []) C (mX5_hasFix C.2.2.2.2.2.2.2.2.1 hgu4) 1 rfl tcX5_hasFix tlX7_188 tiX5_hasFix tsX5_hasFix rfl tnX5 tdX5_hasFix ⟨Nat.le_of_ble_eq_true rfl, Nat.le_of_ble_eq_true rfl⟩ eu4 rfl (Nat.le_of_ble_eq_true rfl) dX7_fixBits_19 ?_
    refine vi_if_eq (tgt := 39) C dX7_fixBits_22 (by decide) (fun hc6 => ?_) (fun hc6 => ?_)
    · have h := ob_t h hc6
      refine vi_ldc (v := (-100006)) C dX7_fixBits_39 tkX7_194 ?_
      exact vi_donei (W := wX q0 qs qo qt qv qr qx ql ad qh cI cF cC cS cO) RET h dX7_fixBits_41
    · have h := ob_f h hc6
      refine vi_aload_n C 0 dX7_fixBits_25 rfl ?_
      refine gM_X7_0_0 C dX7_fixBits_26 ?_
      refine vi_iload_n C 1 dX7_fixBits_29 rfl ?_
      obtain ⟨y8, u7b, hgu7, h⟩ := ob_p h
      obtain ⟨u7, eu7, h⟩ := ob_nm h
      refine cM_ship_f (As := [.int x1]) (rest := []) C (mX5_fixOf C.2.2.2.2.2.2.2.2.1 hgu7) 1 rfl tcX5_fixOf tlX7_191 tiX5_fixOf tsX5_fixOf rfl tnX5 tdX5_fixOf ⟨Nat.le_of_ble_eq_true rfl, Nat.le_of_ble_eq_true rfl⟩ eu7 rfl (Nat.le_of_ble_eq_true rfl) dX7_fixBits_30 ?_
      obtain ⟨y9, hgy9, h⟩ := ob_bd h
      refine vi_callS0i (As := [.float y8]) (rest := []) C (mX7_bitsOf C.2.2.2.2.2.2.2.2.1 hgy9) 1 rfl tcX7_bitsOf tlX7_179 ttX7_bitsOf tnX7 tdX7_bitsOf ⟨Nat.le_of_ble_eq_true rfl, Nat.le_of_ble_eq_true rfl⟩ rfl (Nat.le_of_ble_eq_true rfl) dX7_fixBits_33 ?_
      refine vi_goto (tgt := 41) C dX7_fixBits_36 (by decide) ?_
      exact vi_donei (W := wX q0 qs qo qt qv qr qx ql ad qh cI cF cC cS cO) RET h dX7_fixBits_41
  · have h := ob_t h hc3
    refine vi_ldc (v := (-100001)) C dX7_fixBits_11 tkX7_77 ?_
    exact vi_donei (W := wX q0 qs qo qt qv qr qx ql ad qh cI cF cC cS cO) RET h dX7_fixBits_13
theorem mX7_fixBits {ad adK adV : Nat → Nat} {tS tF : Nat} {tX sK sV : Nat → Nat} (hE : vEok (vE ad adK adV tS tF tX sK sV)) {l : Launch} {D : va_G} {cI cF cC cS cO cB cZ : ClassId} {q0 qs qo qt qv qr qx ql : Nat → Nat} {qh : Nat → Nat → Nat} {r0 : Int32} {u0 : vZ}  {x1 : Int32} {u : vZ} (h : fX7_fixBits x1 u = some (r0, u0)) : vM (vE ad adK adV tS tF tX sK sV) l yX7_fixBits cX7_fixBits 2 (some .int) 3 66 D (vT7 cI cF cC cS cO cB cZ) [.ref (q0 0), .int x1] (wX q0 qs qo qt qv qr qx ql ad qh cI cF cC cS cO u) (vQi D (wX q0 qs qo qt qv qr qx ql ad qh cI cF cC cS cO u0) r0) :=
  vM_of hE (by decide +kernel) (Nat.le_of_ble_eq_true rfl) (fun p e s m args below meth c A C hr => kX7_fixBits_e C (vi_reti C hr) h)
-- ---- X7_fixAgain
def fX7_fixAgain (x1 : Int32) (u : vZ) : Option (Int32 × vZ) := obp (fX5_hasSailor x1 u.2.1.1) fun y2 u1b => bd ((u.1, ((u1b, u.2.1.2), u.2.2))) fun u1 => (if y2 = 0 then some ((-100001 : Int32), u1) else obp (fX5_hasFix x1 u1.2.1.1) fun y5 u4b => bd ((u1.1, ((u4b, u1.2.1.2), u1.2.2))) fun u4 => (if y5 = 0 then some ((-100006 : Int32), u4) else obp (fX5_fixFromLatest x1 u4.2.1.1) fun y8 u7b => bd ((u4.1, ((u7b, u4.2.1.2), u4.2.2))) fun u7 => (fX7_bitsOf y8).bind fun y9 => some (y9, u7)))
set_option maxRecDepth 100000 in
set_option maxHeartbeats 4000000 in
theorem kX7_fixAgain_e {ad adK adV : Nat → Nat} {tS tF : Nat} {tX sK sV : Nat → Nat} {p : Program} {l : Launch} {e : Env} {s : State} {m : MethodId} {args : Array Value} {below : List Frame} {meth : Method} {c : Code} {A : Nat → Prop} {D : va_G} {cI cF cC cS cO cB cZ : ClassId} {Q : State → Prop} {q0 qs qo qt qv qr qx ql : Nat → Nat} {qh : Nat → Nat → Nat} (C : vC (vE ad adK adV tS tF tX sK sV) p l s m args meth c A D (vT7 cI cF cC cS cO cB cZ) cX7_fixAgain 2 RX7) {r0 : Int32} {u0 : vZ} (RET : ∀ (pc : Nat) (lv : List (Nat × Value)), decode cX7_fixAgain pc = .ok (.ireturn, 1) → vV p l e { frames := 3, cells := 0, slots := 0, locals := 67 } s m args below meth c A D 2 0 0 Q (wX q0 qs qo qt qv qr qx ql ad qh cI cF cC cS cO u0) pc lv [.int r0]) {x1 : Int32} {u : vZ} (h : fX7_fixAgain x1 u = some (r0, u0)) : vV p l e { frames := 3, cells := 0, slots := 0, locals := 67 } s m args below meth c A D 2 0 0 Q (wX q0 qs qo qt qv qr qx ql ad qh cI cF cC cS cO u) 0 [(0, .ref (q0 0)), (1, .int x1)] [] := by
  rw [fX7_fixAgain] at h
  refine vi_aload_n C 0 dX7_fixAgain_0 rfl ?_
  refine gM_X7_0_0 C dX7_fixAgain_1 ?_
  refine vi_iload_n C 1 dX7_fixAgain_4 rfl ?_
  obtain ⟨y2, u1b, hgu1, h⟩ := ob_p h
  obtain ⟨u1, eu1, h⟩ := ob_nm h
  refine cM_ship_i (As := [.int x1]) (rest := []) C (mX5_hasSailor C.2.2.2.2.2.2.2.2.1 hgu1) 1 rfl tcX5_hasSailor tlX7_74 tiX5_hasSailor tsX5_hasSailor rfl tnX5 tdX5_hasSailor ⟨Nat.le_of_ble_eq_true rfl, Nat.le_of_ble_eq_true rfl⟩ eu1 rfl (Nat.le_of_ble_eq_true rfl) dX7_fixAgain_5 ?_
  refine vi_if_ne (tgt := 14) C dX7_fixAgain_8 (by decide) (fun hc3 => ?_) (fun hc3 => ?_)
  · have h := ob_f h hc3
    refine vi_aload_n C 0 dX7_fixAgain_14 rfl ?_
    refine gM_X7_0_0 C dX7_fixAgain_15 ?_
    refine vi_iload_n C 1 dX7_fixAgain_18 rfl ?_
    obtain ⟨y5, u4b, hgu4, h⟩ := ob_p h
    obtain ⟨u4, eu4, h⟩ := ob_nm h
    refine cM_ship_i (As := [.int x1]) (rest := []) C (mX5_hasFix C.2.2.2.2.2.2.2.2.1 hgu4) 1 rfl tcX5_hasFix tlX7_188 tiX5_hasFix tsX5_hasFix rfl tnX5 tdX5_hasFix ⟨Nat.le_of_ble_eq_true rfl, Nat.le_of_ble_eq_true rfl⟩ eu4 rfl (Nat.le_of_ble_eq_true rfl) dX7_fixAgain_19 ?_
    refine vi_if_eq (tgt := 39) C dX7_fixAgain_22 (by decide) (fun hc6 => ?_) (fun hc6 => ?_)
    · have h := ob_t h hc6
      refine vi_ldc (v := (-100006)) C dX7_fixAgain_39 tkX7_194 ?_
      exact vi_donei (W := wX q0 qs qo qt qv qr qx ql ad qh cI cF cC cS cO) RET h dX7_fixAgain_41
    · have h := ob_f h hc6
      refine vi_aload_n C 0 dX7_fixAgain_25 rfl ?_
      refine gM_X7_0_0 C dX7_fixAgain_26 ?_
      refine vi_iload_n C 1 dX7_fixAgain_29 rfl ?_
      obtain ⟨y8, u7b, hgu7, h⟩ := ob_p h
      obtain ⟨u7, eu7, h⟩ := ob_nm h
      refine cM_ship_f (As := [.int x1]) (rest := []) C (mX5_fixFromLatest C.2.2.2.2.2.2.2.2.1 hgu7) 1 rfl tcX5_fixFromLatest tlX7_195 tiX5_fixFromLatest tsX5_fixFromLatest rfl tnX5 tdX5_fixFromLatest ⟨Nat.le_of_ble_eq_true rfl, Nat.le_of_ble_eq_true rfl⟩ eu7 rfl (Nat.le_of_ble_eq_true rfl) dX7_fixAgain_30 ?_
      obtain ⟨y9, hgy9, h⟩ := ob_bd h
      refine vi_callS0i (As := [.float y8]) (rest := []) C (mX7_bitsOf C.2.2.2.2.2.2.2.2.1 hgy9) 1 rfl tcX7_bitsOf tlX7_179 ttX7_bitsOf tnX7 tdX7_bitsOf ⟨Nat.le_of_ble_eq_true rfl, Nat.le_of_ble_eq_true rfl⟩ rfl (Nat.le_of_ble_eq_true rfl) dX7_fixAgain_33 ?_
      refine vi_goto (tgt := 41) C dX7_fixAgain_36 (by decide) ?_
      exact vi_donei (W := wX q0 qs qo qt qv qr qx ql ad qh cI cF cC cS cO) RET h dX7_fixAgain_41
  · have h := ob_t h hc3
    refine vi_ldc (v := (-100001)) C dX7_fixAgain_11 tkX7_77 ?_
    exact vi_donei (W := wX q0 qs qo qt qv qr qx ql ad qh cI cF cC cS cO) RET h dX7_fixAgain_13
theorem mX7_fixAgain {ad adK adV : Nat → Nat} {tS tF : Nat} {tX sK sV : Nat → Nat} (hE : vEok (vE ad adK adV tS tF tX sK sV)) {l : Launch} {D : va_G} {cI cF cC cS cO cB cZ : ClassId} {q0 qs qo qt qv qr qx ql : Nat → Nat} {qh : Nat → Nat → Nat} {r0 : Int32} {u0 : vZ}  {x1 : Int32} {u : vZ} (h : fX7_fixAgain x1 u = some (r0, u0)) : vM (vE ad adK adV tS tF tX sK sV) l yX7_fixAgain cX7_fixAgain 2 (some .int) 3 67 D (vT7 cI cF cC cS cO cB cZ) [.ref (q0 0), .int x1] (wX q0 qs qo qt qv qr qx ql ad qh cI cF cC cS cO u) (vQi D (wX q0 qs qo qt qv qr qx ql ad qh cI cF cC cS cO u0) r0) :=
  vM_of hE (by decide +kernel) (Nat.le_of_ble_eq_true rfl) (fun p e s m args below meth c A C hr => kX7_fixAgain_e C (vi_reti C hr) h)
-- ---- X7_meet
def fX7_meet (x1 : Int32) (x2 : Int32) (u : vZ) : Option (Int32 × vZ) := obp (fX5_hasBoth x1 x2 u.2.1.1) fun y2 u1b => bd ((u.1, ((u1b, u.2.1.2), u.2.2))) fun u1 => (if y2 = 0 then some ((-100001 : Int32), u1) else obp (fX5_hasFix x1 u1.2.1.1) fun y5 u4b => bd ((u1.1, ((u4b, u1.2.1.2), u1.2.2))) fun u4 => (if y5 = 0 then some ((-100006 : Int32), u4) else obp (fX5_hasFix x2 u4.2.1.1) fun y8 u7b => bd ((u4.1, ((u7b, u4.2.1.2), u4.2.2))) fun u7 => (if y8 = 0 then some ((-100006 : Int32), u7) else obp (fX5_fixOf x1 u7.2.1.1) fun y11 u10b => bd ((u7.1, ((u10b, u7.2.1.2), u7.2.2))) fun u10 => obp (fX5_fixOf x2 u10.2.1.1) fun y13 u12b => bd ((u10.1, ((u12b, u10.2.1.2), u10.2.2))) fun u12 => if (FP.fsub y11 y13) &&& 0x7fffffff ≤ 0x7f800000 then bd ((FP.fsub y11 y13 : UInt32)) fun y15 => (if 0 ≤ Op.cmpValue (FP.fcmp y15 (1056964608 : UInt32)) CmpOp.g then some ((0 : Int32), u12) else (if Op.cmpValue (FP.fcmp y15 (3204448256 : UInt32)) CmpOp.l ≤ 0 then some ((0 : Int32), u12) else some ((1 : Int32), u12))) else none)))
set_option maxRecDepth 100000 in
set_option maxHeartbeats 4000000 in
theorem kX7_meet_e {ad adK adV : Nat → Nat} {tS tF : Nat} {tX sK sV : Nat → Nat} {p : Program} {l : Launch} {e : Env} {s : State} {m : MethodId} {args : Array Value} {below : List Frame} {meth : Method} {c : Code} {A : Nat → Prop} {D : va_G} {cI cF cC cS cO cB cZ : ClassId} {Q : State → Prop} {q0 qs qo qt qv qr qx ql : Nat → Nat} {qh : Nat → Nat → Nat} (C : vC (vE ad adK adV tS tF tX sK sV) p l s m args meth c A D (vT7 cI cF cC cS cO cB cZ) cX7_meet 4 RX7) {r0 : Int32} {u0 : vZ} (RET : ∀ (pc : Nat) (lv : List (Nat × Value)), decode cX7_meet pc = .ok (.ireturn, 1) → vV p l e { frames := 3, cells := 0, slots := 0, locals := 66 } s m args below meth c A D 4 0 0 Q (wX q0 qs qo qt qv qr qx ql ad qh cI cF cC cS cO u0) pc lv [.int r0]) {x1 : Int32} {x2 : Int32} {u : vZ} (h : fX7_meet x1 x2 u = some (r0, u0)) : vV p l e { frames := 3, cells := 0, slots := 0, locals := 66 } s m args below meth c A D 4 0 0 Q (wX q0 qs qo qt qv qr qx ql ad qh cI cF cC cS cO u) 0 [(0, .ref (q0 0)), (1, .int x1), (2, .int x2)] [] := by
  rw [fX7_meet] at h
  refine vi_aload_n C 0 dX7_meet_0 rfl ?_
  refine gM_X7_0_0 C dX7_meet_1 ?_
  refine vi_iload_n C 1 dX7_meet_4 rfl ?_
  refine vi_iload_n C 2 dX7_meet_5 rfl ?_
  obtain ⟨y2, u1b, hgu1, h⟩ := ob_p h
  obtain ⟨u1, eu1, h⟩ := ob_nm h
  refine cM_ship_i (As := [.int x1, .int x2]) (rest := []) C (mX5_hasBoth C.2.2.2.2.2.2.2.2.1 hgu1) 2 rfl tcX5_hasBoth tlX7_198 tiX5_hasBoth tsX5_hasBoth rfl tnX5 tdX5_hasBoth ⟨Nat.le_of_ble_eq_true rfl, Nat.le_of_ble_eq_true rfl⟩ eu1 rfl (Nat.le_of_ble_eq_true rfl) dX7_meet_6 ?_
  refine vi_if_ne (tgt := 15) C dX7_meet_9 (by decide) (fun hc3 => ?_) (fun hc3 => ?_)
  · have h := ob_f h hc3
    refine vi_aload_n C 0 dX7_meet_15 rfl ?_
    refine gM_X7_0_0 C dX7_meet_16 ?_
    refine vi_iload_n C 1 dX7_meet_19 rfl ?_
    obtain ⟨y5, u4b, hgu4, h⟩ := ob_p h
    obtain ⟨u4, eu4, h⟩ := ob_nm h
    refine cM_ship_i (As := [.int x1]) (rest := []) C (mX5_hasFix C.2.2.2.2.2.2.2.2.1 hgu4) 1 rfl tcX5_hasFix tlX7_188 tiX5_hasFix tsX5_hasFix rfl tnX5 tdX5_hasFix ⟨Nat.le_of_ble_eq_true rfl, Nat.le_of_ble_eq_true rfl⟩ eu4 rfl (Nat.le_of_ble_eq_true rfl) dX7_meet_20 ?_
    refine vi_if_eq (tgt := 37) C dX7_meet_23 (by decide) (fun hc6 => ?_) (fun hc6 => ?_)
    · have h := ob_t h hc6
      refine vi_ldc (v := (-100006)) C dX7_meet_37 tkX7_194 ?_
      exact vi_donei (W := wX q0 qs qo qt qv qr qx ql ad qh cI cF cC cS cO) RET h dX7_meet_39
    · have h := ob_f h hc6
      refine vi_aload_n C 0 dX7_meet_26 rfl ?_
      refine gM_X7_0_0 C dX7_meet_27 ?_
      refine vi_iload_n C 2 dX7_meet_30 rfl ?_
      obtain ⟨y8, u7b, hgu7, h⟩ := ob_p h
      obtain ⟨u7, eu7, h⟩ := ob_nm h
      refine cM_ship_i (As := [.int x2]) (rest := []) C (mX5_hasFix C.2.2.2.2.2.2.2.2.1 hgu7) 1 rfl tcX5_hasFix tlX7_188 tiX5_hasFix tsX5_hasFix rfl tnX5 tdX5_hasFix ⟨Nat.le_of_ble_eq_true rfl, Nat.le_of_ble_eq_true rfl⟩ eu7 rfl (Nat.le_of_ble_eq_true rfl) dX7_meet_31 ?_
      refine vi_if_ne (tgt := 40) C dX7_meet_34 (by decide) (fun hc9 => ?_) (fun hc9 => ?_)
      · have h := ob_f h hc9
        refine vi_aload_n C 0 dX7_meet_40 rfl ?_
        refine gM_X7_0_0 C dX7_meet_41 ?_
        refine vi_iload_n C 1 dX7_meet_44 rfl ?_
        obtain ⟨y11, u10b, hgu10, h⟩ := ob_p h
        obtain ⟨u10, eu10, h⟩ := ob_nm h
        refine cM_ship_f (As := [.int x1]) (rest := []) C (mX5_fixOf C.2.2.2.2.2.2.2.2.1 hgu10) 1 rfl tcX5_fixOf tlX7_191 tiX5_fixOf tsX5_fixOf rfl tnX5 tdX5_fixOf ⟨Nat.le_of_ble_eq_true rfl, Nat.le_of_ble_eq_true rfl⟩ eu10 rfl (Nat.le_of_ble_eq_true rfl) dX7_meet_45 ?_
        refine vi_aload_n C 0 dX7_meet_48 rfl ?_
        refine gM_X7_0_0 C dX7_meet_49 ?_
        refine vi_iload_n C 2 dX7_meet_52 rfl ?_
        obtain ⟨y13, u12b, hgu12, h⟩ := ob_p h
        obtain ⟨u12, eu12, h⟩ := ob_nm h
        refine cM_ship_f (As := [.int x2]) (rest := [.float y11]) C (mX5_fixOf C.2.2.2.2.2.2.2.2.1 hgu12) 1 rfl tcX5_fixOf tlX7_191 tiX5_fixOf tsX5_fixOf rfl tnX5 tdX5_fixOf ⟨Nat.le_of_ble_eq_true rfl, Nat.le_of_ble_eq_true rfl⟩ eu12 rfl (Nat.le_of_ble_eq_true rfl) dX7_meet_53 ?_
        obtain ⟨hz14, h⟩ := ob_ok h
        refine vi_fsub C dX7_meet_56 hz14 ?_
        obtain ⟨y15, ey15, h⟩ := ob_nm h
        refine vi_nmf ey15 ?_
        refine vi_fstore_n (lv' := [(3, .float y15), (0, .ref (q0 0)), (1, .int x1), (2, .int x2)]) C dX7_meet_57 rfl (by decide) rfl ?_
        refine vi_fload_n C 0 dX7_meet_58 rfl ?_
        refine vi_ldcf (v := 1056964608) C dX7_meet_59 tkX7_202 ?_
        refine vi_fcmp C dX7_meet_61 ?_
        refine vi_if_ge (tgt := 76) C dX7_meet_62 (by decide) (fun hc16 => ?_) (fun hc16 => ?_)
        · have h := ob_t h hc16
          refine vi_iconst (v := 0) C dX7_meet_76 (by decide) ?_
          exact vi_donei (W := wX q0 qs qo qt qv qr qx ql ad qh cI cF cC cS cO) RET h dX7_meet_77
        · have h := ob_f h hc16
          refine vi_fload_n C 0 dX7_meet_65 rfl ?_
          refine vi_ldcf (v := 3204448256) C dX7_meet_66 tkX7_203 ?_
          refine vi_fcmp C dX7_meet_68 ?_
          refine vi_if_le (tgt := 76) C dX7_meet_69 (by decide) (fun hc17 => ?_) (fun hc17 => ?_)
          · have h := ob_t h hc17
            refine vi_iconst (v := 0) C dX7_meet_76 (by decide) ?_
            exact vi_donei (W := wX q0 qs qo qt qv qr qx ql ad qh cI cF cC cS cO) RET h dX7_meet_77
          · have h := ob_f h hc17
            refine vi_iconst (v := 1) C dX7_meet_72 (by decide) ?_
            refine vi_goto (tgt := 77) C dX7_meet_73 (by decide) ?_
            exact vi_donei (W := wX q0 qs qo qt qv qr qx ql ad qh cI cF cC cS cO) RET h dX7_meet_77
      · have h := ob_t h hc9
        refine vi_ldc (v := (-100006)) C dX7_meet_37 tkX7_194 ?_
        exact vi_donei (W := wX q0 qs qo qt qv qr qx ql ad qh cI cF cC cS cO) RET h dX7_meet_39
  · have h := ob_t h hc3
    refine vi_ldc (v := (-100001)) C dX7_meet_12 tkX7_77 ?_
    exact vi_donei (W := wX q0 qs qo qt qv qr qx ql ad qh cI cF cC cS cO) RET h dX7_meet_14
theorem mX7_meet {ad adK adV : Nat → Nat} {tS tF : Nat} {tX sK sV : Nat → Nat} (hE : vEok (vE ad adK adV tS tF tX sK sV)) {l : Launch} {D : va_G} {cI cF cC cS cO cB cZ : ClassId} {q0 qs qo qt qv qr qx ql : Nat → Nat} {qh : Nat → Nat → Nat} {r0 : Int32} {u0 : vZ}  {x1 : Int32} {x2 : Int32} {u : vZ} (h : fX7_meet x1 x2 u = some (r0, u0)) : vM (vE ad adK adV tS tF tX sK sV) l yX7_meet cX7_meet 4 (some .int) 3 66 D (vT7 cI cF cC cS cO cB cZ) [.ref (q0 0), .int x1, .int x2] (wX q0 qs qo qt qv qr qx ql ad qh cI cF cC cS cO u) (vQi D (wX q0 qs qo qt qv qr qx ql ad qh cI cF cC cS cO u0) r0) :=
  vM_of hE (by decide +kernel) (Nat.le_of_ble_eq_true rfl) (fun p e s m args below meth c A C hr => kX7_meet_e C (vi_reti C hr) h)
-- ---- X7_unlike
def fX7_unlike (x1 : Int32) (x2 : Int32) (u : vZ) : Option (Int32 × vZ) := obp (fX5_hasBoth x1 x2 u.2.1.1) fun y2 u1b => bd ((u.1, ((u1b, u.2.1.2), u.2.2))) fun u1 => (if y2 = 0 then some ((-100001 : Int32), u1) else if x1 < 0 ∨ 8 ≤ Int32.toNatClampNeg x1 then none else if x2 < 0 ∨ 8 ≤ Int32.toNatClampNeg x2 then none else (fX5_unlikeBits (u1.2.1.1.1 1 (Int32.toNatClampNeg x1)) (u1.2.1.1.1 1 (Int32.toNatClampNeg x2))).bind fun y6 => some (y6, u1))
set_option maxRecDepth 100000 in
set_option maxHeartbeats 4000000 in
theorem kX7_unlike_e {ad adK adV : Nat → Nat} {tS tF : Nat} {tX sK sV : Nat → Nat} {p : Program} {l : Launch} {e : Env} {s : State} {m : MethodId} {args : Array Value} {below : List Frame} {meth : Method} {c : Code} {A : Nat → Prop} {D : va_G} {cI cF cC cS cO cB cZ : ClassId} {Q : State → Prop} {q0 qs qo qt qv qr qx ql : Nat → Nat} {qh : Nat → Nat → Nat} (C : vC (vE ad adK adV tS tF tX sK sV) p l s m args meth c A D (vT7 cI cF cC cS cO cB cZ) cX7_unlike 3 RX7) {r0 : Int32} {u0 : vZ} (RET : ∀ (pc : Nat) (lv : List (Nat × Value)), decode cX7_unlike pc = .ok (.ireturn, 1) → vV p l e { frames := 2, cells := 0, slots := 0, locals := 43 } s m args below meth c A D 3 0 0 Q (wX q0 qs qo qt qv qr qx ql ad qh cI cF cC cS cO u0) pc lv [.int r0]) {x1 : Int32} {x2 : Int32} {u : vZ} (h : fX7_unlike x1 x2 u = some (r0, u0)) : vV p l e { frames := 2, cells := 0, slots := 0, locals := 43 } s m args below meth c A D 3 0 0 Q (wX q0 qs qo qt qv qr qx ql ad qh cI cF cC cS cO u) 0 [(0, .ref (q0 0)), (1, .int x1), (2, .int x2)] [] := by
  rw [fX7_unlike] at h
  refine vi_aload_n C 0 dX7_unlike_0 rfl ?_
  refine gM_X7_0_0 C dX7_unlike_1 ?_
  refine vi_iload_n C 1 dX7_unlike_4 rfl ?_
  refine vi_iload_n C 2 dX7_unlike_5 rfl ?_
  obtain ⟨y2, u1b, hgu1, h⟩ := ob_p h
  obtain ⟨u1, eu1, h⟩ := ob_nm h
  refine cM_ship_i (As := [.int x1, .int x2]) (rest := []) C (mX5_hasBoth C.2.2.2.2.2.2.2.2.1 hgu1) 2 rfl tcX5_hasBoth tlX7_198 tiX5_hasBoth tsX5_hasBoth rfl tnX5 tdX5_hasBoth ⟨Nat.le_of_ble_eq_true rfl, Nat.le_of_ble_eq_true rfl⟩ eu1 rfl (Nat.le_of_ble_eq_true rfl) dX7_unlike_6 ?_
  refine vi_if_eq (tgt := 36) C dX7_unlike_9 (by decide) (fun hc3 => ?_) (fun hc3 => ?_)
  · have h := ob_t h hc3
    refine vi_ldc (v := (-100001)) C dX7_unlike_36 tkX7_77 ?_
    exact vi_donei (W := wX q0 qs qo qt qv qr qx ql ad qh cI cF cC cS cO) RET h dX7_unlike_38
  · have h := ob_f h hc3
    refine vi_aload_n C 0 dX7_unlike_12 rfl ?_
    refine gM_X7_0_0 C dX7_unlike_13 ?_
    refine gM_X7_1_1 C dX7_unlike_16 ?_
    refine vi_iload_n C 1 dX7_unlike_19 rfl ?_
    obtain ⟨hz4, h⟩ := ob_if h
    refine lM_X7_2 (n := (Int32.toNatClampNeg x1)) C hz4 rfl dX7_unlike_20 ?_
    refine vi_aload_n C 0 dX7_unlike_21 rfl ?_
    refine gM_X7_0_0 C dX7_unlike_22 ?_
    refine gM_X7_1_1 C dX7_unlike_25 ?_
    refine vi_iload_n C 2 dX7_unlike_28 rfl ?_
    obtain ⟨hz5, h⟩ := ob_if h
    refine lM_X7_2 (n := (Int32.toNatClampNeg x2)) C hz5 rfl dX7_unlike_29 ?_
    obtain ⟨y6, hgy6, h⟩ := ob_bd h
    refine vi_callS0i (As := [.int (u1.2.1.1.1 1 (Int32.toNatClampNeg x1)), .int (u1.2.1.1.1 1 (Int32.toNatClampNeg x2))]) (rest := []) C (mX5_unlikeBits C.2.2.2.2.2.2.2.2.1 hgy6) 2 rfl tcX5_unlikeBits tlX7_204 ttX5_unlikeBits tnX5 tdX5_unlikeBits ⟨Nat.le_of_ble_eq_true rfl, Nat.le_of_ble_eq_true rfl⟩ rfl (Nat.le_of_ble_eq_true rfl) dX7_unlike_30 ?_
    refine vi_goto (tgt := 38) C dX7_unlike_33 (by decide) ?_
    exact vi_donei (W := wX q0 qs qo qt qv qr qx ql ad qh cI cF cC cS cO) RET h dX7_unlike_38
theorem mX7_unlike {ad adK adV : Nat → Nat} {tS tF : Nat} {tX sK sV : Nat → Nat} (hE : vEok (vE ad adK adV tS tF tX sK sV)) {l : Launch} {D : va_G} {cI cF cC cS cO cB cZ : ClassId} {q0 qs qo qt qv qr qx ql : Nat → Nat} {qh : Nat → Nat → Nat} {r0 : Int32} {u0 : vZ}  {x1 : Int32} {x2 : Int32} {u : vZ} (h : fX7_unlike x1 x2 u = some (r0, u0)) : vM (vE ad adK adV tS tF tX sK sV) l yX7_unlike cX7_unlike 3 (some .int) 2 43 D (vT7 cI cF cC cS cO cB cZ) [.ref (q0 0), .int x1, .int x2] (wX q0 qs qo qt qv qr qx ql ad qh cI cF cC cS cO u) (vQi D (wX q0 qs qo qt qv qr qx ql ad qh cI cF cC cS cO u0) r0) :=
  vM_of hE (by decide +kernel) (Nat.le_of_ble_eq_true rfl) (fun p e s m args below meth c A C hr => kX7_unlike_e C (vi_reti C hr) h)
-- ---- X7_unlikeAgain
def fX7_unlikeAgain (x1 : Int32) (x2 : Int32) (u : vZ) : Option (Int32 × vZ) := obp (fX5_hasBoth x1 x2 u.2.1.1) fun y2 u1b => bd ((u.1, ((u1b, u.2.1.2), u.2.2))) fun u1 => (if y2 = 0 then some ((-100001 : Int32), u1) else if x1 < 0 ∨ 8 ≤ Int32.toNatClampNeg x1 then none else if x2 < 0 ∨ 8 ≤ Int32.toNatClampNeg x2 then none else (fX5_unlikeByCounts (u1.2.1.1.1 1 (Int32.toNatClampNeg x1)) (u1.2.1.1.1 1 (Int32.toNatClampNeg x2))).bind fun y6 => some (y6, u1))
set_option maxRecDepth 100000 in
set_option maxHeartbeats 4000000 in
theorem kX7_unlikeAgain_e {ad adK adV : Nat → Nat} {tS tF : Nat} {tX sK sV : Nat → Nat} {p : Program} {l : Launch} {e : Env} {s : State} {m : MethodId} {args : Array Value} {below : List Frame} {meth : Method} {c : Code} {A : Nat → Prop} {D : va_G} {cI cF cC cS cO cB cZ : ClassId} {Q : State → Prop} {q0 qs qo qt qv qr qx ql : Nat → Nat} {qh : Nat → Nat → Nat} (C : vC (vE ad adK adV tS tF tX sK sV) p l s m args meth c A D (vT7 cI cF cC cS cO cB cZ) cX7_unlikeAgain 3 RX7) {r0 : Int32} {u0 : vZ} (RET : ∀ (pc : Nat) (lv : List (Nat × Value)), decode cX7_unlikeAgain pc = .ok (.ireturn, 1) → vV p l e { frames := 2, cells := 0, slots := 0, locals := 43 } s m args below meth c A D 3 0 0 Q (wX q0 qs qo qt qv qr qx ql ad qh cI cF cC cS cO u0) pc lv [.int r0]) {x1 : Int32} {x2 : Int32} {u : vZ} (h : fX7_unlikeAgain x1 x2 u = some (r0, u0)) : vV p l e { frames := 2, cells := 0, slots := 0, locals := 43 } s m args below meth c A D 3 0 0 Q (wX q0 qs qo qt qv qr qx ql ad qh cI cF cC cS cO u) 0 [(0, .ref (q0 0)), (1, .int x1), (2, .int x2)] [] := by
  rw [fX7_unlikeAgain] at h
  refine vi_aload_n C 0 dX7_unlikeAgain_0 rfl ?_
  refine gM_X7_0_0 C dX7_unlikeAgain_1 ?_
  refine vi_iload_n C 1 dX7_unlikeAgain_4 rfl ?_
  refine vi_iload_n C 2 dX7_unlikeAgain_5 rfl ?_
  obtain ⟨y2, u1b, hgu1, h⟩ := ob_p h
  obtain ⟨u1, eu1, h⟩ := ob_nm h
  refine cM_ship_i (As := [.int x1, .int x2]) (rest := []) C (mX5_hasBoth C.2.2.2.2.2.2.2.2.1 hgu1) 2 rfl tcX5_hasBoth tlX7_198 tiX5_hasBoth tsX5_hasBoth rfl tnX5 tdX5_hasBoth ⟨Nat.le_of_ble_eq_true rfl, Nat.le_of_ble_eq_true rfl⟩ eu1 rfl (Nat.le_of_ble_eq_true rfl) dX7_unlikeAgain_6 ?_
  refine vi_if_eq (tgt := 36) C dX7_unlikeAgain_9 (by decide) (fun hc3 => ?_) (fun hc3 => ?_)
  · have h := ob_t h hc3
    refine vi_ldc (v := (-100001)) C dX7_unlikeAgain_36 tkX7_77 ?_
    exact vi_donei (W := wX q0 qs qo qt qv qr qx ql ad qh cI cF cC cS cO) RET h dX7_unlikeAgain_38
  · have h := ob_f h hc3
    refine vi_aload_n C 0 dX7_unlikeAgain_12 rfl ?_
    refine gM_X7_0_0 C dX7_unlikeAgain_13 ?_
    refine gM_X7_1_1 C dX7_unlikeAgain_16 ?_
    refine vi_iload_n C 1 dX7_unlikeAgain_19 rfl ?_
    obtain ⟨hz4, h⟩ := ob_if h
    refine lM_X7_2 (n := (Int32.toNatClampNeg x1)) C hz4 rfl dX7_unlikeAgain_20 ?_
    refine vi_aload_n C 0 dX7_unlikeAgain_21 rfl ?_
    refine gM_X7_0_0 C dX7_unlikeAgain_22 ?_
    refine gM_X7_1_1 C dX7_unlikeAgain_25 ?_
    refine vi_iload_n C 2 dX7_unlikeAgain_28 rfl ?_
    obtain ⟨hz5, h⟩ := ob_if h
    refine lM_X7_2 (n := (Int32.toNatClampNeg x2)) C hz5 rfl dX7_unlikeAgain_29 ?_
    obtain ⟨y6, hgy6, h⟩ := ob_bd h
    refine vi_callS0i (As := [.int (u1.2.1.1.1 1 (Int32.toNatClampNeg x1)), .int (u1.2.1.1.1 1 (Int32.toNatClampNeg x2))]) (rest := []) C (mX5_unlikeByCounts C.2.2.2.2.2.2.2.2.1 hgy6) 2 rfl tcX5_unlikeByCounts tlX7_207 ttX5_unlikeByCounts tnX5 tdX5_unlikeByCounts ⟨Nat.le_of_ble_eq_true rfl, Nat.le_of_ble_eq_true rfl⟩ rfl (Nat.le_of_ble_eq_true rfl) dX7_unlikeAgain_30 ?_
    refine vi_goto (tgt := 38) C dX7_unlikeAgain_33 (by decide) ?_
    exact vi_donei (W := wX q0 qs qo qt qv qr qx ql ad qh cI cF cC cS cO) RET h dX7_unlikeAgain_38
theorem mX7_unlikeAgain {ad adK adV : Nat → Nat} {tS tF : Nat} {tX sK sV : Nat → Nat} (hE : vEok (vE ad adK adV tS tF tX sK sV)) {l : Launch} {D : va_G} {cI cF cC cS cO cB cZ : ClassId} {q0 qs qo qt qv qr qx ql : Nat → Nat} {qh : Nat → Nat → Nat} {r0 : Int32} {u0 : vZ}  {x1 : Int32} {x2 : Int32} {u : vZ} (h : fX7_unlikeAgain x1 x2 u = some (r0, u0)) : vM (vE ad adK adV tS tF tX sK sV) l yX7_unlikeAgain cX7_unlikeAgain 3 (some .int) 2 43 D (vT7 cI cF cC cS cO cB cZ) [.ref (q0 0), .int x1, .int x2] (wX q0 qs qo qt qv qr qx ql ad qh cI cF cC cS cO u) (vQi D (wX q0 qs qo qt qv qr qx ql ad qh cI cF cC cS cO u0) r0) :=
  vM_of hE (by decide +kernel) (Nat.le_of_ble_eq_true rfl) (fun p e s m args below meth c A C hr => kX7_unlikeAgain_e C (vi_reti C hr) h)
-- ---- X7_closest
def fX7_closest (x1 : Int32) (x2 : Int32) (u : vZ) : Option (Int32 × vZ) := obp (fX5_hasBoth x1 x2 u.2.1.1) fun y2 u1b => bd ((u.1, ((u1b, u.2.1.2), u.2.2))) fun u1 => (if y2 = 0 then some ((-100001 : Int32), u1) else if x1 < 0 ∨ 8 ≤ Int32.toNatClampNeg x1 then none else if x2 < 0 ∨ 8 ≤ Int32.toNatClampNeg x2 then none else (fX5_closestTurn (u1.2.1.1.1 1 (Int32.toNatClampNeg x1)) (u1.2.1.1.1 1 (Int32.toNatClampNeg x2))).bind fun y6 => some (y6, u1))
set_option maxRecDepth 100000 in
set_option maxHeartbeats 4000000 in
theorem kX7_closest_e {ad adK adV : Nat → Nat} {tS tF : Nat} {tX sK sV : Nat → Nat} {p : Program} {l : Launch} {e : Env} {s : State} {m : MethodId} {args : Array Value} {below : List Frame} {meth : Method} {c : Code} {A : Nat → Prop} {D : va_G} {cI cF cC cS cO cB cZ : ClassId} {Q : State → Prop} {q0 qs qo qt qv qr qx ql : Nat → Nat} {qh : Nat → Nat → Nat} (C : vC (vE ad adK adV tS tF tX sK sV) p l s m args meth c A D (vT7 cI cF cC cS cO cB cZ) cX7_closest 3 RX7) {r0 : Int32} {u0 : vZ} (RET : ∀ (pc : Nat) (lv : List (Nat × Value)), decode cX7_closest pc = .ok (.ireturn, 1) → vV p l e { frames := 3, cells := 0, slots := 0, locals := 67 } s m args below meth c A D 3 0 0 Q (wX q0 qs qo qt qv qr qx ql ad qh cI cF cC cS cO u0) pc lv [.int r0]) {x1 : Int32} {x2 : Int32} {u : vZ} (h : fX7_closest x1 x2 u = some (r0, u0)) : vV p l e { frames := 3, cells := 0, slots := 0, locals := 67 } s m args below meth c A D 3 0 0 Q (wX q0 qs qo qt qv qr qx ql ad qh cI cF cC cS cO u) 0 [(0, .ref (q0 0)), (1, .int x1), (2, .int x2)] [] := by
  rw [fX7_closest] at h
  refine vi_aload_n C 0 dX7_closest_0 rfl ?_
  refine gM_X7_0_0 C dX7_closest_1 ?_
  refine vi_iload_n C 1 dX7_closest_4 rfl ?_
  refine vi_iload_n C 2 dX7_closest_5 rfl ?_
  obtain ⟨y2, u1b, hgu1, h⟩ := ob_p h
  obtain ⟨u1, eu1, h⟩ := ob_nm h
  refine cM_ship_i (As := [.int x1, .int x2]) (rest := []) C (mX5_hasBoth C.2.2.2.2.2.2.2.2.1 hgu1) 2 rfl tcX5_hasBoth tlX7_198 tiX5_hasBoth tsX5_hasBoth rfl tnX5 tdX5_hasBoth ⟨Nat.le_of_ble_eq_true rfl, Nat.le_of_ble_eq_true rfl⟩ eu1 rfl (Nat.le_of_ble_eq_true rfl) dX7_closest_6 ?_
  refine vi_if_eq (tgt := 36) C dX7_closest_9 (by decide) (fun hc3 => ?_) (fun hc3 => ?_)
  · have h := ob_t h hc3
    refine vi_ldc (v := (-100001)) C dX7_closest_36 tkX7_77 ?_
    exact vi_donei (W := wX q0 qs qo qt qv qr qx ql ad qh cI cF cC cS cO) RET h dX7_closest_38
  · have h := ob_f h hc3
    refine vi_aload_n C 0 dX7_closest_12 rfl ?_
    refine gM_X7_0_0 C dX7_closest_13 ?_
    refine gM_X7_1_1 C dX7_closest_16 ?_
    refine vi_iload_n C 1 dX7_closest_19 rfl ?_
    obtain ⟨hz4, h⟩ := ob_if h
    refine lM_X7_2 (n := (Int32.toNatClampNeg x1)) C hz4 rfl dX7_closest_20 ?_
    refine vi_aload_n C 0 dX7_closest_21 rfl ?_
    refine gM_X7_0_0 C dX7_closest_22 ?_
    refine gM_X7_1_1 C dX7_closest_25 ?_
    refine vi_iload_n C 2 dX7_closest_28 rfl ?_
    obtain ⟨hz5, h⟩ := ob_if h
    refine lM_X7_2 (n := (Int32.toNatClampNeg x2)) C hz5 rfl dX7_closest_29 ?_
    obtain ⟨y6, hgy6, h⟩ := ob_bd h
    refine vi_callS0i (As := [.int (u1.2.1.1.1 1 (Int32.toNatClampNeg x1)), .int (u1.2.1.1.1 1 (Int32.toNatClampNeg x2))]) (rest := []) C (mX5_closestTurn C.2.2.2.2.2.2.2.2.1 hgy6) 2 rfl tcX5_closestTurn tlX7_210 ttX5_closestTurn tnX5 tdX5_closestTurn ⟨Nat.le_of_ble_eq_true rfl, Nat.le_of_ble_eq_true rfl⟩ rfl (Nat.le_of_ble_eq_true rfl) dX7_closest_30 ?_
    refine vi_goto (tgt := 38) C dX7_closest_33 (by decide) ?_
    exact vi_donei (W := wX q0 qs qo qt qv qr qx ql ad qh cI cF cC cS cO) RET h dX7_closest_38
theorem mX7_closest {ad adK adV : Nat → Nat} {tS tF : Nat} {tX sK sV : Nat → Nat} (hE : vEok (vE ad adK adV tS tF tX sK sV)) {l : Launch} {D : va_G} {cI cF cC cS cO cB cZ : ClassId} {q0 qs qo qt qv qr qx ql : Nat → Nat} {qh : Nat → Nat → Nat} {r0 : Int32} {u0 : vZ}  {x1 : Int32} {x2 : Int32} {u : vZ} (h : fX7_closest x1 x2 u = some (r0, u0)) : vM (vE ad adK adV tS tF tX sK sV) l yX7_closest cX7_closest 3 (some .int) 3 67 D (vT7 cI cF cC cS cO cB cZ) [.ref (q0 0), .int x1, .int x2] (wX q0 qs qo qt qv qr qx ql ad qh cI cF cC cS cO u) (vQi D (wX q0 qs qo qt qv qr qx ql ad qh cI cF cC cS cO u0) r0) :=
  vM_of hE (by decide +kernel) (Nat.le_of_ble_eq_true rfl) (fun p e s m args below meth c A C hr => kX7_closest_e C (vi_reti C hr) h)
-- ---- X7_would
def fX7_would (x1 : Int32) (x2 : Int32) (u : vZ) : Option (Int32 × vZ) := obp (fX5_hasSailor x1 u.2.1.1) fun y2 u1b => bd ((u.1, ((u1b, u.2.1.2), u.2.2))) fun u1 => (if y2 = 0 then some ((-100001 : Int32), u1) else (if x2 < 0 then some ((-100002 : Int32), u1) else (if (40 : Int32) < x2 then some ((-100002 : Int32), u1) else obp (fX5_angleAfter x1 x2 u1.2.1.1) fun y7 u6b => bd ((u1.1, ((u6b, u1.2.1.2), u1.2.2))) fun u6 => some (y7, u6))))
set_option maxRecDepth 100000 in
set_option maxHeartbeats 4000000 in
theorem kX7_would_e {ad adK adV : Nat → Nat} {tS tF : Nat} {tX sK sV : Nat → Nat} {p : Program} {l : Launch} {e : Env} {s : State} {m : MethodId} {args : Array Value} {below : List Frame} {meth : Method} {c : Code} {A : Nat → Prop} {D : va_G} {cI cF cC cS cO cB cZ : ClassId} {Q : State → Prop} {q0 qs qo qt qv qr qx ql : Nat → Nat} {qh : Nat → Nat → Nat} (C : vC (vE ad adK adV tS tF tX sK sV) p l s m args meth c A D (vT7 cI cF cC cS cO cB cZ) cX7_would 3 RX7) {r0 : Int32} {u0 : vZ} (RET : ∀ (pc : Nat) (lv : List (Nat × Value)), decode cX7_would pc = .ok (.ireturn, 1) → vV p l e { frames := 3, cells := 0, slots := 0, locals := 70 } s m args below meth c A D 3 0 0 Q (wX q0 qs qo qt qv qr qx ql ad qh cI cF cC cS cO u0) pc lv [.int r0]) {x1 : Int32} {x2 : Int32} {u : vZ} (h : fX7_would x1 x2 u = some (r0, u0)) : vV p l e { frames := 3, cells := 0, slots := 0, locals := 70 } s m args below meth c A D 3 0 0 Q (wX q0 qs qo qt qv qr qx ql ad qh cI cF cC cS cO u) 0 [(0, .ref (q0 0)), (1, .int x1), (2, .int x2)] [] := by
  rw [fX7_would] at h
  refine vi_aload_n C 0 dX7_would_0 rfl ?_
  refine gM_X7_0_0 C dX7_would_1 ?_
  refine vi_iload_n C 1 dX7_would_4 rfl ?_
  obtain ⟨y2, u1b, hgu1, h⟩ := ob_p h
  obtain ⟨u1, eu1, h⟩ := ob_nm h
  refine cM_ship_i (As := [.int x1]) (rest := []) C (mX5_hasSailor C.2.2.2.2.2.2.2.2.1 hgu1) 1 rfl tcX5_hasSailor tlX7_74 tiX5_hasSailor tsX5_hasSailor rfl tnX5 tdX5_hasSailor ⟨Nat.le_of_ble_eq_true rfl, Nat.le_of_ble_eq_true rfl⟩ eu1 rfl (Nat.le_of_ble_eq_true rfl) dX7_would_5 ?_
  refine vi_if_ne (tgt := 14) C dX7_would_8 (by decide) (fun hc3 => ?_) (fun hc3 => ?_)
  · have h := ob_f h hc3
    refine vi_iload_n C 2 dX7_would_14 rfl ?_
    refine vi_if_lt (tgt := 36) C dX7_would_15 (by decide) (fun hc4 => ?_) (fun hc4 => ?_)
    · have h := ob_t h hc4
      refine vi_ldc (v := (-100002)) C dX7_would_36 tkX7_54 ?_
      exact vi_donei (W := wX q0 qs qo qt qv qr qx ql ad qh cI cF cC cS cO) RET h dX7_would_38
    · have h := ob_f h hc4
      refine vi_iload_n C 2 dX7_would_18 rfl ?_
      refine vi_bipush (v := 40) C dX7_would_19 (by decide) ?_
      refine vi_icmp_gt (tgt := 36) C dX7_would_21 (by decide) (fun hc5 => ?_) (fun hc5 => ?_)
      · have h := ob_t h hc5
        refine vi_ldc (v := (-100002)) C dX7_would_36 tkX7_54 ?_
        exact vi_donei (W := wX q0 qs qo qt qv qr qx ql ad qh cI cF cC cS cO) RET h dX7_would_38
      · have h := ob_f h hc5
        refine vi_aload_n C 0 dX7_would_24 rfl ?_
        refine gM_X7_0_0 C dX7_would_25 ?_
        refine vi_iload_n C 1 dX7_would_28 rfl ?_
        refine vi_iload_n C 2 dX7_would_29 rfl ?_
        obtain ⟨y7, u6b, hgu6, h⟩ := ob_p h
        obtain ⟨u6, eu6, h⟩ := ob_nm h
        refine cM_ship_i (As := [.int x1, .int x2]) (rest := []) C (mX5_angleAfter C.2.2.2.2.2.2.2.2.1 hgu6) 2 rfl tcX5_angleAfter tlX7_144 tiX5_angleAfter tsX5_angleAfter rfl tnX5 tdX5_angleAfter ⟨Nat.le_of_ble_eq_true rfl, Nat.le_of_ble_eq_true rfl⟩ eu6 rfl (Nat.le_of_ble_eq_true rfl) dX7_would_30 ?_
        refine vi_goto (tgt := 38) C dX7_would_33 (by decide) ?_
        exact vi_donei (W := wX q0 qs qo qt qv qr qx ql ad qh cI cF cC cS cO) RET h dX7_would_38
  · have h := ob_t h hc3
    refine vi_ldc (v := (-100001)) C dX7_would_11 tkX7_77 ?_
    exact vi_donei (W := wX q0 qs qo qt qv qr qx ql ad qh cI cF cC cS cO) RET h dX7_would_13
theorem mX7_would {ad adK adV : Nat → Nat} {tS tF : Nat} {tX sK sV : Nat → Nat} (hE : vEok (vE ad adK adV tS tF tX sK sV)) {l : Launch} {D : va_G} {cI cF cC cS cO cB cZ : ClassId} {q0 qs qo qt qv qr qx ql : Nat → Nat} {qh : Nat → Nat → Nat} {r0 : Int32} {u0 : vZ}  {x1 : Int32} {x2 : Int32} {u : vZ} (h : fX7_would x1 x2 u = some (r0, u0)) : vM (vE ad adK adV tS tF tX sK sV) l yX7_would cX7_would 3 (some .int) 3 70 D (vT7 cI cF cC cS cO cB cZ) [.ref (q0 0), .int x1, .int x2] (wX q0 qs qo qt qv qr qx ql ad qh cI cF cC cS cO u) (vQi D (wX q0 qs qo qt qv qr qx ql ad qh cI cF cC cS cO u0) r0) :=
  vM_of hE (by decide +kernel) (Nat.le_of_ble_eq_true rfl) (fun p e s m args below meth c A C hr => kX7_would_e C (vi_reti C hr) h)
-- ---- X7_sinks
def fX7_sinks_16 : Nat → Int32 → Int32 → vZ → Option (Int32 × vZ)
  | 0, _, _, _ => none
  | n + 1, x1, x2, u => (if (40 : Int32) < x2 then some ((-100006 : Int32), u) else obp (fX5_angleAfter x1 x2 u.2.1.1) fun y3 u2b => bd ((u.1, ((u2b, u.2.1.2), u.2.2))) fun u2 => (if 0 < y3 then bd ((x2 + 1 : Int32)) fun y5 => fX7_sinks_16 n x1 y5 u2 else some (x2, u2)))
set_option maxRecDepth 100000 in
set_option maxHeartbeats 4000000 in
theorem kX7_sinks_16 {ad adK adV : Nat → Nat} {tS tF : Nat} {tX sK sV : Nat → Nat} {p : Program} {l : Launch} {e : Env} {s : State} {m : MethodId} {args : Array Value} {below : List Frame} {meth : Method} {c : Code} {A : Nat → Prop} {D : va_G} {cI cF cC cS cO cB cZ : ClassId} {Q : State → Prop} {q0 qs qo qt qv qr qx ql : Nat → Nat} {qh : Nat → Nat → Nat} (C : vC (vE ad adK adV tS tF tX sK sV) p l s m args meth c A D (vT7 cI cF cC cS cO cB cZ) cX7_sinks 3 RX7) {r0 : Int32} {u0 : vZ} (RET : ∀ (pc : Nat) (lv : List (Nat × Value)), decode cX7_sinks pc = .ok (.ireturn, 1) → vV p l e { frames := 3, cells := 0, slots := 0, locals := 70 } s m args below meth c A D 3 0 0 Q (wX q0 qs qo qt qv qr qx ql ad qh cI cF cC cS cO u0) pc lv [.int r0]) : ∀ (n : Nat) (x1 : Int32) (x2 : Int32) (u : vZ), fX7_sinks_16 n x1 x2 u = some (r0, u0) → vV p l e { frames := 3, cells := 0, slots := 0, locals := 70 } s m args below meth c A D 3 0 0 Q (wX q0 qs qo qt qv qr qx ql ad qh cI cF cC cS cO u) 16 [(0, .ref (q0 0)), (1, .int x1), (2, .int x2)] [] := by
  intro n
  induction n with
  | zero => intro x1 x2 u h; rw [fX7_sinks_16] at h; cases h
  | succ n ih =>
    intro x1 x2 u h
    rw [fX7_sinks_16] at h
    refine vi_iload_n C 2 dX7_sinks_16 rfl ?_
    refine vi_bipush (v := 40) C dX7_sinks_17 (by decide) ?_
    refine vi_icmp_gt (tgt := 42) C dX7_sinks_19 (by decide) (fun hc1 => ?_) (fun hc1 => ?_)
    · have h := ob_t h hc1
      refine vi_ldc (v := (-100006)) C dX7_sinks_42 tkX7_194 ?_
      exact vi_donei (W := wX q0 qs qo qt qv qr qx ql ad qh cI cF cC cS cO) RET h dX7_sinks_44
    · have h := ob_f h hc1
      refine vi_aload_n C 0 dX7_sinks_22 rfl ?_
      refine gM_X7_0_0 C dX7_sinks_23 ?_
      refine vi_iload_n C 1 dX7_sinks_26 rfl ?_
      refine vi_iload_n C 2 dX7_sinks_27 rfl ?_
      obtain ⟨y3, u2b, hgu2, h⟩ := ob_p h
      obtain ⟨u2, eu2, h⟩ := ob_nm h
      refine cM_ship_i (As := [.int x1, .int x2]) (rest := []) C (mX5_angleAfter C.2.2.2.2.2.2.2.2.1 hgu2) 2 rfl tcX5_angleAfter tlX7_144 tiX5_angleAfter tsX5_angleAfter rfl tnX5 tdX5_angleAfter ⟨Nat.le_of_ble_eq_true rfl, Nat.le_of_ble_eq_true rfl⟩ eu2 rfl (Nat.le_of_ble_eq_true rfl) dX7_sinks_28 ?_
      refine vi_if_gt (tgt := 36) C dX7_sinks_31 (by decide) (fun hc4 => ?_) (fun hc4 => ?_)
      · have h := ob_t h hc4
        obtain ⟨y5, ey5, h⟩ := ob_nm h
        refine vi_iinc (v := y5) (lv' := [(2, .int y5), (0, .ref (q0 0)), (1, .int x1)]) C 2 dX7_sinks_36 rfl (by rw [ey5]; rfl) (by decide) rfl ?_
        refine vi_goto (tgt := 16) C dX7_sinks_39 (by decide) ?_
        refine vi_sub C [1, 2, 0] rfl ?_
        exact ih _ _ _ h
      · have h := ob_f h hc4
        refine vi_iload_n C 2 dX7_sinks_34 rfl ?_
        exact vi_donei (W := wX q0 qs qo qt qv qr qx ql ad qh cI cF cC cS cO) RET h dX7_sinks_35
def fX7_sinks (x1 : Int32) (u : vZ) : Option (Int32 × vZ) := obp (fX5_hasSailor x1 u.2.1.1) fun y2 u1b => bd ((u.1, ((u1b, u.2.1.2), u.2.2))) fun u1 => (if y2 = 0 then some ((-100001 : Int32), u1) else fX7_sinks_16 vF x1 (0 : Int32) u1)
set_option maxRecDepth 100000 in
set_option maxHeartbeats 4000000 in
theorem kX7_sinks_e {ad adK adV : Nat → Nat} {tS tF : Nat} {tX sK sV : Nat → Nat} {p : Program} {l : Launch} {e : Env} {s : State} {m : MethodId} {args : Array Value} {below : List Frame} {meth : Method} {c : Code} {A : Nat → Prop} {D : va_G} {cI cF cC cS cO cB cZ : ClassId} {Q : State → Prop} {q0 qs qo qt qv qr qx ql : Nat → Nat} {qh : Nat → Nat → Nat} (C : vC (vE ad adK adV tS tF tX sK sV) p l s m args meth c A D (vT7 cI cF cC cS cO cB cZ) cX7_sinks 3 RX7) {r0 : Int32} {u0 : vZ} (RET : ∀ (pc : Nat) (lv : List (Nat × Value)), decode cX7_sinks pc = .ok (.ireturn, 1) → vV p l e { frames := 3, cells := 0, slots := 0, locals := 70 } s m args below meth c A D 3 0 0 Q (wX q0 qs qo qt qv qr qx ql ad qh cI cF cC cS cO u0) pc lv [.int r0]) {x1 : Int32} {u : vZ} (h : fX7_sinks x1 u = some (r0, u0)) : vV p l e { frames := 3, cells := 0, slots := 0, locals := 70 } s m args below meth c A D 3 0 0 Q (wX q0 qs qo qt qv qr qx ql ad qh cI cF cC cS cO u) 0 [(0, .ref (q0 0)), (1, .int x1)] [] := by
  rw [fX7_sinks] at h
  refine vi_aload_n C 0 dX7_sinks_0 rfl ?_
  refine gM_X7_0_0 C dX7_sinks_1 ?_
  refine vi_iload_n C 1 dX7_sinks_4 rfl ?_
  obtain ⟨y2, u1b, hgu1, h⟩ := ob_p h
  obtain ⟨u1, eu1, h⟩ := ob_nm h
  refine cM_ship_i (As := [.int x1]) (rest := []) C (mX5_hasSailor C.2.2.2.2.2.2.2.2.1 hgu1) 1 rfl tcX5_hasSailor tlX7_74 tiX5_hasSailor tsX5_hasSailor rfl tnX5 tdX5_hasSailor ⟨Nat.le_of_ble_eq_true rfl, Nat.le_of_ble_eq_true rfl⟩ eu1 rfl (Nat.le_of_ble_eq_true rfl) dX7_sinks_5 ?_
  refine vi_if_ne (tgt := 14) C dX7_sinks_8 (by decide) (fun hc3 => ?_) (fun hc3 => ?_)
  · have h := ob_f h hc3
    refine vi_iconst (v := 0) C dX7_sinks_14 (by decide) ?_
    refine vi_istore_n (lv' := [(2, .int (0 : Int32)), (0, .ref (q0 0)), (1, .int x1)]) C dX7_sinks_15 rfl (by decide) rfl ?_
    refine vi_sub C [1, 2, 0] rfl ?_
    exact kX7_sinks_16 C RET  vF _ _ _ h
  · have h := ob_t h hc3
    refine vi_ldc (v := (-100001)) C dX7_sinks_11 tkX7_77 ?_
    exact vi_donei (W := wX q0 qs qo qt qv qr qx ql ad qh cI cF cC cS cO) RET h dX7_sinks_13
theorem mX7_sinks {ad adK adV : Nat → Nat} {tS tF : Nat} {tX sK sV : Nat → Nat} (hE : vEok (vE ad adK adV tS tF tX sK sV)) {l : Launch} {D : va_G} {cI cF cC cS cO cB cZ : ClassId} {q0 qs qo qt qv qr qx ql : Nat → Nat} {qh : Nat → Nat → Nat} {r0 : Int32} {u0 : vZ}  {x1 : Int32} {u : vZ} (h : fX7_sinks x1 u = some (r0, u0)) : vM (vE ad adK adV tS tF tX sK sV) l yX7_sinks cX7_sinks 3 (some .int) 3 70 D (vT7 cI cF cC cS cO cB cZ) [.ref (q0 0), .int x1] (wX q0 qs qo qt qv qr qx ql ad qh cI cF cC cS cO u) (vQi D (wX q0 qs qo qt qv qr qx ql ad qh cI cF cC cS cO u0) r0) :=
  vM_of hE (by decide +kernel) (Nat.le_of_ble_eq_true rfl) (fun p e s m args below meth c A C hr => kX7_sinks_e C (vi_reti C hr) h)
-- ---- X7_messes
def fX7_messes (u : vZ) : Option (Int32 × vZ) := obp (fX5_allMesses u.2.1.1) fun y2 u1b => bd ((u.1, ((u1b, u.2.1.2), u.2.2))) fun u1 => some (y2, u1)
set_option maxRecDepth 100000 in
set_option maxHeartbeats 4000000 in
theorem kX7_messes_e {ad adK adV : Nat → Nat} {tS tF : Nat} {tX sK sV : Nat → Nat} {p : Program} {l : Launch} {e : Env} {s : State} {m : MethodId} {args : Array Value} {below : List Frame} {meth : Method} {c : Code} {A : Nat → Prop} {D : va_G} {cI cF cC cS cO cB cZ : ClassId} {Q : State → Prop} {q0 qs qo qt qv qr qx ql : Nat → Nat} {qh : Nat → Nat → Nat} (C : vC (vE ad adK adV tS tF tX sK sV) p l s m args meth c A D (vT7 cI cF cC cS cO cB cZ) cX7_messes 1 RX7) {r0 : Int32} {u0 : vZ} (RET : ∀ (pc : Nat) (lv : List (Nat × Value)), decode cX7_messes pc = .ok (.ireturn, 1) → vV p l e { frames := 6, cells := 0, slots := 0, locals := 134 } s m args below meth c A D 1 0 0 Q (wX q0 qs qo qt qv qr qx ql ad qh cI cF cC cS cO u0) pc lv [.int r0]) {u : vZ} (h : fX7_messes u = some (r0, u0)) : vV p l e { frames := 6, cells := 0, slots := 0, locals := 134 } s m args below meth c A D 1 0 0 Q (wX q0 qs qo qt qv qr qx ql ad qh cI cF cC cS cO u) 0 [(0, .ref (q0 0))] [] := by
  rw [fX7_messes] at h
  refine vi_aload_n C 0 dX7_messes_0 rfl ?_
  refine gM_X7_0_0 C dX7_messes_1 ?_
  obtain ⟨y2, u1b, hgu1, h⟩ := ob_p h
  obtain ⟨u1, eu1, h⟩ := ob_nm h
  refine cM_ship_i (As := []) (rest := []) C (mX5_allMesses C.2.2.2.2.2.2.2.2.1 hgu1) 0 rfl tcX5_allMesses tlX7_213 tiX5_allMesses tsX5_allMesses rfl tnX5 tdX5_allMesses ⟨Nat.le_of_ble_eq_true rfl, Nat.le_of_ble_eq_true rfl⟩ eu1 rfl (Nat.le_of_ble_eq_true rfl) dX7_messes_4 ?_
  exact vi_donei (W := wX q0 qs qo qt qv qr qx ql ad qh cI cF cC cS cO) RET h dX7_messes_7
theorem mX7_messes {ad adK adV : Nat → Nat} {tS tF : Nat} {tX sK sV : Nat → Nat} (hE : vEok (vE ad adK adV tS tF tX sK sV)) {l : Launch} {D : va_G} {cI cF cC cS cO cB cZ : ClassId} {q0 qs qo qt qv qr qx ql : Nat → Nat} {qh : Nat → Nat → Nat} {r0 : Int32} {u0 : vZ}  {u : vZ} (h : fX7_messes u = some (r0, u0)) : vM (vE ad adK adV tS tF tX sK sV) l yX7_messes cX7_messes 1 (some .int) 6 134 D (vT7 cI cF cC cS cO cB cZ) [.ref (q0 0)] (wX q0 qs qo qt qv qr qx ql ad qh cI cF cC cS cO u) (vQi D (wX q0 qs qo qt qv qr qx ql ad qh cI cF cC cS cO u0) r0) :=
  vM_of hE (by decide +kernel) (Nat.le_of_ble_eq_true rfl) (fun p e s m args below meth c A C hr => kX7_messes_e C (vi_reti C hr) h)
-- ---- X7_highest
def fX7_highest_2 : Nat → Int32 → Int32 → vZ → Option (Int32 × vZ)
  | 0, _, _, _ => none
  | n + 1, x1, x2, u => (if u.2.1.1.1 0 0 ≤ x2 then some ((-100001 : Int32), u) else obp (fX5_placeOfSailor x2 u.2.1.1) fun y3 u2b => bd ((u.1, ((u2b, u.2.1.2), u.2.2))) fun u2 => (if y3 = x1 then some (x2, u2) else bd ((x2 + 1 : Int32)) fun y5 => fX7_highest_2 n x1 y5 u2))
set_option maxRecDepth 100000 in
set_option maxHeartbeats 4000000 in
theorem kX7_highest_2 {ad adK adV : Nat → Nat} {tS tF : Nat} {tX sK sV : Nat → Nat} {p : Program} {l : Launch} {e : Env} {s : State} {m : MethodId} {args : Array Value} {below : List Frame} {meth : Method} {c : Code} {A : Nat → Prop} {D : va_G} {cI cF cC cS cO cB cZ : ClassId} {Q : State → Prop} {q0 qs qo qt qv qr qx ql : Nat → Nat} {qh : Nat → Nat → Nat} (C : vC (vE ad adK adV tS tF tX sK sV) p l s m args meth c A D (vT7 cI cF cC cS cO cB cZ) cX7_highest 3 RX7) {r0 : Int32} {u0 : vZ} (RET : ∀ (pc : Nat) (lv : List (Nat × Value)), decode cX7_highest pc = .ok (.ireturn, 1) → vV p l e { frames := 5, cells := 0, slots := 0, locals := 119 } s m args below meth c A D 3 0 0 Q (wX q0 qs qo qt qv qr qx ql ad qh cI cF cC cS cO u0) pc lv [.int r0]) : ∀ (n : Nat) (x1 : Int32) (x2 : Int32) (u : vZ), fX7_highest_2 n x1 x2 u = some (r0, u0) → vV p l e { frames := 5, cells := 0, slots := 0, locals := 119 } s m args below meth c A D 3 0 0 Q (wX q0 qs qo qt qv qr qx ql ad qh cI cF cC cS cO u) 2 [(0, .ref (q0 0)), (1, .int x1), (2, .int x2)] [] := by
  intro n
  induction n with
  | zero => intro x1 x2 u h; rw [fX7_highest_2] at h; cases h
  | succ n ih =>
    intro x1 x2 u h
    rw [fX7_highest_2] at h
    refine vi_iload_n C 2 dX7_highest_2 rfl ?_
    refine vi_aload_n C 0 dX7_highest_3 rfl ?_
    refine gM_X7_0_0 C dX7_highest_4 ?_
    refine gM_X7_1_0 C dX7_highest_7 ?_
    refine vi_icmp_ge (tgt := 33) C dX7_highest_10 (by decide) (fun hc1 => ?_) (fun hc1 => ?_)
    · have h := ob_t h hc1
      refine vi_ldc (v := (-100001)) C dX7_highest_33 tkX7_77 ?_
      exact vi_donei (W := wX q0 qs qo qt qv qr qx ql ad qh cI cF cC cS cO) RET h dX7_highest_35
    · have h := ob_f h hc1
      refine vi_aload_n C 0 dX7_highest_13 rfl ?_
      refine gM_X7_0_0 C dX7_highest_14 ?_
      refine vi_iload_n C 2 dX7_highest_17 rfl ?_
      obtain ⟨y3, u2b, hgu2, h⟩ := ob_p h
      obtain ⟨u2, eu2, h⟩ := ob_nm h
      refine cM_ship_i (As := [.int x2]) (rest := []) C (mX5_placeOfSailor C.2.2.2.2.2.2.2.2.1 hgu2) 1 rfl tcX5_placeOfSailor tlX7_216 tiX5_placeOfSailor tsX5_placeOfSailor rfl tnX5 tdX5_placeOfSailor ⟨Nat.le_of_ble_eq_true rfl, Nat.le_of_ble_eq_true rfl⟩ eu2 rfl (Nat.le_of_ble_eq_true rfl) dX7_highest_18 ?_
      refine vi_iload_n C 1 dX7_highest_21 rfl ?_
      refine vi_icmp_ne (tgt := 27) C dX7_highest_22 (by decide) (fun hc4 => ?_) (fun hc4 => ?_)
      · have h := ob_f h hc4
        obtain ⟨y5, ey5, h⟩ := ob_nm h
        refine vi_iinc (v := y5) (lv' := [(2, .int y5), (0, .ref (q0 0)), (1, .int x1)]) C 2 dX7_highest_27 rfl (by rw [ey5]; rfl) (by decide) rfl ?_
        refine vi_goto (tgt := 2) C dX7_highest_30 (by decide) ?_
        refine vi_sub C [1, 2, 0] rfl ?_
        exact ih _ _ _ h
      · have h := ob_t h hc4
        refine vi_iload_n C 2 dX7_highest_25 rfl ?_
        exact vi_donei (W := wX q0 qs qo qt qv qr qx ql ad qh cI cF cC cS cO) RET h dX7_highest_26
def fX7_highest (x1 : Int32) (u : vZ) : Option (Int32 × vZ) := fX7_highest_2 vF x1 (0 : Int32) u
set_option maxRecDepth 100000 in
set_option maxHeartbeats 4000000 in
theorem kX7_highest_e {ad adK adV : Nat → Nat} {tS tF : Nat} {tX sK sV : Nat → Nat} {p : Program} {l : Launch} {e : Env} {s : State} {m : MethodId} {args : Array Value} {below : List Frame} {meth : Method} {c : Code} {A : Nat → Prop} {D : va_G} {cI cF cC cS cO cB cZ : ClassId} {Q : State → Prop} {q0 qs qo qt qv qr qx ql : Nat → Nat} {qh : Nat → Nat → Nat} (C : vC (vE ad adK adV tS tF tX sK sV) p l s m args meth c A D (vT7 cI cF cC cS cO cB cZ) cX7_highest 3 RX7) {r0 : Int32} {u0 : vZ} (RET : ∀ (pc : Nat) (lv : List (Nat × Value)), decode cX7_highest pc = .ok (.ireturn, 1) → vV p l e { frames := 5, cells := 0, slots := 0, locals := 119 } s m args below meth c A D 3 0 0 Q (wX q0 qs qo qt qv qr qx ql ad qh cI cF cC cS cO u0) pc lv [.int r0]) {x1 : Int32} {u : vZ} (h : fX7_highest x1 u = some (r0, u0)) : vV p l e { frames := 5, cells := 0, slots := 0, locals := 119 } s m args below meth c A D 3 0 0 Q (wX q0 qs qo qt qv qr qx ql ad qh cI cF cC cS cO u) 0 [(0, .ref (q0 0)), (1, .int x1)] [] := by
  rw [fX7_highest] at h
  refine vi_iconst (v := 0) C dX7_highest_0 (by decide) ?_
  refine vi_istore_n (lv' := [(2, .int (0 : Int32)), (0, .ref (q0 0)), (1, .int x1)]) C dX7_highest_1 rfl (by decide) rfl ?_
  refine vi_sub C [1, 2, 0] rfl ?_
  exact kX7_highest_2 C RET  vF _ _ _ h
theorem mX7_highest {ad adK adV : Nat → Nat} {tS tF : Nat} {tX sK sV : Nat → Nat} (hE : vEok (vE ad adK adV tS tF tX sK sV)) {l : Launch} {D : va_G} {cI cF cC cS cO cB cZ : ClassId} {q0 qs qo qt qv qr qx ql : Nat → Nat} {qh : Nat → Nat → Nat} {r0 : Int32} {u0 : vZ}  {x1 : Int32} {u : vZ} (h : fX7_highest x1 u = some (r0, u0)) : vM (vE ad adK adV tS tF tX sK sV) l yX7_highest cX7_highest 3 (some .int) 5 119 D (vT7 cI cF cC cS cO cB cZ) [.ref (q0 0), .int x1] (wX q0 qs qo qt qv qr qx ql ad qh cI cF cC cS cO u) (vQi D (wX q0 qs qo qt qv qr qx ql ad qh cI cF cC cS cO u0) r0) :=
  vM_of hE (by decide +kernel) (Nat.le_of_ble_eq_true rfl) (fun p e s m args below meth c A C hr => kX7_highest_e C (vi_reti C hr) h)
-- ---- X7_ranked
def fX7_ranked_2 : Nat → Int32 → Int32 → vZ → Option (Int32 × vZ)
  | 0, _, _, _ => none
  | n + 1, x1, x2, u => (if u.2.1.1.1 0 7 ≤ x2 then some ((-100001 : Int32), u) else obp (fX5_placeOfSight x2 u.2.1.1) fun y3 u2b => bd ((u.1, ((u2b, u.2.1.2), u.2.2))) fun u2 => (if y3 = x1 then some (x2, u2) else bd ((x2 + 1 : Int32)) fun y5 => fX7_ranked_2 n x1 y5 u2))
set_option maxRecDepth 100000 in
set_option maxHeartbeats 4000000 in
theorem kX7_ranked_2 {ad adK adV : Nat → Nat} {tS tF : Nat} {tX sK sV : Nat → Nat} {p : Program} {l : Launch} {e : Env} {s : State} {m : MethodId} {args : Array Value} {below : List Frame} {meth : Method} {c : Code} {A : Nat → Prop} {D : va_G} {cI cF cC cS cO cB cZ : ClassId} {Q : State → Prop} {q0 qs qo qt qv qr qx ql : Nat → Nat} {qh : Nat → Nat → Nat} (C : vC (vE ad adK adV tS tF tX sK sV) p l s m args meth c A D (vT7 cI cF cC cS cO cB cZ) cX7_ranked 3 RX7) {r0 : Int32} {u0 : vZ} (RET : ∀ (pc : Nat) (lv : List (Nat × Value)), decode cX7_ranked pc = .ok (.ireturn, 1) → vV p l e { frames := 2, cells := 0, slots := 0, locals := 45 } s m args below meth c A D 3 0 0 Q (wX q0 qs qo qt qv qr qx ql ad qh cI cF cC cS cO u0) pc lv [.int r0]) : ∀ (n : Nat) (x1 : Int32) (x2 : Int32) (u : vZ), fX7_ranked_2 n x1 x2 u = some (r0, u0) → vV p l e { frames := 2, cells := 0, slots := 0, locals := 45 } s m args below meth c A D 3 0 0 Q (wX q0 qs qo qt qv qr qx ql ad qh cI cF cC cS cO u) 2 [(0, .ref (q0 0)), (1, .int x1), (2, .int x2)] [] := by
  intro n
  induction n with
  | zero => intro x1 x2 u h; rw [fX7_ranked_2] at h; cases h
  | succ n ih =>
    intro x1 x2 u h
    rw [fX7_ranked_2] at h
    refine vi_iload_n C 2 dX7_ranked_2 rfl ?_
    refine vi_aload_n C 0 dX7_ranked_3 rfl ?_
    refine gM_X7_0_0 C dX7_ranked_4 ?_
    refine gM_X7_1_7 C dX7_ranked_7 ?_
    refine vi_icmp_ge (tgt := 33) C dX7_ranked_10 (by decide) (fun hc1 => ?_) (fun hc1 => ?_)
    · have h := ob_t h hc1
      refine vi_ldc (v := (-100001)) C dX7_ranked_33 tkX7_77 ?_
      exact vi_donei (W := wX q0 qs qo qt qv qr qx ql ad qh cI cF cC cS cO) RET h dX7_ranked_35
    · have h := ob_f h hc1
      refine vi_aload_n C 0 dX7_ranked_13 rfl ?_
      refine gM_X7_0_0 C dX7_ranked_14 ?_
      refine vi_iload_n C 2 dX7_ranked_17 rfl ?_
      obtain ⟨y3, u2b, hgu2, h⟩ := ob_p h
      obtain ⟨u2, eu2, h⟩ := ob_nm h
      refine cM_ship_i (As := [.int x2]) (rest := []) C (mX5_placeOfSight C.2.2.2.2.2.2.2.2.1 hgu2) 1 rfl tcX5_placeOfSight tlX7_219 tiX5_placeOfSight tsX5_placeOfSight rfl tnX5 tdX5_placeOfSight ⟨Nat.le_of_ble_eq_true rfl, Nat.le_of_ble_eq_true rfl⟩ eu2 rfl (Nat.le_of_ble_eq_true rfl) dX7_ranked_18 ?_
      refine vi_iload_n C 1 dX7_ranked_21 rfl ?_
      refine vi_icmp_ne (tgt := 27) C dX7_ranked_22 (by decide) (fun hc4 => ?_) (fun hc4 => ?_)
      · have h := ob_f h hc4
        obtain ⟨y5, ey5, h⟩ := ob_nm h
        refine vi_iinc (v := y5) (lv' := [(2, .int y5), (0, .ref (q0 0)), (1, .int x1)]) C 2 dX7_ranked_27 rfl (by rw [ey5]; rfl) (by decide) rfl ?_
        refine vi_goto (tgt := 2) C dX7_ranked_30 (by decide) ?_
        refine vi_sub C [1, 2, 0] rfl ?_
        exact ih _ _ _ h
      · have h := ob_t h hc4
        refine vi_iload_n C 2 dX7_ranked_25 rfl ?_
        exact vi_donei (W := wX q0 qs qo qt qv qr qx ql ad qh cI cF cC cS cO) RET h dX7_ranked_26
def fX7_ranked (x1 : Int32) (u : vZ) : Option (Int32 × vZ) := fX7_ranked_2 vF x1 (0 : Int32) u
set_option maxRecDepth 100000 in
set_option maxHeartbeats 4000000 in
theorem kX7_ranked_e {ad adK adV : Nat → Nat} {tS tF : Nat} {tX sK sV : Nat → Nat} {p : Program} {l : Launch} {e : Env} {s : State} {m : MethodId} {args : Array Value} {below : List Frame} {meth : Method} {c : Code} {A : Nat → Prop} {D : va_G} {cI cF cC cS cO cB cZ : ClassId} {Q : State → Prop} {q0 qs qo qt qv qr qx ql : Nat → Nat} {qh : Nat → Nat → Nat} (C : vC (vE ad adK adV tS tF tX sK sV) p l s m args meth c A D (vT7 cI cF cC cS cO cB cZ) cX7_ranked 3 RX7) {r0 : Int32} {u0 : vZ} (RET : ∀ (pc : Nat) (lv : List (Nat × Value)), decode cX7_ranked pc = .ok (.ireturn, 1) → vV p l e { frames := 2, cells := 0, slots := 0, locals := 45 } s m args below meth c A D 3 0 0 Q (wX q0 qs qo qt qv qr qx ql ad qh cI cF cC cS cO u0) pc lv [.int r0]) {x1 : Int32} {u : vZ} (h : fX7_ranked x1 u = some (r0, u0)) : vV p l e { frames := 2, cells := 0, slots := 0, locals := 45 } s m args below meth c A D 3 0 0 Q (wX q0 qs qo qt qv qr qx ql ad qh cI cF cC cS cO u) 0 [(0, .ref (q0 0)), (1, .int x1)] [] := by
  rw [fX7_ranked] at h
  refine vi_iconst (v := 0) C dX7_ranked_0 (by decide) ?_
  refine vi_istore_n (lv' := [(2, .int (0 : Int32)), (0, .ref (q0 0)), (1, .int x1)]) C dX7_ranked_1 rfl (by decide) rfl ?_
  refine vi_sub C [1, 2, 0] rfl ?_
  exact kX7_ranked_2 C RET  vF _ _ _ h
theorem mX7_ranked {ad adK adV : Nat → Nat} {tS tF : Nat} {tX sK sV : Nat → Nat} (hE : vEok (vE ad adK adV tS tF tX sK sV)) {l : Launch} {D : va_G} {cI cF cC cS cO cB cZ : ClassId} {q0 qs qo qt qv qr qx ql : Nat → Nat} {qh : Nat → Nat → Nat} {r0 : Int32} {u0 : vZ}  {x1 : Int32} {u : vZ} (h : fX7_ranked x1 u = some (r0, u0)) : vM (vE ad adK adV tS tF tX sK sV) l yX7_ranked cX7_ranked 3 (some .int) 2 45 D (vT7 cI cF cC cS cO cB cZ) [.ref (q0 0), .int x1] (wX q0 qs qo qt qv qr qx ql ad qh cI cF cC cS cO u) (vQi D (wX q0 qs qo qt qv qr qx ql ad qh cI cF cC cS cO u0) r0) :=
  vM_of hE (by decide +kernel) (Nat.le_of_ble_eq_true rfl) (fun p e s m args below meth c A C hr => kX7_ranked_e C (vi_reti C hr) h)
-- ---- X7_packed
def fX7_packed_4 : Nat → Int64 → Int32 → vZ → Option (Int64 × vZ)
  | 0, _, _, _ => none
  | n + 1, x1, x2, u => (if (4 : Int32) ≤ x2 then some (x1, u) else (if u.2.1.1.1 0 0 ≤ x2 then some (x1, u) else if x2 < 0 ∨ 8 ≤ Int32.toNatClampNeg x2 then none else bd ((x1 ||| ((Int32.toInt64 (u.2.1.1.1 1 (Int32.toNatClampNeg x2))) <<< (Int32.toInt64 ((16 : Int32) * x2) &&& 63)) : Int64)) fun y4 => bd ((x2 + 1 : Int32)) fun y5 => fX7_packed_4 n y4 y5 u))
set_option maxRecDepth 100000 in
set_option maxHeartbeats 4000000 in
theorem kX7_packed_4 {ad adK adV : Nat → Nat} {tS tF : Nat} {tX sK sV : Nat → Nat} {p : Program} {l : Launch} {e : Env} {s : State} {m : MethodId} {args : Array Value} {below : List Frame} {meth : Method} {c : Code} {A : Nat → Prop} {D : va_G} {cI cF cC cS cO cB cZ : ClassId} {Q : State → Prop} {q0 qs qo qt qv qr qx ql : Nat → Nat} {qh : Nat → Nat → Nat} (C : vC (vE ad adK adV tS tF tX sK sV) p l s m args meth c A D (vT7 cI cF cC cS cO cB cZ) cX7_packed 4 RX7) {r0 : Int64} {u0 : vZ} (RET : ∀ (pc : Nat) (lv : List (Nat × Value)), decode cX7_packed pc = .ok (.lreturn, 1) → vV p l e { frames := 0, cells := 0, slots := 0, locals := 0 } s m args below meth c A D 4 0 0 Q (wX q0 qs qo qt qv qr qx ql ad qh cI cF cC cS cO u0) pc lv [.long r0]) : ∀ (n : Nat) (x1 : Int64) (x2 : Int32) (u : vZ), fX7_packed_4 n x1 x2 u = some (r0, u0) → vV p l e { frames := 0, cells := 0, slots := 0, locals := 0 } s m args below meth c A D 4 0 0 Q (wX q0 qs qo qt qv qr qx ql ad qh cI cF cC cS cO u) 4 [(0, .ref (q0 0)), (1, .long x1), (3, .int x2)] [] := by
  intro n
  induction n with
  | zero => intro x1 x2 u h; rw [fX7_packed_4] at h; cases h
  | succ n ih =>
    intro x1 x2 u h
    rw [fX7_packed_4] at h
    refine vi_iload_n C 2 dX7_packed_4 rfl ?_
    refine vi_iconst (v := 4) C dX7_packed_5 (by decide) ?_
    refine vi_icmp_ge (tgt := 44) C dX7_packed_6 (by decide) (fun hc1 => ?_) (fun hc1 => ?_)
    · have h := ob_t h hc1
      refine vi_lload_n C 1 dX7_packed_44 rfl ?_
      exact vi_donel (W := wX q0 qs qo qt qv qr qx ql ad qh cI cF cC cS cO) RET h dX7_packed_45
    · have h := ob_f h hc1
      refine vi_iload_n C 2 dX7_packed_9 rfl ?_
      refine vi_aload_n C 0 dX7_packed_10 rfl ?_
      refine gM_X7_0_0 C dX7_packed_11 ?_
      refine gM_X7_1_0 C dX7_packed_14 ?_
      refine vi_icmp_ge (tgt := 44) C dX7_packed_17 (by decide) (fun hc2 => ?_) (fun hc2 => ?_)
      · have h := ob_t h hc2
        refine vi_lload_n C 1 dX7_packed_44 rfl ?_
        exact vi_donel (W := wX q0 qs qo qt qv qr qx ql ad qh cI cF cC cS cO) RET h dX7_packed_45
      · have h := ob_f h hc2
        refine vi_lload_n C 1 dX7_packed_20 rfl ?_
        refine vi_aload_n C 0 dX7_packed_21 rfl ?_
        refine gM_X7_0_0 C dX7_packed_22 ?_
        refine gM_X7_1_1 C dX7_packed_25 ?_
        refine vi_iload_n C 2 dX7_packed_28 rfl ?_
        obtain ⟨hz3, h⟩ := ob_if h
        refine lM_X7_2 (n := (Int32.toNatClampNeg x2)) C hz3 rfl dX7_packed_29 ?_
        refine vi_i2l C dX7_packed_30 ?_
        refine vi_bipush (v := 16) C dX7_packed_31 (by decide) ?_
        refine vi_iload_n C 2 dX7_packed_33 rfl ?_
        refine vi_imul C dX7_packed_34 ?_
        refine vi_lshl C dX7_packed_35 ?_
        refine vi_lor C dX7_packed_36 ?_
        obtain ⟨y4, ey4, h⟩ := ob_nm h
        refine vi_nml ey4 ?_
        refine vi_lstore_n (lv' := [(1, .long y4), (0, .ref (q0 0)), (3, .int x2)]) C dX7_packed_37 rfl (by decide) rfl ?_
        obtain ⟨y5, ey5, h⟩ := ob_nm h
        refine vi_iinc (v := y5) (lv' := [(3, .int y5), (1, .long y4), (0, .ref (q0 0))]) C 2 dX7_packed_38 rfl (by rw [ey5]; rfl) (by decide) rfl ?_
        refine vi_goto (tgt := 4) C dX7_packed_41 (by decide) ?_
        refine vi_sub C [2, 1, 0] rfl ?_
        exact ih _ _ _ h
def fX7_packed (u : vZ) : Option (Int64 × vZ) := fX7_packed_4 vF (0 : Int64) (0 : Int32) u
set_option maxRecDepth 100000 in
set_option maxHeartbeats 4000000 in
theorem kX7_packed_e {ad adK adV : Nat → Nat} {tS tF : Nat} {tX sK sV : Nat → Nat} {p : Program} {l : Launch} {e : Env} {s : State} {m : MethodId} {args : Array Value} {below : List Frame} {meth : Method} {c : Code} {A : Nat → Prop} {D : va_G} {cI cF cC cS cO cB cZ : ClassId} {Q : State → Prop} {q0 qs qo qt qv qr qx ql : Nat → Nat} {qh : Nat → Nat → Nat} (C : vC (vE ad adK adV tS tF tX sK sV) p l s m args meth c A D (vT7 cI cF cC cS cO cB cZ) cX7_packed 4 RX7) {r0 : Int64} {u0 : vZ} (RET : ∀ (pc : Nat) (lv : List (Nat × Value)), decode cX7_packed pc = .ok (.lreturn, 1) → vV p l e { frames := 0, cells := 0, slots := 0, locals := 0 } s m args below meth c A D 4 0 0 Q (wX q0 qs qo qt qv qr qx ql ad qh cI cF cC cS cO u0) pc lv [.long r0]) {u : vZ} (h : fX7_packed u = some (r0, u0)) : vV p l e { frames := 0, cells := 0, slots := 0, locals := 0 } s m args below meth c A D 4 0 0 Q (wX q0 qs qo qt qv qr qx ql ad qh cI cF cC cS cO u) 0 [(0, .ref (q0 0))] [] := by
  rw [fX7_packed] at h
  refine vi_lconst (v := 0) C dX7_packed_0 (by decide) ?_
  refine vi_lstore_n (lv' := [(1, .long (0 : Int64)), (0, .ref (q0 0))]) C dX7_packed_1 rfl (by decide) rfl ?_
  refine vi_iconst (v := 0) C dX7_packed_2 (by decide) ?_
  refine vi_istore_n (lv' := [(3, .int (0 : Int32)), (1, .long (0 : Int64)), (0, .ref (q0 0))]) C dX7_packed_3 rfl (by decide) rfl ?_
  refine vi_sub C [2, 1, 0] rfl ?_
  exact kX7_packed_4 C RET  vF _ _ _ h
theorem mX7_packed {ad adK adV : Nat → Nat} {tS tF : Nat} {tX sK sV : Nat → Nat} (hE : vEok (vE ad adK adV tS tF tX sK sV)) {l : Launch} {D : va_G} {cI cF cC cS cO cB cZ : ClassId} {q0 qs qo qt qv qr qx ql : Nat → Nat} {qh : Nat → Nat → Nat} {r0 : Int64} {u0 : vZ}  {u : vZ} (h : fX7_packed u = some (r0, u0)) : vM (vE ad adK adV tS tF tX sK sV) l yX7_packed cX7_packed 4 (some .long) 0 0 D (vT7 cI cF cC cS cO cB cZ) [.ref (q0 0)] (wX q0 qs qo qt qv qr qx ql ad qh cI cF cC cS cO u) (vQl D (wX q0 qs qo qt qv qr qx ql ad qh cI cF cC cS cO u0) r0) :=
  vM_of hE (by decide +kernel) (Nat.le_of_ble_eq_true rfl) (fun p e s m args below meth c A C hr => kX7_packed_e C (vi_retl C hr) h)
-- ---- X7_isCounted
def fX7_isCounted (u : vZ) : Option (Int32 × vZ) := obp (fX5_isUnlikeAlike u.2.1.1) fun y2 u1b => bd ((u.1, ((u1b, u.2.1.2), u.2.2))) fun u1 => (if y2 = 0 then some ((0 : Int32), u1) else obp (fX5_isFixAlike u1.2.1.1) fun y5 u4b => bd ((u1.1, ((u4b, u1.2.1.2), u1.2.2))) fun u4 => (if y5 = 0 then some ((0 : Int32), u4) else obp (fX5_isLogOfCrew u4.2.1.1) fun y8 u7b => bd ((u4.1, ((u7b, u4.2.1.2), u4.2.2))) fun u7 => (if y8 = 0 then some ((0 : Int32), u7) else obp (fX5_isRumCounted u7.2.1.1) fun y11 u10b => bd ((u7.1, ((u10b, u7.2.1.2), u7.2.2))) fun u10 => (if y11 = 0 then some ((0 : Int32), u10) else some ((1 : Int32), u10)))))
set_option maxRecDepth 100000 in
set_option maxHeartbeats 4000000 in
theorem kX7_isCounted_e {ad adK adV : Nat → Nat} {tS tF : Nat} {tX sK sV : Nat → Nat} {p : Program} {l : Launch} {e : Env} {s : State} {m : MethodId} {args : Array Value} {below : List Frame} {meth : Method} {c : Code} {A : Nat → Prop} {D : va_G} {cI cF cC cS cO cB cZ : ClassId} {Q : State → Prop} {q0 qs qo qt qv qr qx ql : Nat → Nat} {qh : Nat → Nat → Nat} (C : vC (vE ad adK adV tS tF tX sK sV) p l s m args meth c A D (vT7 cI cF cC cS cO cB cZ) cX7_isCounted 1 RX7) {r0 : Int32} {u0 : vZ} (RET : ∀ (pc : Nat) (lv : List (Nat × Value)), decode cX7_isCounted pc = .ok (.ireturn, 1) → (r0 = 0 ∨ r0 = 1) → vV p l e { frames := 4, cells := 0, slots := 0, locals := 88 } s m args below meth c A D 1 0 0 Q (wX q0 qs qo qt qv qr qx ql ad qh cI cF cC cS cO u0) pc lv [.int r0]) {u : vZ} (h : fX7_isCounted u = some (r0, u0)) : vV p l e { frames := 4, cells := 0, slots := 0, locals := 88 } s m args below meth c A D 1 0 0 Q (wX q0 qs qo qt qv qr qx ql ad qh cI cF cC cS cO u) 0 [(0, .ref (q0 0))] [] := by
  rw [fX7_isCounted] at h
  refine vi_aload_n C 0 dX7_isCounted_0 rfl ?_
  refine gM_X7_0_0 C dX7_isCounted_1 ?_
  obtain ⟨y2, u1b, hgu1, h⟩ := ob_p h
  obtain ⟨u1, eu1, h⟩ := ob_nm h
  refine cM_ship_i (As := []) (rest := []) C (mX5_isUnlikeAlike C.2.2.2.2.2.2.2.2.1 hgu1) 0 rfl tcX5_isUnlikeAlike tlX7_222 tiX5_isUnlikeAlike tsX5_isUnlikeAlike rfl tnX5 tdX5_isUnlikeAlike ⟨Nat.le_of_ble_eq_true rfl, Nat.le_of_ble_eq_true rfl⟩ eu1 rfl (Nat.le_of_ble_eq_true rfl) dX7_isCounted_4 ?_
  refine vi_if_eq (tgt := 44) C dX7_isCounted_7 (by decide) (fun hc3 => ?_) (fun hc3 => ?_)
  · have h := ob_t h hc3
    refine vi_iconst (v := 0) C dX7_isCounted_44 (by decide) ?_
    exact vi_donez (W := wX q0 qs qo qt qv qr qx ql ad qh cI cF cC cS cO) RET h (by decide) dX7_isCounted_45
  · have h := ob_f h hc3
    refine vi_aload_n C 0 dX7_isCounted_10 rfl ?_
    refine gM_X7_0_0 C dX7_isCounted_11 ?_
    obtain ⟨y5, u4b, hgu4, h⟩ := ob_p h
    obtain ⟨u4, eu4, h⟩ := ob_nm h
    refine cM_ship_i (As := []) (rest := []) C (mX5_isFixAlike C.2.2.2.2.2.2.2.2.1 hgu4) 0 rfl tcX5_isFixAlike tlX7_226 tiX5_isFixAlike tsX5_isFixAlike rfl tnX5 tdX5_isFixAlike ⟨Nat.le_of_ble_eq_true rfl, Nat.le_of_ble_eq_true rfl⟩ eu4 rfl (Nat.le_of_ble_eq_true rfl) dX7_isCounted_14 ?_
    refine vi_if_eq (tgt := 44) C dX7_isCounted_17 (by decide) (fun hc6 => ?_) (fun hc6 => ?_)
    · have h := ob_t h hc6
      refine vi_iconst (v := 0) C dX7_isCounted_44 (by decide) ?_
      exact vi_donez (W := wX q0 qs qo qt qv qr qx ql ad qh cI cF cC cS cO) RET h (by decide) dX7_isCounted_45
    · have h := ob_f h hc6
      refine vi_aload_n C 0 dX7_isCounted_20 rfl ?_
      refine gM_X7_0_0 C dX7_isCounted_21 ?_
      obtain ⟨y8, u7b, hgu7, h⟩ := ob_p h
      obtain ⟨u7, eu7, h⟩ := ob_nm h
      refine cM_ship_i (As := []) (rest := []) C (mX5_isLogOfCrew C.2.2.2.2.2.2.2.2.1 hgu7) 0 rfl tcX5_isLogOfCrew tlX7_229 tiX5_isLogOfCrew tsX5_isLogOfCrew rfl tnX5 tdX5_isLogOfCrew ⟨Nat.le_of_ble_eq_true rfl, Nat.le_of_ble_eq_true rfl⟩ eu7 rfl (Nat.le_of_ble_eq_true rfl) dX7_isCounted_24 ?_
      refine vi_if_eq (tgt := 44) C dX7_isCounted_27 (by decide) (fun hc9 => ?_) (fun hc9 => ?_)
      · have h := ob_t h hc9
        refine vi_iconst (v := 0) C dX7_isCounted_44 (by decide) ?_
        exact vi_donez (W := wX q0 qs qo qt qv qr qx ql ad qh cI cF cC cS cO) RET h (by decide) dX7_isCounted_45
      · have h := ob_f h hc9
        refine vi_aload_n C 0 dX7_isCounted_30 rfl ?_
        refine gM_X7_0_0 C dX7_isCounted_31 ?_
        obtain ⟨y11, u10b, hgu10, h⟩ := ob_p h
        obtain ⟨u10, eu10, h⟩ := ob_nm h
        refine cM_ship_i (As := []) (rest := []) C (mX5_isRumCounted C.2.2.2.2.2.2.2.2.1 hgu10) 0 rfl tcX5_isRumCounted tlX7_232 tiX5_isRumCounted tsX5_isRumCounted rfl tnX5 tdX5_isRumCounted ⟨Nat.le_of_ble_eq_true rfl, Nat.le_of_ble_eq_true rfl⟩ eu10 rfl (Nat.le_of_ble_eq_true rfl) dX7_isCounted_34 ?_
        refine vi_if_eq (tgt := 44) C dX7_isCounted_37 (by decide) (fun hc12 => ?_) (fun hc12 => ?_)
        · have h := ob_t h hc12
          refine vi_iconst (v := 0) C dX7_isCounted_44 (by decide) ?_
          exact vi_donez (W := wX q0 qs qo qt qv qr qx ql ad qh cI cF cC cS cO) RET h (by decide) dX7_isCounted_45
        · have h := ob_f h hc12
          refine vi_iconst (v := 1) C dX7_isCounted_40 (by decide) ?_
          refine vi_goto (tgt := 45) C dX7_isCounted_41 (by decide) ?_
          exact vi_donez (W := wX q0 qs qo qt qv qr qx ql ad qh cI cF cC cS cO) RET h (by decide) dX7_isCounted_45
theorem mX7_isCounted {ad adK adV : Nat → Nat} {tS tF : Nat} {tX sK sV : Nat → Nat} (hE : vEok (vE ad adK adV tS tF tX sK sV)) {l : Launch} {D : va_G} {cI cF cC cS cO cB cZ : ClassId} {q0 qs qo qt qv qr qx ql : Nat → Nat} {qh : Nat → Nat → Nat} {r0 : Int32} {u0 : vZ}  {u : vZ} (h : fX7_isCounted u = some (r0, u0)) : vM (vE ad adK adV tS tF tX sK sV) l yX7_isCounted cX7_isCounted 1 (some .boolean) 4 88 D (vT7 cI cF cC cS cO cB cZ) [.ref (q0 0)] (wX q0 qs qo qt qv qr qx ql ad qh cI cF cC cS cO u) (vQi D (wX q0 qs qo qt qv qr qx ql ad qh cI cF cC cS cO u0) r0) :=
  vM_of hE (by decide +kernel) (Nat.le_of_ble_eq_true rfl) (fun p e s m args below meth c A C hr => kX7_isCounted_e C (vi_retzz C hr) h)
-- ---- X7_meanAngle
def fX7_meanAngle (u : vZ) : Option (UInt64 × vZ) := (if u.2.1.1.1 0 0 = 0 then some (FP.dconst0, u) else obp (fX5_allAngles u.2.1.1) fun y3 u2b => bd ((u.1, ((u2b, u.2.1.2), u.2.2))) fun u2 => if (FP.ddiv (FP.i2d y3) (FP.i2d (u2.2.1.1.1 0 0))) &&& 0x7fffffffffffffff ≤ 0x7ff0000000000000 then some (FP.ddiv (FP.i2d y3) (FP.i2d (u2.2.1.1.1 0 0)), u2) else none)
set_option maxRecDepth 100000 in
set_option maxHeartbeats 4000000 in
theorem kX7_meanAngle_e {ad adK adV : Nat → Nat} {tS tF : Nat} {tX sK sV : Nat → Nat} {p : Program} {l : Launch} {e : Env} {s : State} {m : MethodId} {args : Array Value} {below : List Frame} {meth : Method} {c : Code} {A : Nat → Prop} {D : va_G} {cI cF cC cS cO cB cZ : ClassId} {Q : State → Prop} {q0 qs qo qt qv qr qx ql : Nat → Nat} {qh : Nat → Nat → Nat} (C : vC (vE ad adK adV tS tF tX sK sV) p l s m args meth c A D (vT7 cI cF cC cS cO cB cZ) cX7_meanAngle 1 RX7) {r0 : UInt64} {u0 : vZ} (RET : ∀ (pc : Nat) (lv : List (Nat × Value)), decode cX7_meanAngle pc = .ok (.dreturn, 1) → vV p l e { frames := 4, cells := 0, slots := 0, locals := 92 } s m args below meth c A D 1 0 0 Q (wX q0 qs qo qt qv qr qx ql ad qh cI cF cC cS cO u0) pc lv [.double r0]) {u : vZ} (h : fX7_meanAngle u = some (r0, u0)) : vV p l e { frames := 4, cells := 0, slots := 0, locals := 92 } s m args below meth c A D 1 0 0 Q (wX q0 qs qo qt qv qr qx ql ad qh cI cF cC cS cO u) 0 [(0, .ref (q0 0))] [] := by
  rw [fX7_meanAngle] at h
  refine vi_aload_n C 0 dX7_meanAngle_0 rfl ?_
  refine gM_X7_0_0 C dX7_meanAngle_1 ?_
  refine gM_X7_1_0 C dX7_meanAngle_4 ?_
  refine vi_if_ne (tgt := 14) C dX7_meanAngle_7 (by decide) (fun hc1 => ?_) (fun hc1 => ?_)
  · have h := ob_f h hc1
    refine vi_aload_n C 0 dX7_meanAngle_14 rfl ?_
    refine gM_X7_0_0 C dX7_meanAngle_15 ?_
    obtain ⟨y3, u2b, hgu2, h⟩ := ob_p h
    obtain ⟨u2, eu2, h⟩ := ob_nm h
    refine cM_ship_i (As := []) (rest := []) C (mX5_allAngles C.2.2.2.2.2.2.2.2.1 hgu2) 0 rfl tcX5_allAngles tlX7_235 tiX5_allAngles tsX5_allAngles rfl tnX5 tdX5_allAngles ⟨Nat.le_of_ble_eq_true rfl, Nat.le_of_ble_eq_true rfl⟩ eu2 rfl (Nat.le_of_ble_eq_true rfl) dX7_meanAngle_18 ?_
    refine vi_i2d C dX7_meanAngle_21 ?_
    refine vi_aload_n C 0 dX7_meanAngle_22 rfl ?_
    refine gM_X7_0_0 C dX7_meanAngle_23 ?_
    refine gM_X7_1_0 C dX7_meanAngle_26 ?_
    refine vi_i2d C dX7_meanAngle_29 ?_
    obtain ⟨hz4, h⟩ := ob_ok h
    refine vi_ddiv C dX7_meanAngle_30 hz4 ?_
    exact vi_doned (W := wX q0 qs qo qt qv qr qx ql ad qh cI cF cC cS cO) RET h dX7_meanAngle_31
  · have h := ob_t h hc1
    refine vi_dconst0 C dX7_meanAngle_10 ?_
    refine vi_goto (tgt := 31) C dX7_meanAngle_11 (by decide) ?_
    exact vi_doned (W := wX q0 qs qo qt qv qr qx ql ad qh cI cF cC cS cO) RET h dX7_meanAngle_31
theorem mX7_meanAngle {ad adK adV : Nat → Nat} {tS tF : Nat} {tX sK sV : Nat → Nat} (hE : vEok (vE ad adK adV tS tF tX sK sV)) {l : Launch} {D : va_G} {cI cF cC cS cO cB cZ : ClassId} {q0 qs qo qt qv qr qx ql : Nat → Nat} {qh : Nat → Nat → Nat} {r0 : UInt64} {u0 : vZ}  {u : vZ} (h : fX7_meanAngle u = some (r0, u0)) : vM (vE ad adK adV tS tF tX sK sV) l yX7_meanAngle cX7_meanAngle 1 (some .double) 4 92 D (vT7 cI cF cC cS cO cB cZ) [.ref (q0 0)] (wX q0 qs qo qt qv qr qx ql ad qh cI cF cC cS cO u) (vQd D (wX q0 qs qo qt qv qr qx ql ad qh cI cF cC cS cO u0) r0) :=
  vM_of hE (by decide +kernel) (Nat.le_of_ble_eq_true rfl) (fun p e s m args below meth c A C hr => kX7_meanAngle_e C (vi_retd C hr) h)
