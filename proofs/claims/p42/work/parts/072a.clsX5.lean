-- ---- X5_copyFrom
def fX5_copyFrom (u : vH2) : Option (vH2) := bd (((up2 u.1.1 0 0 (u.2.1 0 0), u.1.2), u.2)) fun u1 => bd ((((fun b => if b = 1 then (va_cpy (u1.2.1 1) (u1.1.1 1) 0 0 8) else u1.1.1 b), u1.1.2), u1.2)) fun u2 => bd ((((fun b => if b = 2 then (va_cpy (u2.2.1 2) (u2.1.1 2) 0 0 8) else u2.1.1 b), u2.1.2), u2.2)) fun u3 => bd ((((fun b => if b = 3 then (va_cpy (u3.2.1 3) (u3.1.1 3) 0 0 8) else u3.1.1 b), u3.1.2), u3.2)) fun u4 => bd ((((fun b => if b = 4 then (va_cpy (u4.2.1 4) (u4.1.1 4) 0 0 4) else u4.1.1 b), u4.1.2), u4.2)) fun u5 => bd (((up2 u5.1.1 0 5 (u5.2.1 0 5), u5.1.2), u5.2)) fun u6 => bd (((up2 u6.1.1 0 6 (u6.2.1 0 6), u6.1.2), u6.2)) fun u7 => bd (((up2 u7.1.1 0 7 (u7.2.1 0 7), u7.1.2), u7.2)) fun u8 => bd ((((fun b => if b = 5 then (va_cpy (u8.2.1 5) (u8.1.1 5) 0 0 10) else u8.1.1 b), u8.1.2), u8.2)) fun u9 => bd ((((fun b => if b = 6 then (va_cpy (u9.2.1 6) (u9.1.1 6) 0 0 10) else u9.1.1 b), u9.1.2), u9.2)) fun u10 => bd (((u10.1.1, (va_cpy u10.2.2 u10.1.2 0 0 10)), u10.2)) fun u11 => bd (((up2 u11.1.1 0 11 (u11.2.1 0 11), u11.1.2), u11.2)) fun u12 => bd (((up2 u12.1.1 0 12 (u12.2.1 0 12), u12.1.2), u12.2)) fun u13 => bd (((up2 u13.1.1 0 13 (u13.2.1 0 13), u13.1.2), u13.2)) fun u14 => bd (((up2 u14.1.1 0 14 (u14.2.1 0 14), u14.1.2), u14.2)) fun u15 => some u15
set_option maxRecDepth 100000 in
set_option maxHeartbeats 4000000 in
theorem kX5_copyFrom_e {ad adK adV : Nat → Nat} {tS tF : Nat} {tX sK sV : Nat → Nat} {p : Program} {l : Launch} {e : Env} {s : State} {m : MethodId} {args : Array Value} {below : List Frame} {meth : Method} {c : Code} {A : Nat → Prop} {D : va_G} {cI cF cC cS cO cB cZ : ClassId} {Q : State → Prop} {q q2 : Nat → Nat} (C : vC (vE ad adK adV tS tF tX sK sV) p l s m args meth c A D (vT7 cI cF cC cS cO cB cZ) cX5_copyFrom 2 RX5) {u0 : vH2} (RET : ∀ (pc : Nat) (lv : List (Nat × Value)), decode cX5_copyFrom pc = .ok (.return_, 1) → vV p l e { frames := 1, cells := 0, slots := 0, locals := 60 } s m args below meth c A D 2 0 0 Q (wS2 q q2 cI cF u0) pc lv []) {u : vH2} (h : fX5_copyFrom u = some u0) : vV p l e { frames := 1, cells := 0, slots := 0, locals := 60 } s m args below meth c A D 2 0 0 Q (wS2 q q2 cI cF u) 0 [(0, .ref (q 0)), (1, .ref (q2 0))] [] := by
  rw [fX5_copyFrom] at h
  refine vi_aload_n C 0 dX5_copyFrom_0 rfl ?_
  refine vi_aload_n C 1 dX5_copyFrom_1 rfl ?_
  refine gD_X5_8_0 C dX5_copyFrom_2 ?_
  obtain ⟨u1, eu1, h⟩ := ob_nm h
  refine pD_X5_0_0 C dX5_copyFrom_5 eu1.symm ?_
  refine vi_aload_n C 1 dX5_copyFrom_8 rfl ?_
  refine gD_X5_8_1 C dX5_copyFrom_9 ?_
  refine vi_iconst (v := 0) C dX5_copyFrom_12 (by decide) ?_
  refine vi_aload_n C 0 dX5_copyFrom_13 rfl ?_
  refine gD_X5_0_1 C dX5_copyFrom_14 ?_
  refine vi_iconst (v := 0) C dX5_copyFrom_17 (by decide) ?_
  refine vi_bipush (v := 8) C dX5_copyFrom_18 (by decide) ?_
  obtain ⟨u2, eu2, h⟩ := ob_nm h
  refine yD_X5_9_1 C eu2.symm dX5_copyFrom_20 (by decide) (Nat.le_of_ble_eq_true rfl) ?_
  refine vi_aload_n C 1 dX5_copyFrom_23 rfl ?_
  refine gD_X5_8_2 C dX5_copyFrom_24 ?_
  refine vi_iconst (v := 0) C dX5_copyFrom_27 (by decide) ?_
  refine vi_aload_n C 0 dX5_copyFrom_28 rfl ?_
  refine gD_X5_0_2 C dX5_copyFrom_29 ?_
  refine vi_iconst (v := 0) C dX5_copyFrom_32 (by decide) ?_
  refine vi_bipush (v := 8) C dX5_copyFrom_33 (by decide) ?_
  obtain ⟨u3, eu3, h⟩ := ob_nm h
  refine yD_X5_10_2 C eu3.symm dX5_copyFrom_35 (by decide) (Nat.le_of_ble_eq_true rfl) ?_
  refine vi_aload_n C 1 dX5_copyFrom_38 rfl ?_
  refine gD_X5_8_3 C dX5_copyFrom_39 ?_
  refine vi_iconst (v := 0) C dX5_copyFrom_42 (by decide) ?_
  refine vi_aload_n C 0 dX5_copyFrom_43 rfl ?_
  refine gD_X5_0_3 C dX5_copyFrom_44 ?_
  refine vi_iconst (v := 0) C dX5_copyFrom_47 (by decide) ?_
  refine vi_bipush (v := 8) C dX5_copyFrom_48 (by decide) ?_
  obtain ⟨u4, eu4, h⟩ := ob_nm h
  refine yD_X5_11_3 C eu4.symm dX5_copyFrom_50 (by decide) (Nat.le_of_ble_eq_true rfl) ?_
  refine vi_aload_n C 1 dX5_copyFrom_53 rfl ?_
  refine gD_X5_8_4 C dX5_copyFrom_54 ?_
  refine vi_iconst (v := 0) C dX5_copyFrom_57 (by decide) ?_
  refine vi_aload_n C 0 dX5_copyFrom_58 rfl ?_
  refine gD_X5_0_4 C dX5_copyFrom_59 ?_
  refine vi_iconst (v := 0) C dX5_copyFrom_62 (by decide) ?_
  refine vi_iconst (v := 4) C dX5_copyFrom_63 (by decide) ?_
  obtain ⟨u5, eu5, h⟩ := ob_nm h
  refine yD_X5_12_4 C eu5.symm dX5_copyFrom_64 (by decide) (Nat.le_of_ble_eq_true rfl) ?_
  refine vi_aload_n C 0 dX5_copyFrom_67 rfl ?_
  refine vi_aload_n C 1 dX5_copyFrom_68 rfl ?_
  refine gD_X5_8_5 C dX5_copyFrom_69 ?_
  obtain ⟨u6, eu6, h⟩ := ob_nm h
  refine pD_X5_0_5 C dX5_copyFrom_72 eu6.symm ?_
  refine vi_aload_n C 0 dX5_copyFrom_75 rfl ?_
  refine vi_aload_n C 1 dX5_copyFrom_76 rfl ?_
  refine gD_X5_8_6 C dX5_copyFrom_77 ?_
  obtain ⟨u7, eu7, h⟩ := ob_nm h
  refine pD_X5_0_6 C dX5_copyFrom_80 eu7.symm ?_
  refine vi_aload_n C 0 dX5_copyFrom_83 rfl ?_
  refine vi_aload_n C 1 dX5_copyFrom_84 rfl ?_
  refine gD_X5_8_7 C dX5_copyFrom_85 ?_
  obtain ⟨u8, eu8, h⟩ := ob_nm h
  refine pD_X5_0_7 C dX5_copyFrom_88 eu8.symm ?_
  refine vi_aload_n C 1 dX5_copyFrom_91 rfl ?_
  refine gD_X5_8_8 C dX5_copyFrom_92 ?_
  refine vi_iconst (v := 0) C dX5_copyFrom_95 (by decide) ?_
  refine vi_aload_n C 0 dX5_copyFrom_96 rfl ?_
  refine gD_X5_0_8 C dX5_copyFrom_97 ?_
  refine vi_iconst (v := 0) C dX5_copyFrom_100 (by decide) ?_
  refine vi_bipush (v := 10) C dX5_copyFrom_101 (by decide) ?_
  obtain ⟨u9, eu9, h⟩ := ob_nm h
  refine yD_X5_13_5 C eu9.symm dX5_copyFrom_103 (by decide) (Nat.le_of_ble_eq_true rfl) ?_
  refine vi_aload_n C 1 dX5_copyFrom_106 rfl ?_
  refine gD_X5_8_9 C dX5_copyFrom_107 ?_
  refine vi_iconst (v := 0) C dX5_copyFrom_110 (by decide) ?_
  refine vi_aload_n C 0 dX5_copyFrom_111 rfl ?_
  refine gD_X5_0_9 C dX5_copyFrom_112 ?_
  refine vi_iconst (v := 0) C dX5_copyFrom_115 (by decide) ?_
  refine vi_bipush (v := 10) C dX5_copyFrom_116 (by decide) ?_
  obtain ⟨u10, eu10, h⟩ := ob_nm h
  refine yD_X5_14_6 C eu10.symm dX5_copyFrom_118 (by decide) (Nat.le_of_ble_eq_true rfl) ?_
  refine vi_aload_n C 1 dX5_copyFrom_121 rfl ?_
  refine gD_X5_8_10 C dX5_copyFrom_122 ?_
  refine vi_iconst (v := 0) C dX5_copyFrom_125 (by decide) ?_
  refine vi_aload_n C 0 dX5_copyFrom_126 rfl ?_
  refine gD_X5_0_10 C dX5_copyFrom_127 ?_
  refine vi_iconst (v := 0) C dX5_copyFrom_130 (by decide) ?_
  refine vi_bipush (v := 10) C dX5_copyFrom_131 (by decide) ?_
  obtain ⟨u11, eu11, h⟩ := ob_nm h
  refine yD_X5_15_7 C eu11.symm dX5_copyFrom_133 (by decide) (Nat.le_of_ble_eq_true rfl) ?_
  refine vi_aload_n C 0 dX5_copyFrom_136 rfl ?_
  refine vi_aload_n C 1 dX5_copyFrom_137 rfl ?_
  refine gD_X5_8_11 C dX5_copyFrom_138 ?_
  obtain ⟨u12, eu12, h⟩ := ob_nm h
  refine pD_X5_0_11 C dX5_copyFrom_141 eu12.symm ?_
  refine vi_aload_n C 0 dX5_copyFrom_144 rfl ?_
  refine vi_aload_n C 1 dX5_copyFrom_145 rfl ?_
  refine gD_X5_8_12 C dX5_copyFrom_146 ?_
  obtain ⟨u13, eu13, h⟩ := ob_nm h
  refine pD_X5_0_12 C dX5_copyFrom_149 eu13.symm ?_
  refine vi_aload_n C 0 dX5_copyFrom_152 rfl ?_
  refine vi_aload_n C 1 dX5_copyFrom_153 rfl ?_
  refine gD_X5_8_13 C dX5_copyFrom_154 ?_
  obtain ⟨u14, eu14, h⟩ := ob_nm h
  refine pD_X5_0_13 C dX5_copyFrom_157 eu14.symm ?_
  refine vi_aload_n C 0 dX5_copyFrom_160 rfl ?_
  refine vi_aload_n C 1 dX5_copyFrom_161 rfl ?_
  refine gD_X5_8_14 C dX5_copyFrom_162 ?_
  obtain ⟨u15, eu15, h⟩ := ob_nm h
  refine pD_X5_0_14 C dX5_copyFrom_165 eu15.symm ?_
  exact vi_donev (W := wS2 q q2 cI cF) RET h dX5_copyFrom_168
theorem mX5_copyFrom {ad adK adV : Nat → Nat} {tS tF : Nat} {tX sK sV : Nat → Nat} (hE : vEok (vE ad adK adV tS tF tX sK sV)) {l : Launch} {D : va_G} {cI cF cC cS cO cB cZ : ClassId} {q q2 : Nat → Nat} {u0 : vH2}  {u : vH2} (h : fX5_copyFrom u = some u0) : vM (vE ad adK adV tS tF tX sK sV) l yX5_copyFrom cX5_copyFrom 2 none 1 60 D (vT7 cI cF cC cS cO cB cZ) [.ref (q 0), .ref (q2 0)] (wS2 q q2 cI cF u) (vQv D (wS2 q q2 cI cF u0)) :=
  vM_of hE (by decide +kernel) (Nat.le_of_ble_eq_true rfl) (fun p e s m args below meth c A C hr => kX5_copyFrom_e C (vi_retv C hr) h)
-- ---- X5_isMood
def fX5_isMood (x1 : Int32) : Option (Int32) := (if x1 < 0 then some (0 : Int32) else (if (65535 : Int32) < x1 then some (0 : Int32) else some (1 : Int32)))
set_option maxRecDepth 100000 in
set_option maxHeartbeats 4000000 in
theorem kX5_isMood_e {E : (Nat → Prop) → State → Heap → Prop} {p : Program} {l : Launch} {e : Env} {s : State} {m : MethodId} {args : Array Value} {below : List Frame} {meth : Method} {c : Code} {A : Nat → Prop} {D : va_G} {cI cF cC cS cO cB cZ : ClassId} {Q : State → Prop} (C : vC E p l s m args meth c A D (vT7 cI cF cC cS cO cB cZ) cX5_isMood 1 RX5) {r0 : Int32} (RET : ∀ (pc : Nat) (lv : List (Nat × Value)), decode cX5_isMood pc = .ok (.ireturn, 1) → (r0 = 0 ∨ r0 = 1) → vV p l e { frames := 0, cells := 0, slots := 0, locals := 0 } s m args below meth c A D 1 0 0 Q [] pc lv [.int r0]) {x1 : Int32} (h : fX5_isMood x1 = some r0) : vV p l e { frames := 0, cells := 0, slots := 0, locals := 0 } s m args below meth c A D 1 0 0 Q [] 0 [(0, .int x1)] [] := by
  rw [fX5_isMood] at h
  refine vi_iload_n C 0 dX5_isMood_0 rfl ?_
  refine vi_if_lt (tgt := 14) C dX5_isMood_1 (by decide) (fun hc1 => ?_) (fun hc1 => ?_)
  · have h := ob_t h hc1
    refine vi_iconst (v := 0) C dX5_isMood_14 (by decide) ?_
    exact vi_donez0  RET h (by decide) dX5_isMood_15
  · have h := ob_f h hc1
    refine vi_iload_n C 0 dX5_isMood_4 rfl ?_
    refine vi_ldc (v := 65535) C dX5_isMood_5 tkX5_65 ?_
    refine vi_icmp_gt (tgt := 14) C dX5_isMood_7 (by decide) (fun hc2 => ?_) (fun hc2 => ?_)
    · have h := ob_t h hc2
      refine vi_iconst (v := 0) C dX5_isMood_14 (by decide) ?_
      exact vi_donez0  RET h (by decide) dX5_isMood_15
    · have h := ob_f h hc2
      refine vi_iconst (v := 1) C dX5_isMood_10 (by decide) ?_
      refine vi_goto (tgt := 15) C dX5_isMood_11 (by decide) ?_
      exact vi_donez0  RET h (by decide) dX5_isMood_15
theorem mX5_isMood {E : (Nat → Prop) → State → Heap → Prop} (hE : vEok E) {l : Launch} {D : va_G} {cI cF cC cS cO cB cZ : ClassId} {r0 : Int32}  {x1 : Int32} (h : fX5_isMood x1 = some r0) : vM E l yX5_isMood cX5_isMood 1 (some .boolean) 0 0 D (vT7 cI cF cC cS cO cB cZ) [.int x1] [] (vQi D [] r0) :=
  vM_of hE (by decide +kernel) (Nat.le_of_ble_eq_true rfl) (fun p e s m args below meth c A C hr => kX5_isMood_e C (vi_retzz C hr) h)
-- ---- X5_isGift
def fX5_isGift (x1 : Int32) : Option (Int32) := (if x1 < (1 : Int32) then some (0 : Int32) else (if (9 : Int32) < x1 then some (0 : Int32) else some (1 : Int32)))
set_option maxRecDepth 100000 in
set_option maxHeartbeats 4000000 in
theorem kX5_isGift_e {E : (Nat → Prop) → State → Heap → Prop} {p : Program} {l : Launch} {e : Env} {s : State} {m : MethodId} {args : Array Value} {below : List Frame} {meth : Method} {c : Code} {A : Nat → Prop} {D : va_G} {cI cF cC cS cO cB cZ : ClassId} {Q : State → Prop} (C : vC E p l s m args meth c A D (vT7 cI cF cC cS cO cB cZ) cX5_isGift 1 RX5) {r0 : Int32} (RET : ∀ (pc : Nat) (lv : List (Nat × Value)), decode cX5_isGift pc = .ok (.ireturn, 1) → (r0 = 0 ∨ r0 = 1) → vV p l e { frames := 0, cells := 0, slots := 0, locals := 0 } s m args below meth c A D 1 0 0 Q [] pc lv [.int r0]) {x1 : Int32} (h : fX5_isGift x1 = some r0) : vV p l e { frames := 0, cells := 0, slots := 0, locals := 0 } s m args below meth c A D 1 0 0 Q [] 0 [(0, .int x1)] [] := by
  rw [fX5_isGift] at h
  refine vi_iload_n C 0 dX5_isGift_0 rfl ?_
  refine vi_iconst (v := 1) C dX5_isGift_1 (by decide) ?_
  refine vi_icmp_lt (tgt := 15) C dX5_isGift_2 (by decide) (fun hc1 => ?_) (fun hc1 => ?_)
  · have h := ob_t h hc1
    refine vi_iconst (v := 0) C dX5_isGift_15 (by decide) ?_
    exact vi_donez0  RET h (by decide) dX5_isGift_16
  · have h := ob_f h hc1
    refine vi_iload_n C 0 dX5_isGift_5 rfl ?_
    refine vi_bipush (v := 9) C dX5_isGift_6 (by decide) ?_
    refine vi_icmp_gt (tgt := 15) C dX5_isGift_8 (by decide) (fun hc2 => ?_) (fun hc2 => ?_)
    · have h := ob_t h hc2
      refine vi_iconst (v := 0) C dX5_isGift_15 (by decide) ?_
      exact vi_donez0  RET h (by decide) dX5_isGift_16
    · have h := ob_f h hc2
      refine vi_iconst (v := 1) C dX5_isGift_11 (by decide) ?_
      refine vi_goto (tgt := 16) C dX5_isGift_12 (by decide) ?_
      exact vi_donez0  RET h (by decide) dX5_isGift_16
theorem mX5_isGift {E : (Nat → Prop) → State → Heap → Prop} (hE : vEok E) {l : Launch} {D : va_G} {cI cF cC cS cO cB cZ : ClassId} {r0 : Int32}  {x1 : Int32} (h : fX5_isGift x1 = some r0) : vM E l yX5_isGift cX5_isGift 1 (some .boolean) 0 0 D (vT7 cI cF cC cS cO cB cZ) [.int x1] [] (vQi D [] r0) :=
  vM_of hE (by decide +kernel) (Nat.le_of_ble_eq_true rfl) (fun p e s m args below meth c A C hr => kX5_isGift_e C (vi_retzz C hr) h)
-- ---- X5_isWatch
def fX5_isWatch (x1 : Int32) : Option (Int32) := (if x1 < 0 then some (0 : Int32) else (if (4 : Int32) ≤ x1 then some (0 : Int32) else some (1 : Int32)))
set_option maxRecDepth 100000 in
set_option maxHeartbeats 4000000 in
theorem kX5_isWatch_e {E : (Nat → Prop) → State → Heap → Prop} {p : Program} {l : Launch} {e : Env} {s : State} {m : MethodId} {args : Array Value} {below : List Frame} {meth : Method} {c : Code} {A : Nat → Prop} {D : va_G} {cI cF cC cS cO cB cZ : ClassId} {Q : State → Prop} (C : vC E p l s m args meth c A D (vT7 cI cF cC cS cO cB cZ) cX5_isWatch 1 RX5) {r0 : Int32} (RET : ∀ (pc : Nat) (lv : List (Nat × Value)), decode cX5_isWatch pc = .ok (.ireturn, 1) → (r0 = 0 ∨ r0 = 1) → vV p l e { frames := 0, cells := 0, slots := 0, locals := 0 } s m args below meth c A D 1 0 0 Q [] pc lv [.int r0]) {x1 : Int32} (h : fX5_isWatch x1 = some r0) : vV p l e { frames := 0, cells := 0, slots := 0, locals := 0 } s m args below meth c A D 1 0 0 Q [] 0 [(0, .int x1)] [] := by
  rw [fX5_isWatch] at h
  refine vi_iload_n C 0 dX5_isWatch_0 rfl ?_
  refine vi_if_lt (tgt := 13) C dX5_isWatch_1 (by decide) (fun hc1 => ?_) (fun hc1 => ?_)
  · have h := ob_t h hc1
    refine vi_iconst (v := 0) C dX5_isWatch_13 (by decide) ?_
    exact vi_donez0  RET h (by decide) dX5_isWatch_14
  · have h := ob_f h hc1
    refine vi_iload_n C 0 dX5_isWatch_4 rfl ?_
    refine vi_iconst (v := 4) C dX5_isWatch_5 (by decide) ?_
    refine vi_icmp_ge (tgt := 13) C dX5_isWatch_6 (by decide) (fun hc2 => ?_) (fun hc2 => ?_)
    · have h := ob_t h hc2
      refine vi_iconst (v := 0) C dX5_isWatch_13 (by decide) ?_
      exact vi_donez0  RET h (by decide) dX5_isWatch_14
    · have h := ob_f h hc2
      refine vi_iconst (v := 1) C dX5_isWatch_9 (by decide) ?_
      refine vi_goto (tgt := 14) C dX5_isWatch_10 (by decide) ?_
      exact vi_donez0  RET h (by decide) dX5_isWatch_14
theorem mX5_isWatch {E : (Nat → Prop) → State → Heap → Prop} (hE : vEok E) {l : Launch} {D : va_G} {cI cF cC cS cO cB cZ : ClassId} {r0 : Int32}  {x1 : Int32} (h : fX5_isWatch x1 = some r0) : vM E l yX5_isWatch cX5_isWatch 1 (some .boolean) 0 0 D (vT7 cI cF cC cS cO cB cZ) [.int x1] [] (vQi D [] r0) :=
  vM_of hE (by decide +kernel) (Nat.le_of_ble_eq_true rfl) (fun p e s m args below meth c A C hr => kX5_isWatch_e C (vi_retzz C hr) h)
-- ---- X5_isHorizon
def fX5_isHorizon (x1 : Int32) : Option (Int32) := (if x1 < 0 then some (0 : Int32) else (if (8 : Int32) < x1 then some (0 : Int32) else some (1 : Int32)))
set_option maxRecDepth 100000 in
set_option maxHeartbeats 4000000 in
theorem kX5_isHorizon_e {E : (Nat → Prop) → State → Heap → Prop} {p : Program} {l : Launch} {e : Env} {s : State} {m : MethodId} {args : Array Value} {below : List Frame} {meth : Method} {c : Code} {A : Nat → Prop} {D : va_G} {cI cF cC cS cO cB cZ : ClassId} {Q : State → Prop} (C : vC E p l s m args meth c A D (vT7 cI cF cC cS cO cB cZ) cX5_isHorizon 1 RX5) {r0 : Int32} (RET : ∀ (pc : Nat) (lv : List (Nat × Value)), decode cX5_isHorizon pc = .ok (.ireturn, 1) → (r0 = 0 ∨ r0 = 1) → vV p l e { frames := 0, cells := 0, slots := 0, locals := 0 } s m args below meth c A D 1 0 0 Q [] pc lv [.int r0]) {x1 : Int32} (h : fX5_isHorizon x1 = some r0) : vV p l e { frames := 0, cells := 0, slots := 0, locals := 0 } s m args below meth c A D 1 0 0 Q [] 0 [(0, .int x1)] [] := by
  rw [fX5_isHorizon] at h
  refine vi_iload_n C 0 dX5_isHorizon_0 rfl ?_
  refine vi_if_lt (tgt := 14) C dX5_isHorizon_1 (by decide) (fun hc1 => ?_) (fun hc1 => ?_)
  · have h := ob_t h hc1
    refine vi_iconst (v := 0) C dX5_isHorizon_14 (by decide) ?_
    exact vi_donez0  RET h (by decide) dX5_isHorizon_15
  · have h := ob_f h hc1
    refine vi_iload_n C 0 dX5_isHorizon_4 rfl ?_
    refine vi_bipush (v := 8) C dX5_isHorizon_5 (by decide) ?_
    refine vi_icmp_gt (tgt := 14) C dX5_isHorizon_7 (by decide) (fun hc2 => ?_) (fun hc2 => ?_)
    · have h := ob_t h hc2
      refine vi_iconst (v := 0) C dX5_isHorizon_14 (by decide) ?_
      exact vi_donez0  RET h (by decide) dX5_isHorizon_15
    · have h := ob_f h hc2
      refine vi_iconst (v := 1) C dX5_isHorizon_10 (by decide) ?_
      refine vi_goto (tgt := 15) C dX5_isHorizon_11 (by decide) ?_
      exact vi_donez0  RET h (by decide) dX5_isHorizon_15
theorem mX5_isHorizon {E : (Nat → Prop) → State → Heap → Prop} (hE : vEok E) {l : Launch} {D : va_G} {cI cF cC cS cO cB cZ : ClassId} {r0 : Int32}  {x1 : Int32} (h : fX5_isHorizon x1 = some r0) : vM E l yX5_isHorizon cX5_isHorizon 1 (some .boolean) 0 0 D (vT7 cI cF cC cS cO cB cZ) [.int x1] [] (vQi D [] r0) :=
  vM_of hE (by decide +kernel) (Nat.le_of_ble_eq_true rfl) (fun p e s m args below meth c A C hr => kX5_isHorizon_e C (vi_retzz C hr) h)
-- ---- X5_isError
def fX5_isError (x1 : Int32) : Option (Int32) := (if x1 < (-3 : Int32) then some (0 : Int32) else (if (3 : Int32) < x1 then some (0 : Int32) else some (1 : Int32)))
set_option maxRecDepth 100000 in
set_option maxHeartbeats 4000000 in
theorem kX5_isError_e {E : (Nat → Prop) → State → Heap → Prop} {p : Program} {l : Launch} {e : Env} {s : State} {m : MethodId} {args : Array Value} {below : List Frame} {meth : Method} {c : Code} {A : Nat → Prop} {D : va_G} {cI cF cC cS cO cB cZ : ClassId} {Q : State → Prop} (C : vC E p l s m args meth c A D (vT7 cI cF cC cS cO cB cZ) cX5_isError 1 RX5) {r0 : Int32} (RET : ∀ (pc : Nat) (lv : List (Nat × Value)), decode cX5_isError pc = .ok (.ireturn, 1) → (r0 = 0 ∨ r0 = 1) → vV p l e { frames := 0, cells := 0, slots := 0, locals := 0 } s m args below meth c A D 1 0 0 Q [] pc lv [.int r0]) {x1 : Int32} (h : fX5_isError x1 = some r0) : vV p l e { frames := 0, cells := 0, slots := 0, locals := 0 } s m args below meth c A D 1 0 0 Q [] 0 [(0, .int x1)] [] := by
  rw [fX5_isError] at h
  refine vi_iload_n C 0 dX5_isError_0 rfl ?_
  refine vi_bipush (v := (-3)) C dX5_isError_1 (by decide) ?_
  refine vi_icmp_lt (tgt := 15) C dX5_isError_3 (by decide) (fun hc1 => ?_) (fun hc1 => ?_)
  · have h := ob_t h hc1
    refine vi_iconst (v := 0) C dX5_isError_15 (by decide) ?_
    exact vi_donez0  RET h (by decide) dX5_isError_16
  · have h := ob_f h hc1
    refine vi_iload_n C 0 dX5_isError_6 rfl ?_
    refine vi_iconst (v := 3) C dX5_isError_7 (by decide) ?_
    refine vi_icmp_gt (tgt := 15) C dX5_isError_8 (by decide) (fun hc2 => ?_) (fun hc2 => ?_)
    · have h := ob_t h hc2
      refine vi_iconst (v := 0) C dX5_isError_15 (by decide) ?_
      exact vi_donez0  RET h (by decide) dX5_isError_16
    · have h := ob_f h hc2
      refine vi_iconst (v := 1) C dX5_isError_11 (by decide) ?_
      refine vi_goto (tgt := 16) C dX5_isError_12 (by decide) ?_
      exact vi_donez0  RET h (by decide) dX5_isError_16
theorem mX5_isError {E : (Nat → Prop) → State → Heap → Prop} (hE : vEok E) {l : Launch} {D : va_G} {cI cF cC cS cO cB cZ : ClassId} {r0 : Int32}  {x1 : Int32} (h : fX5_isError x1 = some r0) : vM E l yX5_isError cX5_isError 1 (some .boolean) 0 0 D (vT7 cI cF cC cS cO cB cZ) [.int x1] [] (vQi D [] r0) :=
  vM_of hE (by decide +kernel) (Nat.le_of_ble_eq_true rfl) (fun p e s m args below meth c A C hr => kX5_isError_e C (vi_retzz C hr) h)
-- ---- X5_hasSailor
def fX5_hasSailor (x1 : Int32) (u : vH) : Option (Int32 × vH) := (if x1 < 0 then some ((0 : Int32), u) else (if u.1 0 0 ≤ x1 then some ((0 : Int32), u) else some ((1 : Int32), u)))
set_option maxRecDepth 100000 in
set_option maxHeartbeats 4000000 in
theorem kX5_hasSailor_e {ad adK adV : Nat → Nat} {tS tF : Nat} {tX sK sV : Nat → Nat} {p : Program} {l : Launch} {e : Env} {s : State} {m : MethodId} {args : Array Value} {below : List Frame} {meth : Method} {c : Code} {A : Nat → Prop} {D : va_G} {cI cF cC cS cO cB cZ : ClassId} {Q : State → Prop} {q : Nat → Nat} (C : vC (vE ad adK adV tS tF tX sK sV) p l s m args meth c A D (vT7 cI cF cC cS cO cB cZ) cX5_hasSailor 2 RX5) {r0 : Int32} {u0 : vH} (RET : ∀ (pc : Nat) (lv : List (Nat × Value)), decode cX5_hasSailor pc = .ok (.ireturn, 1) → (r0 = 0 ∨ r0 = 1) → vV p l e { frames := 0, cells := 0, slots := 0, locals := 0 } s m args below meth c A D 2 0 0 Q (wS q cI cF u0) pc lv [.int r0]) {x1 : Int32} {u : vH} (h : fX5_hasSailor x1 u = some (r0, u0)) : vV p l e { frames := 0, cells := 0, slots := 0, locals := 0 } s m args below meth c A D 2 0 0 Q (wS q cI cF u) 0 [(0, .ref (q 0)), (1, .int x1)] [] := by
  rw [fX5_hasSailor] at h
  refine vi_iload_n C 1 dX5_hasSailor_0 rfl ?_
  refine vi_if_lt (tgt := 16) C dX5_hasSailor_1 (by decide) (fun hc1 => ?_) (fun hc1 => ?_)
  · have h := ob_t h hc1
    refine vi_iconst (v := 0) C dX5_hasSailor_16 (by decide) ?_
    exact vi_donez (W := wS q cI cF) RET h (by decide) dX5_hasSailor_17
  · have h := ob_f h hc1
    refine vi_iload_n C 1 dX5_hasSailor_4 rfl ?_
    refine vi_aload_n C 0 dX5_hasSailor_5 rfl ?_
    refine gS_X5_0_0 C dX5_hasSailor_6 ?_
    refine vi_icmp_ge (tgt := 16) C dX5_hasSailor_9 (by decide) (fun hc2 => ?_) (fun hc2 => ?_)
    · have h := ob_t h hc2
      refine vi_iconst (v := 0) C dX5_hasSailor_16 (by decide) ?_
      exact vi_donez (W := wS q cI cF) RET h (by decide) dX5_hasSailor_17
    · have h := ob_f h hc2
      refine vi_iconst (v := 1) C dX5_hasSailor_12 (by decide) ?_
      refine vi_goto (tgt := 17) C dX5_hasSailor_13 (by decide) ?_
      exact vi_donez (W := wS q cI cF) RET h (by decide) dX5_hasSailor_17
theorem mX5_hasSailor {ad adK adV : Nat → Nat} {tS tF : Nat} {tX sK sV : Nat → Nat} (hE : vEok (vE ad adK adV tS tF tX sK sV)) {l : Launch} {D : va_G} {cI cF cC cS cO cB cZ : ClassId} {q : Nat → Nat} {r0 : Int32} {u0 : vH}  {x1 : Int32} {u : vH} (h : fX5_hasSailor x1 u = some (r0, u0)) : vM (vE ad adK adV tS tF tX sK sV) l yX5_hasSailor cX5_hasSailor 2 (some .boolean) 0 0 D (vT7 cI cF cC cS cO cB cZ) [.ref (q 0), .int x1] (wS q cI cF u) (vQi D (wS q cI cF u0) r0) :=
  vM_of hE (by decide +kernel) (Nat.le_of_ble_eq_true rfl) (fun p e s m args below meth c A C hr => kX5_hasSailor_e C (vi_retzz C hr) h)
-- ---- X5_hasBoth
def fX5_hasBoth (x1 : Int32) (x2 : Int32) (u : vH) : Option (Int32 × vH) := obp (fX5_hasSailor x1 u) fun y2 u1 => (if y2 = 0 then some ((0 : Int32), u1) else obp (fX5_hasSailor x2 u1) fun y5 u4 => (if y5 = 0 then some ((0 : Int32), u4) else some ((1 : Int32), u4)))
set_option maxRecDepth 100000 in
set_option maxHeartbeats 4000000 in
theorem kX5_hasBoth_e {ad adK adV : Nat → Nat} {tS tF : Nat} {tX sK sV : Nat → Nat} {p : Program} {l : Launch} {e : Env} {s : State} {m : MethodId} {args : Array Value} {below : List Frame} {meth : Method} {c : Code} {A : Nat → Prop} {D : va_G} {cI cF cC cS cO cB cZ : ClassId} {Q : State → Prop} {q : Nat → Nat} (C : vC (vE ad adK adV tS tF tX sK sV) p l s m args meth c A D (vT7 cI cF cC cS cO cB cZ) cX5_hasBoth 3 RX5) {r0 : Int32} {u0 : vH} (RET : ∀ (pc : Nat) (lv : List (Nat × Value)), decode cX5_hasBoth pc = .ok (.ireturn, 1) → (r0 = 0 ∨ r0 = 1) → vV p l e { frames := 1, cells := 0, slots := 0, locals := 21 } s m args below meth c A D 3 0 0 Q (wS q cI cF u0) pc lv [.int r0]) {x1 : Int32} {x2 : Int32} {u : vH} (h : fX5_hasBoth x1 x2 u = some (r0, u0)) : vV p l e { frames := 1, cells := 0, slots := 0, locals := 21 } s m args below meth c A D 3 0 0 Q (wS q cI cF u) 0 [(0, .ref (q 0)), (1, .int x1), (2, .int x2)] [] := by
  rw [fX5_hasBoth] at h
  refine vi_aload_n C 0 dX5_hasBoth_0 rfl ?_
  refine vi_iload_n C 1 dX5_hasBoth_1 rfl ?_
  obtain ⟨y2, u1, hgu1, h⟩ := ob_p h
  refine cS_X5_i (As := [.int x1]) (rest := []) C (mX5_hasSailor C.2.2.2.2.2.2.2.2.1 hgu1) 1 rfl tcX5_hasSailor tlX5_66 tiX5_hasSailor tsX5_hasSailor rfl tnX5 tdX5_hasSailor ⟨Nat.le_of_ble_eq_true rfl, Nat.le_of_ble_eq_true rfl⟩ rfl (Nat.le_of_ble_eq_true rfl) dX5_hasBoth_2 ?_
  refine vi_if_eq (tgt := 20) C dX5_hasBoth_5 (by decide) (fun hc3 => ?_) (fun hc3 => ?_)
  · have h := ob_t h hc3
    refine vi_iconst (v := 0) C dX5_hasBoth_20 (by decide) ?_
    exact vi_donez (W := wS q cI cF) RET h (by decide) dX5_hasBoth_21
  · have h := ob_f h hc3
    refine vi_aload_n C 0 dX5_hasBoth_8 rfl ?_
    refine vi_iload_n C 2 dX5_hasBoth_9 rfl ?_
    obtain ⟨y5, u4, hgu4, h⟩ := ob_p h
    refine cS_X5_i (As := [.int x2]) (rest := []) C (mX5_hasSailor C.2.2.2.2.2.2.2.2.1 hgu4) 1 rfl tcX5_hasSailor tlX5_66 tiX5_hasSailor tsX5_hasSailor rfl tnX5 tdX5_hasSailor ⟨Nat.le_of_ble_eq_true rfl, Nat.le_of_ble_eq_true rfl⟩ rfl (Nat.le_of_ble_eq_true rfl) dX5_hasBoth_10 ?_
    refine vi_if_eq (tgt := 20) C dX5_hasBoth_13 (by decide) (fun hc6 => ?_) (fun hc6 => ?_)
    · have h := ob_t h hc6
      refine vi_iconst (v := 0) C dX5_hasBoth_20 (by decide) ?_
      exact vi_donez (W := wS q cI cF) RET h (by decide) dX5_hasBoth_21
    · have h := ob_f h hc6
      refine vi_iconst (v := 1) C dX5_hasBoth_16 (by decide) ?_
      refine vi_goto (tgt := 21) C dX5_hasBoth_17 (by decide) ?_
      exact vi_donez (W := wS q cI cF) RET h (by decide) dX5_hasBoth_21
theorem mX5_hasBoth {ad adK adV : Nat → Nat} {tS tF : Nat} {tX sK sV : Nat → Nat} (hE : vEok (vE ad adK adV tS tF tX sK sV)) {l : Launch} {D : va_G} {cI cF cC cS cO cB cZ : ClassId} {q : Nat → Nat} {r0 : Int32} {u0 : vH}  {x1 : Int32} {x2 : Int32} {u : vH} (h : fX5_hasBoth x1 x2 u = some (r0, u0)) : vM (vE ad adK adV tS tF tX sK sV) l yX5_hasBoth cX5_hasBoth 3 (some .boolean) 1 21 D (vT7 cI cF cC cS cO cB cZ) [.ref (q 0), .int x1, .int x2] (wS q cI cF u) (vQi D (wS q cI cF u0) r0) :=
  vM_of hE (by decide +kernel) (Nat.le_of_ble_eq_true rfl) (fun p e s m args below meth c A C hr => kX5_hasBoth_e C (vi_retzz C hr) h)
-- ---- X5_hasSight
def fX5_hasSight (x1 : Int32) (u : vH) : Option (Int32 × vH) := (if x1 < 0 then some ((0 : Int32), u) else (if u.1 0 7 ≤ x1 then some ((0 : Int32), u) else some ((1 : Int32), u)))
set_option maxRecDepth 100000 in
set_option maxHeartbeats 4000000 in
theorem kX5_hasSight_e {ad adK adV : Nat → Nat} {tS tF : Nat} {tX sK sV : Nat → Nat} {p : Program} {l : Launch} {e : Env} {s : State} {m : MethodId} {args : Array Value} {below : List Frame} {meth : Method} {c : Code} {A : Nat → Prop} {D : va_G} {cI cF cC cS cO cB cZ : ClassId} {Q : State → Prop} {q : Nat → Nat} (C : vC (vE ad adK adV tS tF tX sK sV) p l s m args meth c A D (vT7 cI cF cC cS cO cB cZ) cX5_hasSight 2 RX5) {r0 : Int32} {u0 : vH} (RET : ∀ (pc : Nat) (lv : List (Nat × Value)), decode cX5_hasSight pc = .ok (.ireturn, 1) → (r0 = 0 ∨ r0 = 1) → vV p l e { frames := 0, cells := 0, slots := 0, locals := 0 } s m args below meth c A D 2 0 0 Q (wS q cI cF u0) pc lv [.int r0]) {x1 : Int32} {u : vH} (h : fX5_hasSight x1 u = some (r0, u0)) : vV p l e { frames := 0, cells := 0, slots := 0, locals := 0 } s m args below meth c A D 2 0 0 Q (wS q cI cF u) 0 [(0, .ref (q 0)), (1, .int x1)] [] := by
  rw [fX5_hasSight] at h
  refine vi_iload_n C 1 dX5_hasSight_0 rfl ?_
  refine vi_if_lt (tgt := 16) C dX5_hasSight_1 (by decide) (fun hc1 => ?_) (fun hc1 => ?_)
  · have h := ob_t h hc1
    refine vi_iconst (v := 0) C dX5_hasSight_16 (by decide) ?_
    exact vi_donez (W := wS q cI cF) RET h (by decide) dX5_hasSight_17
  · have h := ob_f h hc1
    refine vi_iload_n C 1 dX5_hasSight_4 rfl ?_
    refine vi_aload_n C 0 dX5_hasSight_5 rfl ?_
    refine gS_X5_0_7 C dX5_hasSight_6 ?_
    refine vi_icmp_ge (tgt := 16) C dX5_hasSight_9 (by decide) (fun hc2 => ?_) (fun hc2 => ?_)
    · have h := ob_t h hc2
      refine vi_iconst (v := 0) C dX5_hasSight_16 (by decide) ?_
      exact vi_donez (W := wS q cI cF) RET h (by decide) dX5_hasSight_17
    · have h := ob_f h hc2
      refine vi_iconst (v := 1) C dX5_hasSight_12 (by decide) ?_
      refine vi_goto (tgt := 17) C dX5_hasSight_13 (by decide) ?_
      exact vi_donez (W := wS q cI cF) RET h (by decide) dX5_hasSight_17
theorem mX5_hasSight {ad adK adV : Nat → Nat} {tS tF : Nat} {tX sK sV : Nat → Nat} (hE : vEok (vE ad adK adV tS tF tX sK sV)) {l : Launch} {D : va_G} {cI cF cC cS cO cB cZ : ClassId} {q : Nat → Nat} {r0 : Int32} {u0 : vH}  {x1 : Int32} {u : vH} (h : fX5_hasSight x1 u = some (r0, u0)) : vM (vE ad adK adV tS tF tX sK sV) l yX5_hasSight cX5_hasSight 2 (some .boolean) 0 0 D (vT7 cI cF cC cS cO cB cZ) [.ref (q 0), .int x1] (wS q cI cF u) (vQi D (wS q cI cF u0) r0) :=
  vM_of hE (by decide +kernel) (Nat.le_of_ble_eq_true rfl) (fun p e s m args below meth c A C hr => kX5_hasSight_e C (vi_retzz C hr) h)
-- ---- X5_isInRange
def fX5_isInRange (x1 : Nat) (x2 : Int32) (x3 : Int32) (u : vH) : Option (Int32 × vH) := if x1 < 10 then if nI x1 < 0 ∨ 10 ≤ Int32.toNatClampNeg (nI x1) then none else (if vsw.getD (Int32.toNatClampNeg (nI x1)) 0 = 1 then (fX5_isMood x3).bind fun y3 => if y3 = 0 ∨ y3 = 1 then some (y3, u) else none else (if vsw.getD (Int32.toNatClampNeg (nI x1)) 0 = 2 then obp (fX5_hasSailor x2 u) fun y7 u6 => if y7 = 0 ∨ y7 = 1 then some (y7, u6) else none else (if vsw.getD (Int32.toNatClampNeg (nI x1)) 0 = 3 then obp (fX5_hasSailor x2 u) fun y11 u10 => if y11 = 0 ∨ y11 = 1 then some (y11, u10) else none else (if vsw.getD (Int32.toNatClampNeg (nI x1)) 0 = 4 then obp (fX5_hasSailor x2 u) fun y15 u14 => (if y15 = 0 then some ((0 : Int32), u14) else (fX5_isMood x3).bind fun y17 => (if y17 = 0 then some ((0 : Int32), u14) else some ((1 : Int32), u14))) else (if vsw.getD (Int32.toNatClampNeg (nI x1)) 0 = 5 then obp (fX5_hasSailor x2 u) fun y21 u20 => (if y21 = 0 then some ((0 : Int32), u20) else (fX5_isGift x3).bind fun y23 => (if y23 = 0 then some ((0 : Int32), u20) else some ((1 : Int32), u20))) else (if vsw.getD (Int32.toNatClampNeg (nI x1)) 0 = 6 then obp (fX5_hasSailor x2 u) fun y27 u26 => (if y27 = 0 then some ((0 : Int32), u26) else (fX5_isWatch x3).bind fun y29 => (if y29 = 0 then some ((0 : Int32), u26) else some ((1 : Int32), u26))) else (if vsw.getD (Int32.toNatClampNeg (nI x1)) 0 = 7 then (fX5_isWatch x2).bind fun y32 => (if y32 = 0 then some ((0 : Int32), u) else (fX5_isHorizon x3).bind fun y34 => (if y34 = 0 then some ((0 : Int32), u) else some ((1 : Int32), u))) else (if vsw.getD (Int32.toNatClampNeg (nI x1)) 0 = 8 then (fX5_isError x3).bind fun y37 => if y37 = 0 ∨ y37 = 1 then some (y37, u) else none else some ((1 : Int32), u))))))))) else none
set_option maxRecDepth 100000 in
set_option maxHeartbeats 4000000 in
theorem kX5_isInRange_e {ad adK adV : Nat → Nat} {tS tF : Nat} {tX sK sV : Nat → Nat} {p : Program} {l : Launch} {e : Env} {s : State} {m : MethodId} {args : Array Value} {below : List Frame} {meth : Method} {c : Code} {A : Nat → Prop} {D : va_G} {cI cF cC cS cO cB cZ : ClassId} {Q : State → Prop} {q : Nat → Nat} (C : vC (vE ad adK adV tS tF tX sK sV) p l s m args meth c A D (vT7 cI cF cC cS cO cB cZ) cX5_isInRange 4 RX5) {r0 : Int32} {u0 : vH} (RET : ∀ (pc : Nat) (lv : List (Nat × Value)), decode cX5_isInRange pc = .ok (.ireturn, 1) → (r0 = 0 ∨ r0 = 1) → vV p l e { frames := 1, cells := 0, slots := 0, locals := 21 } s m args below meth c A D 4 0 0 Q (wS q cI cF u0) pc lv [.int r0]) {x1 : Nat} {x2 : Int32} {x3 : Int32} {u : vH} (h : fX5_isInRange x1 x2 x3 u = some (r0, u0)) : vV p l e { frames := 1, cells := 0, slots := 0, locals := 21 } s m args below meth c A D 4 0 0 Q (wS q cI cF u) 0 [(0, .ref (q 0)), (1, .ref (ad x1)), (2, .int x2), (3, .int x3)] [] := by
  rw [fX5_isInRange] at h
  refine vi_getSw C tfX5_70 dX5_isInRange_0 ?_
  refine vi_aload_n C 1 dX5_isInRange_3 rfl ?_
  obtain ⟨hz1, h⟩ := ob_ok h
  refine vi_callOrd (rest := [.ref tS]) C hz1 tlX5_75 ⟨Nat.le_of_ble_eq_true rfl, Nat.le_of_ble_eq_true rfl⟩ (Nat.le_of_ble_eq_true rfl) dX5_isInRange_4 ?_
  obtain ⟨hz2, h⟩ := ob_if h
  refine vi_ldSw (n := (Int32.toNatClampNeg (nI x1))) C hz2 rfl dX5_isInRange_7 ?_
  by_cases hc5 : vsw.getD (Int32.toNatClampNeg (nI x1)) 0 = 1
  · have h := ob_t h hc5
    refine vi_tswIn (off := 48) (tgt := 56) C dX5_isInRange_8 (by rw [hc5]; decide) (by rw [hc5]; decide) (by rw [hc5]; rfl) (by decide) ?_
    refine vi_iload_n C 3 dX5_isInRange_56 rfl ?_
    obtain ⟨y3, hgy3, h⟩ := ob_bd h
    refine vi_callS0i (As := [.int x3]) (rest := []) C (mX5_isMood C.2.2.2.2.2.2.2.2.1 hgy3) 1 rfl tcX5_isMood tlX5_81 ttX5_isMood tnX5 tdX5_isMood ⟨Nat.le_of_ble_eq_true rfl, Nat.le_of_ble_eq_true rfl⟩ rfl (Nat.le_of_ble_eq_true rfl) dX5_isInRange_57 ?_
    obtain ⟨hz4, h⟩ := ob_ok h
    exact vi_donez (W := wS q cI cF) RET h hz4 dX5_isInRange_60
  · replace h := ob_f h hc5
    by_cases hc9 : vsw.getD (Int32.toNatClampNeg (nI x1)) 0 = 2
    · have h := ob_t h hc9
      refine vi_tswIn (off := 53) (tgt := 61) C dX5_isInRange_8 (by rw [hc9]; decide) (by rw [hc9]; decide) (by rw [hc9]; rfl) (by decide) ?_
      refine vi_aload_n C 0 dX5_isInRange_61 rfl ?_
      refine vi_iload_n C 2 dX5_isInRange_62 rfl ?_
      obtain ⟨y7, u6, hgu6, h⟩ := ob_p h
      refine cS_X5_i (As := [.int x2]) (rest := []) C (mX5_hasSailor C.2.2.2.2.2.2.2.2.1 hgu6) 1 rfl tcX5_hasSailor tlX5_66 tiX5_hasSailor tsX5_hasSailor rfl tnX5 tdX5_hasSailor ⟨Nat.le_of_ble_eq_true rfl, Nat.le_of_ble_eq_true rfl⟩ rfl (Nat.le_of_ble_eq_true rfl) dX5_isInRange_63 ?_
      obtain ⟨hz8, h⟩ := ob_ok h
      exact vi_donez (W := wS q cI cF) RET h hz8 dX5_isInRange_66
    · replace h := ob_f h hc9
      by_cases hc13 : vsw.getD (Int32.toNatClampNeg (nI x1)) 0 = 3
      · have h := ob_t h hc13
        refine vi_tswIn (off := 59) (tgt := 67) C dX5_isInRange_8 (by rw [hc13]; decide) (by rw [hc13]; decide) (by rw [hc13]; rfl) (by decide) ?_
        refine vi_aload_n C 0 dX5_isInRange_67 rfl ?_
        refine vi_iload_n C 2 dX5_isInRange_68 rfl ?_
        obtain ⟨y11, u10, hgu10, h⟩ := ob_p h
        refine cS_X5_i (As := [.int x2]) (rest := []) C (mX5_hasSailor C.2.2.2.2.2.2.2.2.1 hgu10) 1 rfl tcX5_hasSailor tlX5_66 tiX5_hasSailor tsX5_hasSailor rfl tnX5 tdX5_hasSailor ⟨Nat.le_of_ble_eq_true rfl, Nat.le_of_ble_eq_true rfl⟩ rfl (Nat.le_of_ble_eq_true rfl) dX5_isInRange_69 ?_
        obtain ⟨hz12, h⟩ := ob_ok h
        exact vi_donez (W := wS q cI cF) RET h hz12 dX5_isInRange_72
      · replace h := ob_f h hc13
        by_cases hc19 : vsw.getD (Int32.toNatClampNeg (nI x1)) 0 = 4
        · have h := ob_t h hc19
          refine vi_tswIn (off := 65) (tgt := 73) C dX5_isInRange_8 (by rw [hc19]; decide) (by rw [hc19]; decide) (by rw [hc19]; rfl) (by decide) ?_
          refine vi_aload_n C 0 dX5_isInRange_73 rfl ?_
          refine vi_iload_n C 2 dX5_isInRange_74 rfl ?_
          obtain ⟨y15, u14, hgu14, h⟩ := ob_p h
          refine cS_X5_i (As := [.int x2]) (rest := []) C (mX5_hasSailor C.2.2.2.2.2.2.2.2.1 hgu14) 1 rfl tcX5_hasSailor tlX5_66 tiX5_hasSailor tsX5_hasSailor rfl tnX5 tdX5_hasSailor ⟨Nat.le_of_ble_eq_true rfl, Nat.le_of_ble_eq_true rfl⟩ rfl (Nat.le_of_ble_eq_true rfl) dX5_isInRange_75 ?_
          refine vi_if_eq (tgt := 92) C dX5_isInRange_78 (by decide) (fun hc16 => ?_) (fun hc16 => ?_)
          · have h := ob_t h hc16
            refine vi_iconst (v := 0) C dX5_isInRange_92 (by decide) ?_
            exact vi_donez (W := wS q cI cF) RET h (by decide) dX5_isInRange_93
          · have h := ob_f h hc16
            refine vi_iload_n C 3 dX5_isInRange_81 rfl ?_
            obtain ⟨y17, hgy17, h⟩ := ob_bd h
            refine vi_callS0i (As := [.int x3]) (rest := []) C (mX5_isMood C.2.2.2.2.2.2.2.2.1 hgy17) 1 rfl tcX5_isMood tlX5_81 ttX5_isMood tnX5 tdX5_isMood ⟨Nat.le_of_ble_eq_true rfl, Nat.le_of_ble_eq_true rfl⟩ rfl (Nat.le_of_ble_eq_true rfl) dX5_isInRange_82 ?_
            refine vi_if_eq (tgt := 92) C dX5_isInRange_85 (by decide) (fun hc18 => ?_) (fun hc18 => ?_)
            · have h := ob_t h hc18
              refine vi_iconst (v := 0) C dX5_isInRange_92 (by decide) ?_
              exact vi_donez (W := wS q cI cF) RET h (by decide) dX5_isInRange_93
            · have h := ob_f h hc18
              refine vi_iconst (v := 1) C dX5_isInRange_88 (by decide) ?_
              refine vi_goto (tgt := 93) C dX5_isInRange_89 (by decide) ?_
              exact vi_donez (W := wS q cI cF) RET h (by decide) dX5_isInRange_93
        · replace h := ob_f h hc19
          by_cases hc25 : vsw.getD (Int32.toNatClampNeg (nI x1)) 0 = 5
          · have h := ob_t h hc25
            refine vi_tswIn (off := 86) (tgt := 94) C dX5_isInRange_8 (by rw [hc25]; decide) (by rw [hc25]; decide) (by rw [hc25]; rfl) (by decide) ?_
            refine vi_aload_n C 0 dX5_isInRange_94 rfl ?_
            refine vi_iload_n C 2 dX5_isInRange_95 rfl ?_
            obtain ⟨y21, u20, hgu20, h⟩ := ob_p h
            refine cS_X5_i (As := [.int x2]) (rest := []) C (mX5_hasSailor C.2.2.2.2.2.2.2.2.1 hgu20) 1 rfl tcX5_hasSailor tlX5_66 tiX5_hasSailor tsX5_hasSailor rfl tnX5 tdX5_hasSailor ⟨Nat.le_of_ble_eq_true rfl, Nat.le_of_ble_eq_true rfl⟩ rfl (Nat.le_of_ble_eq_true rfl) dX5_isInRange_96 ?_
            refine vi_if_eq (tgt := 113) C dX5_isInRange_99 (by decide) (fun hc22 => ?_) (fun hc22 => ?_)
            · have h := ob_t h hc22
              refine vi_iconst (v := 0) C dX5_isInRange_113 (by decide) ?_
              exact vi_donez (W := wS q cI cF) RET h (by decide) dX5_isInRange_114
            · have h := ob_f h hc22
              refine vi_iload_n C 3 dX5_isInRange_102 rfl ?_
              obtain ⟨y23, hgy23, h⟩ := ob_bd h
              refine vi_callS0i (As := [.int x3]) (rest := []) C (mX5_isGift C.2.2.2.2.2.2.2.2.1 hgy23) 1 rfl tcX5_isGift tlX5_84 ttX5_isGift tnX5 tdX5_isGift ⟨Nat.le_of_ble_eq_true rfl, Nat.le_of_ble_eq_true rfl⟩ rfl (Nat.le_of_ble_eq_true rfl) dX5_isInRange_103 ?_
              refine vi_if_eq (tgt := 113) C dX5_isInRange_106 (by decide) (fun hc24 => ?_) (fun hc24 => ?_)
              · have h := ob_t h hc24
                refine vi_iconst (v := 0) C dX5_isInRange_113 (by decide) ?_
                exact vi_donez (W := wS q cI cF) RET h (by decide) dX5_isInRange_114
              · have h := ob_f h hc24
                refine vi_iconst (v := 1) C dX5_isInRange_109 (by decide) ?_
                refine vi_goto (tgt := 114) C dX5_isInRange_110 (by decide) ?_
                exact vi_donez (W := wS q cI cF) RET h (by decide) dX5_isInRange_114
          · replace h := ob_f h hc25
            by_cases hc31 : vsw.getD (Int32.toNatClampNeg (nI x1)) 0 = 6
            · have h := ob_t h hc31
              refine vi_tswIn (off := 107) (tgt := 115) C dX5_isInRange_8 (by rw [hc31]; decide) (by rw [hc31]; decide) (by rw [hc31]; rfl) (by decide) ?_
              refine vi_aload_n C 0 dX5_isInRange_115 rfl ?_
              refine vi_iload_n C 2 dX5_isInRange_116 rfl ?_
              obtain ⟨y27, u26, hgu26, h⟩ := ob_p h
              refine cS_X5_i (As := [.int x2]) (rest := []) C (mX5_hasSailor C.2.2.2.2.2.2.2.2.1 hgu26) 1 rfl tcX5_hasSailor tlX5_66 tiX5_hasSailor tsX5_hasSailor rfl tnX5 tdX5_hasSailor ⟨Nat.le_of_ble_eq_true rfl, Nat.le_of_ble_eq_true rfl⟩ rfl (Nat.le_of_ble_eq_true rfl) dX5_isInRange_117 ?_
              refine vi_if_eq (tgt := 134) C dX5_isInRange_120 (by decide) (fun hc28 => ?_) (fun hc28 => ?_)
              · have h := ob_t h hc28
                refine vi_iconst (v := 0) C dX5_isInRange_134 (by decide) ?_
                exact vi_donez (W := wS q cI cF) RET h (by decide) dX5_isInRange_135
              · have h := ob_f h hc28
                refine vi_iload_n C 3 dX5_isInRange_123 rfl ?_
                obtain ⟨y29, hgy29, h⟩ := ob_bd h
                refine vi_callS0i (As := [.int x3]) (rest := []) C (mX5_isWatch C.2.2.2.2.2.2.2.2.1 hgy29) 1 rfl tcX5_isWatch tlX5_87 ttX5_isWatch tnX5 tdX5_isWatch ⟨Nat.le_of_ble_eq_true rfl, Nat.le_of_ble_eq_true rfl⟩ rfl (Nat.le_of_ble_eq_true rfl) dX5_isInRange_124 ?_
                refine vi_if_eq (tgt := 134) C dX5_isInRange_127 (by decide) (fun hc30 => ?_) (fun hc30 => ?_)
                · have h := ob_t h hc30
                  refine vi_iconst (v := 0) C dX5_isInRange_134 (by decide) ?_
                  exact vi_donez (W := wS q cI cF) RET h (by decide) dX5_isInRange_135
                · have h := ob_f h hc30
                  refine vi_iconst (v := 1) C dX5_isInRange_130 (by decide) ?_
                  refine vi_goto (tgt := 135) C dX5_isInRange_131 (by decide) ?_
                  exact vi_donez (W := wS q cI cF) RET h (by decide) dX5_isInRange_135
            · replace h := ob_f h hc31
              by_cases hc36 : vsw.getD (Int32.toNatClampNeg (nI x1)) 0 = 7
              · have h := ob_t h hc36
                refine vi_tswIn (off := 128) (tgt := 136) C dX5_isInRange_8 (by rw [hc36]; decide) (by rw [hc36]; decide) (by rw [hc36]; rfl) (by decide) ?_
                refine vi_iload_n C 2 dX5_isInRange_136 rfl ?_
                obtain ⟨y32, hgy32, h⟩ := ob_bd h
                refine vi_callS0i (As := [.int x2]) (rest := []) C (mX5_isWatch C.2.2.2.2.2.2.2.2.1 hgy32) 1 rfl tcX5_isWatch tlX5_87 ttX5_isWatch tnX5 tdX5_isWatch ⟨Nat.le_of_ble_eq_true rfl, Nat.le_of_ble_eq_true rfl⟩ rfl (Nat.le_of_ble_eq_true rfl) dX5_isInRange_137 ?_
                refine vi_if_eq (tgt := 154) C dX5_isInRange_140 (by decide) (fun hc33 => ?_) (fun hc33 => ?_)
                · have h := ob_t h hc33
                  refine vi_iconst (v := 0) C dX5_isInRange_154 (by decide) ?_
                  exact vi_donez (W := wS q cI cF) RET h (by decide) dX5_isInRange_155
                · have h := ob_f h hc33
                  refine vi_iload_n C 3 dX5_isInRange_143 rfl ?_
                  obtain ⟨y34, hgy34, h⟩ := ob_bd h
                  refine vi_callS0i (As := [.int x3]) (rest := []) C (mX5_isHorizon C.2.2.2.2.2.2.2.2.1 hgy34) 1 rfl tcX5_isHorizon tlX5_90 ttX5_isHorizon tnX5 tdX5_isHorizon ⟨Nat.le_of_ble_eq_true rfl, Nat.le_of_ble_eq_true rfl⟩ rfl (Nat.le_of_ble_eq_true rfl) dX5_isInRange_144 ?_
                  refine vi_if_eq (tgt := 154) C dX5_isInRange_147 (by decide) (fun hc35 => ?_) (fun hc35 => ?_)
                  · have h := ob_t h hc35
                    refine vi_iconst (v := 0) C dX5_isInRange_154 (by decide) ?_
                    exact vi_donez (W := wS q cI cF) RET h (by decide) dX5_isInRange_155
                  · have h := ob_f h hc35
                    refine vi_iconst (v := 1) C dX5_isInRange_150 (by decide) ?_
                    refine vi_goto (tgt := 155) C dX5_isInRange_151 (by decide) ?_
                    exact vi_donez (W := wS q cI cF) RET h (by decide) dX5_isInRange_155
              · replace h := ob_f h hc36
                by_cases hc39 : vsw.getD (Int32.toNatClampNeg (nI x1)) 0 = 8
                · have h := ob_t h hc39
                  refine vi_tswIn (off := 148) (tgt := 156) C dX5_isInRange_8 (by rw [hc39]; decide) (by rw [hc39]; decide) (by rw [hc39]; rfl) (by decide) ?_
                  refine vi_iload_n C 3 dX5_isInRange_156 rfl ?_
                  obtain ⟨y37, hgy37, h⟩ := ob_bd h
                  refine vi_callS0i (As := [.int x3]) (rest := []) C (mX5_isError C.2.2.2.2.2.2.2.2.1 hgy37) 1 rfl tcX5_isError tlX5_93 ttX5_isError tnX5 tdX5_isError ⟨Nat.le_of_ble_eq_true rfl, Nat.le_of_ble_eq_true rfl⟩ rfl (Nat.le_of_ble_eq_true rfl) dX5_isInRange_157 ?_
                  obtain ⟨hz38, h⟩ := ob_ok h
                  exact vi_donez (W := wS q cI cF) RET h hz38 dX5_isInRange_160
                · replace h := ob_f h hc39
                  refine vi_tswOut (tgt := 161) C dX5_isInRange_8 (by have thc5 := lv_neT hc5 (a := 1) (by decide); have thc9 := lv_neT hc9 (a := 2) (by decide); have thc13 := lv_neT hc13 (a := 3) (by decide); have thc19 := lv_neT hc19 (a := 4) (by decide); have thc25 := lv_neT hc25 (a := 5) (by decide); have thc31 := lv_neT hc31 (a := 6) (by decide); have thc36 := lv_neT hc36 (a := 7) (by decide); have thc39 := lv_neT hc39 (a := 8) (by decide); omega) (by decide) ?_
                  refine vi_iconst (v := 1) C dX5_isInRange_161 (by decide) ?_
                  exact vi_donez (W := wS q cI cF) RET h (by decide) dX5_isInRange_162
theorem mX5_isInRange {ad adK adV : Nat → Nat} {tS tF : Nat} {tX sK sV : Nat → Nat} (hE : vEok (vE ad adK adV tS tF tX sK sV)) {l : Launch} {D : va_G} {cI cF cC cS cO cB cZ : ClassId} {q : Nat → Nat} {r0 : Int32} {u0 : vH}  {x1 : Nat} {x2 : Int32} {x3 : Int32} {u : vH} (h : fX5_isInRange x1 x2 x3 u = some (r0, u0)) : vM (vE ad adK adV tS tF tX sK sV) l yX5_isInRange cX5_isInRange 4 (some .boolean) 1 21 D (vT7 cI cF cC cS cO cB cZ) [.ref (q 0), .ref (ad x1), .int x2, .int x3] (wS q cI cF u) (vQi D (wS q cI cF u0) r0) :=
  vM_of hE (by decide +kernel) (Nat.le_of_ble_eq_true rfl) (fun p e s m args below meth c A C hr => kX5_isInRange_e C (vi_retzz C hr) h)
-- ---- X5_sightFrom
def fX5_sightFrom_2 : Nat → Int32 → Int32 → vH → Option (Int32 × vH)
  | 0, _, _, _ => none
  | n + 1, x1, x2, u => (if u.1 0 7 ≤ x2 then some ((-1 : Int32), u) else if x2 < 0 ∨ 10 ≤ Int32.toNatClampNeg x2 then none else (if u.1 5 (Int32.toNatClampNeg x2) = x1 then some (x2, u) else bd ((x2 + 1 : Int32)) fun y4 => fX5_sightFrom_2 n x1 y4 u))
set_option maxRecDepth 100000 in
set_option maxHeartbeats 4000000 in
theorem kX5_sightFrom_2 {ad adK adV : Nat → Nat} {tS tF : Nat} {tX sK sV : Nat → Nat} {p : Program} {l : Launch} {e : Env} {s : State} {m : MethodId} {args : Array Value} {below : List Frame} {meth : Method} {c : Code} {A : Nat → Prop} {D : va_G} {cI cF cC cS cO cB cZ : ClassId} {Q : State → Prop} {q : Nat → Nat} (C : vC (vE ad adK adV tS tF tX sK sV) p l s m args meth c A D (vT7 cI cF cC cS cO cB cZ) cX5_sightFrom 4 RX5) {r0 : Int32} {u0 : vH} (RET : ∀ (pc : Nat) (lv : List (Nat × Value)), decode cX5_sightFrom pc = .ok (.ireturn, 1) → vV p l e { frames := 0, cells := 0, slots := 0, locals := 0 } s m args below meth c A D 4 0 0 Q (wS q cI cF u0) pc lv [.int r0]) : ∀ (n : Nat) (x1 : Int32) (x2 : Int32) (u : vH), fX5_sightFrom_2 n x1 x2 u = some (r0, u0) → vV p l e { frames := 0, cells := 0, slots := 0, locals := 0 } s m args below meth c A D 4 0 0 Q (wS q cI cF u) 2 [(0, .ref (q 0)), (1, .int x1), (3, .int x2)] [] := by
  intro n
  induction n with
  | zero => intro x1 x2 u h; rw [fX5_sightFrom_2] at h; cases h
  | succ n ih =>
    intro x1 x2 u h
    rw [fX5_sightFrom_2] at h
    refine vi_iload_n C 2 dX5_sightFrom_2 rfl ?_
    refine vi_aload_n C 0 dX5_sightFrom_3 rfl ?_
    refine gS_X5_0_7 C dX5_sightFrom_4 ?_
    refine vi_icmp_ge (tgt := 28) C dX5_sightFrom_7 (by decide) (fun hc1 => ?_) (fun hc1 => ?_)
    · have h := ob_t h hc1
      refine vi_iconst (v := (-1)) C dX5_sightFrom_28 (by decide) ?_
      exact vi_donei (W := wS q cI cF) RET h dX5_sightFrom_29
    · have h := ob_f h hc1
      refine vi_aload_n C 0 dX5_sightFrom_10 rfl ?_
      refine gS_X5_0_8 C dX5_sightFrom_11 ?_
      refine vi_iload_n C 2 dX5_sightFrom_14 rfl ?_
      obtain ⟨hz2, h⟩ := ob_if h
      refine lS_X5_5 (n := (Int32.toNatClampNeg x2)) C hz2 rfl dX5_sightFrom_15 ?_
      refine vi_iload_n C 1 dX5_sightFrom_16 rfl ?_
      refine vi_icmp_ne (tgt := 22) C dX5_sightFrom_17 (by decide) (fun hc3 => ?_) (fun hc3 => ?_)
      · have h := ob_f h hc3
        obtain ⟨y4, ey4, h⟩ := ob_nm h
        refine vi_iinc (v := y4) (lv' := [(3, .int y4), (0, .ref (q 0)), (1, .int x1)]) C 2 dX5_sightFrom_22 rfl (by rw [ey4]; rfl) (by decide) rfl ?_
        refine vi_goto (tgt := 2) C dX5_sightFrom_25 (by decide) ?_
        refine vi_sub C [1, 2, 0] rfl ?_
        exact ih _ _ _ h
      · have h := ob_t h hc3
        refine vi_iload_n C 2 dX5_sightFrom_20 rfl ?_
        exact vi_donei (W := wS q cI cF) RET h dX5_sightFrom_21
def fX5_sightFrom (x1 : Int32) (x2 : Int32) (u : vH) : Option (Int32 × vH) := fX5_sightFrom_2 vF x1 x2 u
set_option maxRecDepth 100000 in
set_option maxHeartbeats 4000000 in
theorem kX5_sightFrom_e {ad adK adV : Nat → Nat} {tS tF : Nat} {tX sK sV : Nat → Nat} {p : Program} {l : Launch} {e : Env} {s : State} {m : MethodId} {args : Array Value} {below : List Frame} {meth : Method} {c : Code} {A : Nat → Prop} {D : va_G} {cI cF cC cS cO cB cZ : ClassId} {Q : State → Prop} {q : Nat → Nat} (C : vC (vE ad adK adV tS tF tX sK sV) p l s m args meth c A D (vT7 cI cF cC cS cO cB cZ) cX5_sightFrom 4 RX5) {r0 : Int32} {u0 : vH} (RET : ∀ (pc : Nat) (lv : List (Nat × Value)), decode cX5_sightFrom pc = .ok (.ireturn, 1) → vV p l e { frames := 0, cells := 0, slots := 0, locals := 0 } s m args below meth c A D 4 0 0 Q (wS q cI cF u0) pc lv [.int r0]) {x1 : Int32} {x2 : Int32} {u : vH} (h : fX5_sightFrom x1 x2 u = some (r0, u0)) : vV p l e { frames := 0, cells := 0, slots := 0, locals := 0 } s m args below meth c A D 4 0 0 Q (wS q cI cF u) 0 [(0, .ref (q 0)), (1, .int x1), (2, .int x2)] [] := by
  rw [fX5_sightFrom] at h
  refine vi_iload_n C 2 dX5_sightFrom_0 rfl ?_
  refine vi_istore_n (lv' := [(3, .int x2), (0, .ref (q 0)), (1, .int x1), (2, .int x2)]) C dX5_sightFrom_1 rfl (by decide) rfl ?_
  refine vi_sub C [1, 2, 0] rfl ?_
  exact kX5_sightFrom_2 C RET  vF _ _ _ h
theorem mX5_sightFrom {ad adK adV : Nat → Nat} {tS tF : Nat} {tX sK sV : Nat → Nat} (hE : vEok (vE ad adK adV tS tF tX sK sV)) {l : Launch} {D : va_G} {cI cF cC cS cO cB cZ : ClassId} {q : Nat → Nat} {r0 : Int32} {u0 : vH}  {x1 : Int32} {x2 : Int32} {u : vH} (h : fX5_sightFrom x1 x2 u = some (r0, u0)) : vM (vE ad adK adV tS tF tX sK sV) l yX5_sightFrom cX5_sightFrom 4 (some .int) 0 0 D (vT7 cI cF cC cS cO cB cZ) [.ref (q 0), .int x1, .int x2] (wS q cI cF u) (vQi D (wS q cI cF u0) r0) :=
  vM_of hE (by decide +kernel) (Nat.le_of_ble_eq_true rfl) (fun p e s m args below meth c A C hr => kX5_sightFrom_e C (vi_reti C hr) h)
-- ---- X5_isSightedNow
def fX5_isSightedNow (x1 : Int32) (u : vH) : Option (Int32 × vH) := obp (fX5_sightFrom x1 (0 : Int32) u) fun y2 u1 => (if y2 = (-1 : Int32) then some ((0 : Int32), u1) else if y2 < 0 ∨ 10 ≤ Int32.toNatClampNeg y2 then none else (if u1.1 6 (Int32.toNatClampNeg y2) = u1.1 0 6 then some ((1 : Int32), u1) else some ((0 : Int32), u1)))
set_option maxRecDepth 100000 in
set_option maxHeartbeats 4000000 in
theorem kX5_isSightedNow_e {ad adK adV : Nat → Nat} {tS tF : Nat} {tX sK sV : Nat → Nat} {p : Program} {l : Launch} {e : Env} {s : State} {m : MethodId} {args : Array Value} {below : List Frame} {meth : Method} {c : Code} {A : Nat → Prop} {D : va_G} {cI cF cC cS cO cB cZ : ClassId} {Q : State → Prop} {q : Nat → Nat} (C : vC (vE ad adK adV tS tF tX sK sV) p l s m args meth c A D (vT7 cI cF cC cS cO cB cZ) cX5_isSightedNow 3 RX5) {r0 : Int32} {u0 : vH} (RET : ∀ (pc : Nat) (lv : List (Nat × Value)), decode cX5_isSightedNow pc = .ok (.ireturn, 1) → (r0 = 0 ∨ r0 = 1) → vV p l e { frames := 1, cells := 0, slots := 0, locals := 23 } s m args below meth c A D 3 0 0 Q (wS q cI cF u0) pc lv [.int r0]) {x1 : Int32} {u : vH} (h : fX5_isSightedNow x1 u = some (r0, u0)) : vV p l e { frames := 1, cells := 0, slots := 0, locals := 23 } s m args below meth c A D 3 0 0 Q (wS q cI cF u) 0 [(0, .ref (q 0)), (1, .int x1)] [] := by
  rw [fX5_isSightedNow] at h
  refine vi_aload_n C 0 dX5_isSightedNow_0 rfl ?_
  refine vi_iload_n C 1 dX5_isSightedNow_1 rfl ?_
  refine vi_iconst (v := 0) C dX5_isSightedNow_2 (by decide) ?_
  obtain ⟨y2, u1, hgu1, h⟩ := ob_p h
  refine cS_X5_i (As := [.int x1, .int (0 : Int32)]) (rest := []) C (mX5_sightFrom C.2.2.2.2.2.2.2.2.1 hgu1) 2 rfl tcX5_sightFrom tlX5_127 tiX5_sightFrom tsX5_sightFrom rfl tnX5 tdX5_sightFrom ⟨Nat.le_of_ble_eq_true rfl, Nat.le_of_ble_eq_true rfl⟩ rfl (Nat.le_of_ble_eq_true rfl) dX5_isSightedNow_3 ?_
  refine vi_istore_n (lv' := [(2, .int y2), (0, .ref (q 0)), (1, .int x1)]) C dX5_isSightedNow_6 rfl (by decide) rfl ?_
  refine vi_iload_n C 0 dX5_isSightedNow_7 rfl ?_
  refine vi_iconst (v := (-1)) C dX5_isSightedNow_8 (by decide) ?_
  refine vi_icmp_eq (tgt := 29) C dX5_isSightedNow_9 (by decide) (fun hc3 => ?_) (fun hc3 => ?_)
  · have h := ob_t h hc3
    refine vi_iconst (v := 0) C dX5_isSightedNow_29 (by decide) ?_
    exact vi_donez (W := wS q cI cF) RET h (by decide) dX5_isSightedNow_30
  · have h := ob_f h hc3
    refine vi_aload_n C 1 dX5_isSightedNow_12 rfl ?_
    refine gS_X5_0_9 C dX5_isSightedNow_13 ?_
    refine vi_iload_n C 0 dX5_isSightedNow_16 rfl ?_
    obtain ⟨hz4, h⟩ := ob_if h
    refine lS_X5_6 (n := (Int32.toNatClampNeg y2)) C hz4 rfl dX5_isSightedNow_17 ?_
    refine vi_aload_n C 1 dX5_isSightedNow_18 rfl ?_
    refine gS_X5_0_6 C dX5_isSightedNow_19 ?_
    refine vi_icmp_ne (tgt := 29) C dX5_isSightedNow_22 (by decide) (fun hc5 => ?_) (fun hc5 => ?_)
    · have h := ob_f h hc5
      refine vi_iconst (v := 0) C dX5_isSightedNow_29 (by decide) ?_
      exact vi_donez (W := wS q cI cF) RET h (by decide) dX5_isSightedNow_30
    · have h := ob_t h hc5
      refine vi_iconst (v := 1) C dX5_isSightedNow_25 (by decide) ?_
      refine vi_goto (tgt := 30) C dX5_isSightedNow_26 (by decide) ?_
      exact vi_donez (W := wS q cI cF) RET h (by decide) dX5_isSightedNow_30
theorem mX5_isSightedNow {ad adK adV : Nat → Nat} {tS tF : Nat} {tX sK sV : Nat → Nat} (hE : vEok (vE ad adK adV tS tF tX sK sV)) {l : Launch} {D : va_G} {cI cF cC cS cO cB cZ : ClassId} {q : Nat → Nat} {r0 : Int32} {u0 : vH}  {x1 : Int32} {u : vH} (h : fX5_isSightedNow x1 u = some (r0, u0)) : vM (vE ad adK adV tS tF tX sK sV) l yX5_isSightedNow cX5_isSightedNow 3 (some .boolean) 1 23 D (vT7 cI cF cC cS cO cB cZ) [.ref (q 0), .int x1] (wS q cI cF u) (vQi D (wS q cI cF u0) r0) :=
  vM_of hE (by decide +kernel) (Nat.le_of_ble_eq_true rfl) (fun p e s m args below meth c A C hr => kX5_isSightedNow_e C (vi_retzz C hr) h)
-- ---- X5_reasonAgainst
def fX5_reasonAgainst (x1 : Nat) (x2 : Int32) (x3 : Int32) (u : vH) : Option (Int32 × vH) := if x1 < 10 then if nI x1 < 0 ∨ 10 ≤ Int32.toNatClampNeg (nI x1) then none else (if vsw.getD (Int32.toNatClampNeg (nI x1)) 0 = 1 then (if u.1 0 0 < (8 : Int32) then some ((0 : Int32), u) else some ((1 : Int32), u)) else (if vsw.getD (Int32.toNatClampNeg (nI x1)) 0 = 2 then some ((0 : Int32), u) else (if vsw.getD (Int32.toNatClampNeg (nI x1)) 0 = 3 then obp (fX5_isSightedNow x2 u) fun y7 u6 => (if y7 = 0 then some ((0 : Int32), u6) else some ((4 : Int32), u6)) else (if vsw.getD (Int32.toNatClampNeg (nI x1)) 0 = 4 then if x2 < 0 ∨ 8 ≤ Int32.toNatClampNeg x2 then none else (if u.1 1 (Int32.toNatClampNeg x2) = x3 then some ((2 : Int32), u) else some ((0 : Int32), u)) else (if vsw.getD (Int32.toNatClampNeg (nI x1)) 0 = 5 then if x2 < 0 ∨ 8 ≤ Int32.toNatClampNeg x2 then none else (if (u.1 2 (Int32.toNatClampNeg x2)) + x3 ≤ (9 : Int32) then some ((0 : Int32), u) else some ((3 : Int32), u)) else (if vsw.getD (Int32.toNatClampNeg (nI x1)) 0 = 6 then if x2 < 0 ∨ 8 ≤ Int32.toNatClampNeg x2 then none else (if u.1 3 (Int32.toNatClampNeg x2) = x3 then some ((2 : Int32), u) else some ((0 : Int32), u)) else (if vsw.getD (Int32.toNatClampNeg (nI x1)) 0 = 7 then if x2 < 0 ∨ 4 ≤ Int32.toNatClampNeg x2 then none else (if u.1 4 (Int32.toNatClampNeg x2) = x3 then some ((2 : Int32), u) else some ((0 : Int32), u)) else (if vsw.getD (Int32.toNatClampNeg (nI x1)) 0 = 8 then (if u.1 0 5 = x3 then some ((2 : Int32), u) else some ((0 : Int32), u)) else some ((0 : Int32), u))))))))) else none
set_option maxRecDepth 100000 in
set_option maxHeartbeats 4000000 in
theorem kX5_reasonAgainst_e {ad adK adV : Nat → Nat} {tS tF : Nat} {tX sK sV : Nat → Nat} {p : Program} {l : Launch} {e : Env} {s : State} {m : MethodId} {args : Array Value} {below : List Frame} {meth : Method} {c : Code} {A : Nat → Prop} {D : va_G} {cI cF cC cS cO cB cZ : ClassId} {Q : State → Prop} {q : Nat → Nat} (C : vC (vE ad adK adV tS tF tX sK sV) p l s m args meth c A D (vT7 cI cF cC cS cO cB cZ) cX5_reasonAgainst 4 RX5) {r0 : Int32} {u0 : vH} (RET : ∀ (pc : Nat) (lv : List (Nat × Value)), decode cX5_reasonAgainst pc = .ok (.ireturn, 1) → vV p l e { frames := 2, cells := 0, slots := 0, locals := 45 } s m args below meth c A D 4 0 0 Q (wS q cI cF u0) pc lv [.int r0]) {x1 : Nat} {x2 : Int32} {x3 : Int32} {u : vH} (h : fX5_reasonAgainst x1 x2 x3 u = some (r0, u0)) : vV p l e { frames := 2, cells := 0, slots := 0, locals := 45 } s m args below meth c A D 4 0 0 Q (wS q cI cF u) 0 [(0, .ref (q 0)), (1, .ref (ad x1)), (2, .int x2), (3, .int x3)] [] := by
  rw [fX5_reasonAgainst] at h
  refine vi_getSw C tfX5_70 dX5_reasonAgainst_0 ?_
  refine vi_aload_n C 1 dX5_reasonAgainst_3 rfl ?_
  obtain ⟨hz1, h⟩ := ob_ok h
  refine vi_callOrd (rest := [.ref tS]) C hz1 tlX5_75 ⟨Nat.le_of_ble_eq_true rfl, Nat.le_of_ble_eq_true rfl⟩ (Nat.le_of_ble_eq_true rfl) dX5_reasonAgainst_4 ?_
  obtain ⟨hz2, h⟩ := ob_if h
  refine vi_ldSw (n := (Int32.toNatClampNeg (nI x1))) C hz2 rfl dX5_reasonAgainst_7 ?_
  by_cases hc4 : vsw.getD (Int32.toNatClampNeg (nI x1)) 0 = 1
  · have h := ob_t h hc4
    refine vi_tswIn (off := 48) (tgt := 56) C dX5_reasonAgainst_8 (by rw [hc4]; decide) (by rw [hc4]; decide) (by rw [hc4]; rfl) (by decide) ?_
    refine vi_aload_n C 0 dX5_reasonAgainst_56 rfl ?_
    refine gS_X5_0_0 C dX5_reasonAgainst_57 ?_
    refine vi_bipush (v := 8) C dX5_reasonAgainst_60 (by decide) ?_
    refine vi_icmp_lt (tgt := 69) C dX5_reasonAgainst_62 (by decide) (fun hc3 => ?_) (fun hc3 => ?_)
    · have h := ob_t h hc3
      refine vi_iconst (v := 0) C dX5_reasonAgainst_69 (by decide) ?_
      exact vi_donei (W := wS q cI cF) RET h dX5_reasonAgainst_70
    · have h := ob_f h hc3
      refine vi_iconst (v := 1) C dX5_reasonAgainst_65 (by decide) ?_
      refine vi_goto (tgt := 70) C dX5_reasonAgainst_66 (by decide) ?_
      exact vi_donei (W := wS q cI cF) RET h dX5_reasonAgainst_70
  · replace h := ob_f h hc4
    by_cases hc5 : vsw.getD (Int32.toNatClampNeg (nI x1)) 0 = 2
    · have h := ob_t h hc5
      refine vi_tswIn (off := 158) (tgt := 166) C dX5_reasonAgainst_8 (by rw [hc5]; decide) (by rw [hc5]; decide) (by rw [hc5]; rfl) (by decide) ?_
      refine vi_iconst (v := 0) C dX5_reasonAgainst_166 (by decide) ?_
      exact vi_donei (W := wS q cI cF) RET h dX5_reasonAgainst_167
    · replace h := ob_f h hc5
      by_cases hc9 : vsw.getD (Int32.toNatClampNeg (nI x1)) 0 = 3
      · have h := ob_t h hc9
        refine vi_tswIn (off := 144) (tgt := 152) C dX5_reasonAgainst_8 (by rw [hc9]; decide) (by rw [hc9]; decide) (by rw [hc9]; rfl) (by decide) ?_
        refine vi_aload_n C 0 dX5_reasonAgainst_152 rfl ?_
        refine vi_iload_n C 2 dX5_reasonAgainst_153 rfl ?_
        obtain ⟨y7, u6, hgu6, h⟩ := ob_p h
        refine cS_X5_i (As := [.int x2]) (rest := []) C (mX5_isSightedNow C.2.2.2.2.2.2.2.2.1 hgu6) 1 rfl tcX5_isSightedNow tlX5_96 tiX5_isSightedNow tsX5_isSightedNow rfl tnX5 tdX5_isSightedNow ⟨Nat.le_of_ble_eq_true rfl, Nat.le_of_ble_eq_true rfl⟩ rfl (Nat.le_of_ble_eq_true rfl) dX5_reasonAgainst_154 ?_
        refine vi_if_eq (tgt := 164) C dX5_reasonAgainst_157 (by decide) (fun hc8 => ?_) (fun hc8 => ?_)
        · have h := ob_t h hc8
          refine vi_iconst (v := 0) C dX5_reasonAgainst_164 (by decide) ?_
          exact vi_donei (W := wS q cI cF) RET h dX5_reasonAgainst_165
        · have h := ob_f h hc8
          refine vi_iconst (v := 4) C dX5_reasonAgainst_160 (by decide) ?_
          refine vi_goto (tgt := 165) C dX5_reasonAgainst_161 (by decide) ?_
          exact vi_donei (W := wS q cI cF) RET h dX5_reasonAgainst_165
      · replace h := ob_f h hc9
        by_cases hc12 : vsw.getD (Int32.toNatClampNeg (nI x1)) 0 = 4
        · have h := ob_t h hc12
          refine vi_tswIn (off := 63) (tgt := 71) C dX5_reasonAgainst_8 (by rw [hc12]; decide) (by rw [hc12]; decide) (by rw [hc12]; rfl) (by decide) ?_
          refine vi_aload_n C 0 dX5_reasonAgainst_71 rfl ?_
          refine gS_X5_0_1 C dX5_reasonAgainst_72 ?_
          refine vi_iload_n C 2 dX5_reasonAgainst_75 rfl ?_
          obtain ⟨hz10, h⟩ := ob_if h
          refine lS_X5_1 (n := (Int32.toNatClampNeg x2)) C hz10 rfl dX5_reasonAgainst_76 ?_
          refine vi_iload_n C 3 dX5_reasonAgainst_77 rfl ?_
          refine vi_icmp_ne (tgt := 85) C dX5_reasonAgainst_78 (by decide) (fun hc11 => ?_) (fun hc11 => ?_)
          · have h := ob_f h hc11
            refine vi_iconst (v := 0) C dX5_reasonAgainst_85 (by decide) ?_
            exact vi_donei (W := wS q cI cF) RET h dX5_reasonAgainst_86
          · have h := ob_t h hc11
            refine vi_iconst (v := 2) C dX5_reasonAgainst_81 (by decide) ?_
            refine vi_goto (tgt := 86) C dX5_reasonAgainst_82 (by decide) ?_
            exact vi_donei (W := wS q cI cF) RET h dX5_reasonAgainst_86
        · replace h := ob_f h hc12
          by_cases hc15 : vsw.getD (Int32.toNatClampNeg (nI x1)) 0 = 5
          · have h := ob_t h hc15
            refine vi_tswIn (off := 79) (tgt := 87) C dX5_reasonAgainst_8 (by rw [hc15]; decide) (by rw [hc15]; decide) (by rw [hc15]; rfl) (by decide) ?_
            refine vi_aload_n C 0 dX5_reasonAgainst_87 rfl ?_
            refine gS_X5_0_2 C dX5_reasonAgainst_88 ?_
            refine vi_iload_n C 2 dX5_reasonAgainst_91 rfl ?_
            obtain ⟨hz13, h⟩ := ob_if h
            refine lS_X5_2 (n := (Int32.toNatClampNeg x2)) C hz13 rfl dX5_reasonAgainst_92 ?_
            refine vi_iload_n C 3 dX5_reasonAgainst_93 rfl ?_
            refine vi_iadd C dX5_reasonAgainst_94 ?_
            refine vi_bipush (v := 9) C dX5_reasonAgainst_95 (by decide) ?_
            refine vi_icmp_le (tgt := 104) C dX5_reasonAgainst_97 (by decide) (fun hc14 => ?_) (fun hc14 => ?_)
            · have h := ob_t h hc14
              refine vi_iconst (v := 0) C dX5_reasonAgainst_104 (by decide) ?_
              exact vi_donei (W := wS q cI cF) RET h dX5_reasonAgainst_105
            · have h := ob_f h hc14
              refine vi_iconst (v := 3) C dX5_reasonAgainst_100 (by decide) ?_
              refine vi_goto (tgt := 105) C dX5_reasonAgainst_101 (by decide) ?_
              exact vi_donei (W := wS q cI cF) RET h dX5_reasonAgainst_105
          · replace h := ob_f h hc15
            by_cases hc18 : vsw.getD (Int32.toNatClampNeg (nI x1)) 0 = 6
            · have h := ob_t h hc18
              refine vi_tswIn (off := 98) (tgt := 106) C dX5_reasonAgainst_8 (by rw [hc18]; decide) (by rw [hc18]; decide) (by rw [hc18]; rfl) (by decide) ?_
              refine vi_aload_n C 0 dX5_reasonAgainst_106 rfl ?_
              refine gS_X5_0_3 C dX5_reasonAgainst_107 ?_
              refine vi_iload_n C 2 dX5_reasonAgainst_110 rfl ?_
              obtain ⟨hz16, h⟩ := ob_if h
              refine lS_X5_3 (n := (Int32.toNatClampNeg x2)) C hz16 rfl dX5_reasonAgainst_111 ?_
              refine vi_iload_n C 3 dX5_reasonAgainst_112 rfl ?_
              refine vi_icmp_ne (tgt := 120) C dX5_reasonAgainst_113 (by decide) (fun hc17 => ?_) (fun hc17 => ?_)
              · have h := ob_f h hc17
                refine vi_iconst (v := 0) C dX5_reasonAgainst_120 (by decide) ?_
                exact vi_donei (W := wS q cI cF) RET h dX5_reasonAgainst_121
              · have h := ob_t h hc17
                refine vi_iconst (v := 2) C dX5_reasonAgainst_116 (by decide) ?_
                refine vi_goto (tgt := 121) C dX5_reasonAgainst_117 (by decide) ?_
                exact vi_donei (W := wS q cI cF) RET h dX5_reasonAgainst_121
            · replace h := ob_f h hc18
              by_cases hc21 : vsw.getD (Int32.toNatClampNeg (nI x1)) 0 = 7
              · have h := ob_t h hc21
                refine vi_tswIn (off := 114) (tgt := 122) C dX5_reasonAgainst_8 (by rw [hc21]; decide) (by rw [hc21]; decide) (by rw [hc21]; rfl) (by decide) ?_
                refine vi_aload_n C 0 dX5_reasonAgainst_122 rfl ?_
                refine gS_X5_0_4 C dX5_reasonAgainst_123 ?_
                refine vi_iload_n C 2 dX5_reasonAgainst_126 rfl ?_
                obtain ⟨hz19, h⟩ := ob_if h
                refine lS_X5_4 (n := (Int32.toNatClampNeg x2)) C hz19 rfl dX5_reasonAgainst_127 ?_
                refine vi_iload_n C 3 dX5_reasonAgainst_128 rfl ?_
                refine vi_icmp_ne (tgt := 136) C dX5_reasonAgainst_129 (by decide) (fun hc20 => ?_) (fun hc20 => ?_)
                · have h := ob_f h hc20
                  refine vi_iconst (v := 0) C dX5_reasonAgainst_136 (by decide) ?_
                  exact vi_donei (W := wS q cI cF) RET h dX5_reasonAgainst_137
                · have h := ob_t h hc20
                  refine vi_iconst (v := 2) C dX5_reasonAgainst_132 (by decide) ?_
                  refine vi_goto (tgt := 137) C dX5_reasonAgainst_133 (by decide) ?_
                  exact vi_donei (W := wS q cI cF) RET h dX5_reasonAgainst_137
              · replace h := ob_f h hc21
                by_cases hc23 : vsw.getD (Int32.toNatClampNeg (nI x1)) 0 = 8
                · have h := ob_t h hc23
                  refine vi_tswIn (off := 130) (tgt := 138) C dX5_reasonAgainst_8 (by rw [hc23]; decide) (by rw [hc23]; decide) (by rw [hc23]; rfl) (by decide) ?_
                  refine vi_aload_n C 0 dX5_reasonAgainst_138 rfl ?_
                  refine gS_X5_0_5 C dX5_reasonAgainst_139 ?_
                  refine vi_iload_n C 3 dX5_reasonAgainst_142 rfl ?_
                  refine vi_icmp_ne (tgt := 150) C dX5_reasonAgainst_143 (by decide) (fun hc22 => ?_) (fun hc22 => ?_)
                  · have h := ob_f h hc22
                    refine vi_iconst (v := 0) C dX5_reasonAgainst_150 (by decide) ?_
                    exact vi_donei (W := wS q cI cF) RET h dX5_reasonAgainst_151
                  · have h := ob_t h hc22
                    refine vi_iconst (v := 2) C dX5_reasonAgainst_146 (by decide) ?_
                    refine vi_goto (tgt := 151) C dX5_reasonAgainst_147 (by decide) ?_
                    exact vi_donei (W := wS q cI cF) RET h dX5_reasonAgainst_151
                · replace h := ob_f h hc23
                  refine vi_tswOut (tgt := 166) C dX5_reasonAgainst_8 (by have thc4 := lv_neT hc4 (a := 1) (by decide); have thc5 := lv_neT hc5 (a := 2) (by decide); have thc9 := lv_neT hc9 (a := 3) (by decide); have thc12 := lv_neT hc12 (a := 4) (by decide); have thc15 := lv_neT hc15 (a := 5) (by decide); have thc18 := lv_neT hc18 (a := 6) (by decide); have thc21 := lv_neT hc21 (a := 7) (by decide); have thc23 := lv_neT hc23 (a := 8) (by decide); omega) (by decide) ?_
                  refine vi_iconst (v := 0) C dX5_reasonAgainst_166 (by decide) ?_
                  exact vi_donei (W := wS q cI cF) RET h dX5_reasonAgainst_167
theorem mX5_reasonAgainst {ad adK adV : Nat → Nat} {tS tF : Nat} {tX sK sV : Nat → Nat} (hE : vEok (vE ad adK adV tS tF tX sK sV)) {l : Launch} {D : va_G} {cI cF cC cS cO cB cZ : ClassId} {q : Nat → Nat} {r0 : Int32} {u0 : vH}  {x1 : Nat} {x2 : Int32} {x3 : Int32} {u : vH} (h : fX5_reasonAgainst x1 x2 x3 u = some (r0, u0)) : vM (vE ad adK adV tS tF tX sK sV) l yX5_reasonAgainst cX5_reasonAgainst 4 (some .int) 2 45 D (vT7 cI cF cC cS cO cB cZ) [.ref (q 0), .ref (ad x1), .int x2, .int x3] (wS q cI cF u) (vQi D (wS q cI cF u0) r0) :=
  vM_of hE (by decide +kernel) (Nat.le_of_ble_eq_true rfl) (fun p e s m args below meth c A C hr => kX5_reasonAgainst_e C (vi_reti C hr) h)
-- ---- X5_detailOf
def fX5_detailOf (x1 : Int32) (x2 : Int32) (x3 : Int32) (u : vH) : Option (Int32 × vH) := (if x1 = 1 then some (u.1 0 0, u) else (if x1 = 2 then some (x3, u) else (if x1 = 3 then if x2 < 0 ∨ 8 ≤ Int32.toNatClampNeg x2 then none else some (u.1 2 (Int32.toNatClampNeg x2), u) else some (x2, u))))
set_option maxRecDepth 100000 in
set_option maxHeartbeats 4000000 in
theorem kX5_detailOf_e {ad adK adV : Nat → Nat} {tS tF : Nat} {tX sK sV : Nat → Nat} {p : Program} {l : Launch} {e : Env} {s : State} {m : MethodId} {args : Array Value} {below : List Frame} {meth : Method} {c : Code} {A : Nat → Prop} {D : va_G} {cI cF cC cS cO cB cZ : ClassId} {Q : State → Prop} {q : Nat → Nat} (C : vC (vE ad adK adV tS tF tX sK sV) p l s m args meth c A D (vT7 cI cF cC cS cO cB cZ) cX5_detailOf 4 RX5) {r0 : Int32} {u0 : vH} (RET : ∀ (pc : Nat) (lv : List (Nat × Value)), decode cX5_detailOf pc = .ok (.ireturn, 1) → vV p l e { frames := 0, cells := 0, slots := 0, locals := 0 } s m args below meth c A D 4 0 0 Q (wS q cI cF u0) pc lv [.int r0]) {x1 : Int32} {x2 : Int32} {x3 : Int32} {u : vH} (h : fX5_detailOf x1 x2 x3 u = some (r0, u0)) : vV p l e { frames := 0, cells := 0, slots := 0, locals := 0 } s m args below meth c A D 4 0 0 Q (wS q cI cF u) 0 [(0, .ref (q 0)), (1, .int x1), (2, .int x2), (3, .int x3)] [] := by
  rw [fX5_detailOf] at h
  refine vi_iload_n C 1 dX5_detailOf_0 rfl ?_
  by_cases hc1 : x1 = 1
  · have h := ob_t h hc1
    refine vi_tswIn (off := 27) (tgt := 28) C dX5_detailOf_1 (by rw [hc1]; decide) (by rw [hc1]; decide) (by rw [hc1]; rfl) (by decide) ?_
    refine vi_aload_n C 0 dX5_detailOf_28 rfl ?_
    refine gS_X5_0_0 C dX5_detailOf_29 ?_
    exact vi_donei (W := wS q cI cF) RET h dX5_detailOf_32
  · replace h := ob_f h hc1
    by_cases hc2 : x1 = 2
    · have h := ob_t h hc2
      refine vi_tswIn (off := 32) (tgt := 33) C dX5_detailOf_1 (by rw [hc2]; decide) (by rw [hc2]; decide) (by rw [hc2]; rfl) (by decide) ?_
      refine vi_iload_n C 3 dX5_detailOf_33 rfl ?_
      exact vi_donei (W := wS q cI cF) RET h dX5_detailOf_34
    · replace h := ob_f h hc2
      by_cases hc4 : x1 = 3
      · have h := ob_t h hc4
        refine vi_tswIn (off := 34) (tgt := 35) C dX5_detailOf_1 (by rw [hc4]; decide) (by rw [hc4]; decide) (by rw [hc4]; rfl) (by decide) ?_
        refine vi_aload_n C 0 dX5_detailOf_35 rfl ?_
        refine gS_X5_0_2 C dX5_detailOf_36 ?_
        refine vi_iload_n C 2 dX5_detailOf_39 rfl ?_
        obtain ⟨hz3, h⟩ := ob_if h
        refine lS_X5_2 (n := (Int32.toNatClampNeg x2)) C hz3 rfl dX5_detailOf_40 ?_
        exact vi_donei (W := wS q cI cF) RET h dX5_detailOf_41
      · replace h := ob_f h hc4
        refine vi_tswOut (tgt := 42) C dX5_detailOf_1 (by have thc1 := lv_neT hc1 (a := 1) (by decide); have thc2 := lv_neT hc2 (a := 2) (by decide); have thc4 := lv_neT hc4 (a := 3) (by decide); omega) (by decide) ?_
        refine vi_iload_n C 2 dX5_detailOf_42 rfl ?_
        exact vi_donei (W := wS q cI cF) RET h dX5_detailOf_43
theorem mX5_detailOf {ad adK adV : Nat → Nat} {tS tF : Nat} {tX sK sV : Nat → Nat} (hE : vEok (vE ad adK adV tS tF tX sK sV)) {l : Launch} {D : va_G} {cI cF cC cS cO cB cZ : ClassId} {q : Nat → Nat} {r0 : Int32} {u0 : vH}  {x1 : Int32} {x2 : Int32} {x3 : Int32} {u : vH} (h : fX5_detailOf x1 x2 x3 u = some (r0, u0)) : vM (vE ad adK adV tS tF tX sK sV) l yX5_detailOf cX5_detailOf 4 (some .int) 0 0 D (vT7 cI cF cC cS cO cB cZ) [.ref (q 0), .int x1, .int x2, .int x3] (wS q cI cF u) (vQi D (wS q cI cF u0) r0) :=
  vM_of hE (by decide +kernel) (Nat.le_of_ble_eq_true rfl) (fun p e s m args below meth c A C hr => kX5_detailOf_e C (vi_reti C hr) h)
