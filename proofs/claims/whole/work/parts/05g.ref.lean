-- ---- X8_does
def fX8_does (x1 : Int32) (x2 : Int32) (x3 : Int32) (u : vS) : Option (Int32 × vS) := (if x1 = 0 then obp (fX8_comes x2 u) fun y2 u1 => some (y2, u1) else (if x1 = 1 then obp (fX8_goes x2 u) fun y5 u4 => some (y5, u4) else (if x1 = 2 then obp (fX8_takes x2 u) fun y8 u7 => some (y8, u7) else (if x1 = 3 then obp (fX8_moods x2 x3 u) fun y11 u10 => some (y11, u10) else (if x1 = 4 then obp (fX8_drinks x2 x3 u) fun y14 u13 => some (y14, u13) else (if x1 = 5 then obp (fX8_stands x2 x3 u) fun y17 u16 => some (y17, u16) else (if x1 = 6 then obp (fX8_horizons x2 x3 u) fun y20 u19 => some (y20, u19) else (if x1 = 7 then obp (fX8_errs x2 u) fun y23 u22 => some (y23, u22) else obp (fX8_passes u) fun y26 u25 => some (y26, u25)))))))))
set_option maxRecDepth 100000 in
set_option maxHeartbeats 4000000 in
theorem kX8_does_e {E : (Nat → Prop) → State → Heap → Prop} {p : Program} {l : Launch} {e : Env} {s : State} {m : MethodId} {args : Array Value} {below : List Frame} {meth : Method} {c : Code} {A : Nat → Prop} {D : va_G} {cI cF cC cS cO : ClassId} {Q : State → Prop} {q : Nat → Nat} (C : vC E p l s m args meth c A D (vT5 cI cF cC cS cO) cX8_does 4 RX8) {r0 : Int32} {u0 : vS} (RET : ∀ (pc : Nat) (lv : List (Nat × Value)), decode cX8_does pc = .ok (.ireturn, 1) → vV p l e { frames := 5, cells := 0, slots := 0, locals := 107 } s m args below meth c A D 4 0 0 Q (wR q cI u0) pc lv [.int r0]) {x1 : Int32} {x2 : Int32} {x3 : Int32} {u : vS} (h : fX8_does x1 x2 x3 u = some (r0, u0)) : vV p l e { frames := 5, cells := 0, slots := 0, locals := 107 } s m args below meth c A D 4 0 0 Q (wR q cI u) 0 [(0, .ref (q 0)), (1, .int x1), (2, .int x2), (3, .int x3)] [] := by
  rw [fX8_does] at h
  refine vi_iload_n C 1 dX8_does_0 rfl ?_
  by_cases hc3 : x1 = 0
  · have h := ob_t h hc3
    refine vi_tswIn (off := 47) (tgt := 48) C dX8_does_1 (by rw [hc3]; decide) (by rw [hc3]; decide) (by rw [hc3]; rfl) (by decide) ?_
    refine vi_aload_n C 0 dX8_does_48 rfl ?_
    refine vi_iload_n C 2 dX8_does_49 rfl ?_
    obtain ⟨y2, u1, hgu1, h⟩ := ob_p h
    refine vR_calli (As := [.int x2]) (rest := []) C (mX8_comes C.2.2.2.2.2.2.2.2.1 hgu1) 1 rfl tcX8_comes tlX8_102 tiX8_comes tsX8_comes rfl tnX8 tdX8_comes ⟨Nat.le_of_ble_eq_true rfl, Nat.le_of_ble_eq_true rfl⟩ rfl (Nat.le_of_ble_eq_true rfl) dX8_does_50 ?_
    exact vi_donei (W := wR q cI) RET h dX8_does_53
  · replace h := ob_f h hc3
    by_cases hc6 : x1 = 1
    · have h := ob_t h hc6
      refine vi_tswIn (off := 53) (tgt := 54) C dX8_does_1 (by rw [hc6]; decide) (by rw [hc6]; decide) (by rw [hc6]; rfl) (by decide) ?_
      refine vi_aload_n C 0 dX8_does_54 rfl ?_
      refine vi_iload_n C 2 dX8_does_55 rfl ?_
      obtain ⟨y5, u4, hgu4, h⟩ := ob_p h
      refine vR_calli (As := [.int x2]) (rest := []) C (mX8_goes C.2.2.2.2.2.2.2.2.1 hgu4) 1 rfl tcX8_goes tlX8_116 tiX8_goes tsX8_goes rfl tnX8 tdX8_goes ⟨Nat.le_of_ble_eq_true rfl, Nat.le_of_ble_eq_true rfl⟩ rfl (Nat.le_of_ble_eq_true rfl) dX8_does_56 ?_
      exact vi_donei (W := wR q cI) RET h dX8_does_59
    · replace h := ob_f h hc6
      by_cases hc9 : x1 = 2
      · have h := ob_t h hc9
        refine vi_tswIn (off := 59) (tgt := 60) C dX8_does_1 (by rw [hc9]; decide) (by rw [hc9]; decide) (by rw [hc9]; rfl) (by decide) ?_
        refine vi_aload_n C 0 dX8_does_60 rfl ?_
        refine vi_iload_n C 2 dX8_does_61 rfl ?_
        obtain ⟨y8, u7, hgu7, h⟩ := ob_p h
        refine vR_calli (As := [.int x2]) (rest := []) C (mX8_takes C.2.2.2.2.2.2.2.2.1 hgu7) 1 rfl tcX8_takes tlX8_150 tiX8_takes tsX8_takes rfl tnX8 tdX8_takes ⟨Nat.le_of_ble_eq_true rfl, Nat.le_of_ble_eq_true rfl⟩ rfl (Nat.le_of_ble_eq_true rfl) dX8_does_62 ?_
        exact vi_donei (W := wR q cI) RET h dX8_does_65
      · replace h := ob_f h hc9
        by_cases hc12 : x1 = 3
        · have h := ob_t h hc12
          refine vi_tswIn (off := 65) (tgt := 66) C dX8_does_1 (by rw [hc12]; decide) (by rw [hc12]; decide) (by rw [hc12]; rfl) (by decide) ?_
          refine vi_aload_n C 0 dX8_does_66 rfl ?_
          refine vi_iload_n C 2 dX8_does_67 rfl ?_
          refine vi_iload_n C 3 dX8_does_68 rfl ?_
          obtain ⟨y11, u10, hgu10, h⟩ := ob_p h
          refine vR_calli (As := [.int x2, .int x3]) (rest := []) C (mX8_moods C.2.2.2.2.2.2.2.2.1 hgu10) 2 rfl tcX8_moods tlX8_122 tiX8_moods tsX8_moods rfl tnX8 tdX8_moods ⟨Nat.le_of_ble_eq_true rfl, Nat.le_of_ble_eq_true rfl⟩ rfl (Nat.le_of_ble_eq_true rfl) dX8_does_69 ?_
          exact vi_donei (W := wR q cI) RET h dX8_does_72
        · replace h := ob_f h hc12
          by_cases hc15 : x1 = 4
          · have h := ob_t h hc15
            refine vi_tswIn (off := 72) (tgt := 73) C dX8_does_1 (by rw [hc15]; decide) (by rw [hc15]; decide) (by rw [hc15]; rfl) (by decide) ?_
            refine vi_aload_n C 0 dX8_does_73 rfl ?_
            refine vi_iload_n C 2 dX8_does_74 rfl ?_
            refine vi_iload_n C 3 dX8_does_75 rfl ?_
            obtain ⟨y14, u13, hgu13, h⟩ := ob_p h
            refine vR_calli (As := [.int x2, .int x3]) (rest := []) C (mX8_drinks C.2.2.2.2.2.2.2.2.1 hgu13) 2 rfl tcX8_drinks tlX8_125 tiX8_drinks tsX8_drinks rfl tnX8 tdX8_drinks ⟨Nat.le_of_ble_eq_true rfl, Nat.le_of_ble_eq_true rfl⟩ rfl (Nat.le_of_ble_eq_true rfl) dX8_does_76 ?_
            exact vi_donei (W := wR q cI) RET h dX8_does_79
          · replace h := ob_f h hc15
            by_cases hc18 : x1 = 5
            · have h := ob_t h hc18
              refine vi_tswIn (off := 79) (tgt := 80) C dX8_does_1 (by rw [hc18]; decide) (by rw [hc18]; decide) (by rw [hc18]; rfl) (by decide) ?_
              refine vi_aload_n C 0 dX8_does_80 rfl ?_
              refine vi_iload_n C 2 dX8_does_81 rfl ?_
              refine vi_iload_n C 3 dX8_does_82 rfl ?_
              obtain ⟨y17, u16, hgu16, h⟩ := ob_p h
              refine vR_calli (As := [.int x2, .int x3]) (rest := []) C (mX8_stands C.2.2.2.2.2.2.2.2.1 hgu16) 2 rfl tcX8_stands tlX8_131 tiX8_stands tsX8_stands rfl tnX8 tdX8_stands ⟨Nat.le_of_ble_eq_true rfl, Nat.le_of_ble_eq_true rfl⟩ rfl (Nat.le_of_ble_eq_true rfl) dX8_does_83 ?_
              exact vi_donei (W := wR q cI) RET h dX8_does_86
            · replace h := ob_f h hc18
              by_cases hc21 : x1 = 6
              · have h := ob_t h hc21
                refine vi_tswIn (off := 86) (tgt := 87) C dX8_does_1 (by rw [hc21]; decide) (by rw [hc21]; decide) (by rw [hc21]; rfl) (by decide) ?_
                refine vi_aload_n C 0 dX8_does_87 rfl ?_
                refine vi_iload_n C 2 dX8_does_88 rfl ?_
                refine vi_iload_n C 3 dX8_does_89 rfl ?_
                obtain ⟨y20, u19, hgu19, h⟩ := ob_p h
                refine vR_calli (As := [.int x2, .int x3]) (rest := []) C (mX8_horizons C.2.2.2.2.2.2.2.2.1 hgu19) 2 rfl tcX8_horizons tlX8_134 tiX8_horizons tsX8_horizons rfl tnX8 tdX8_horizons ⟨Nat.le_of_ble_eq_true rfl, Nat.le_of_ble_eq_true rfl⟩ rfl (Nat.le_of_ble_eq_true rfl) dX8_does_90 ?_
                exact vi_donei (W := wR q cI) RET h dX8_does_93
              · replace h := ob_f h hc21
                by_cases hc24 : x1 = 7
                · have h := ob_t h hc24
                  refine vi_tswIn (off := 93) (tgt := 94) C dX8_does_1 (by rw [hc24]; decide) (by rw [hc24]; decide) (by rw [hc24]; rfl) (by decide) ?_
                  refine vi_aload_n C 0 dX8_does_94 rfl ?_
                  refine vi_iload_n C 2 dX8_does_95 rfl ?_
                  obtain ⟨y23, u22, hgu22, h⟩ := ob_p h
                  refine vR_calli (As := [.int x2]) (rest := []) C (mX8_errs C.2.2.2.2.2.2.2.2.1 hgu22) 1 rfl tcX8_errs tlX8_137 tiX8_errs tsX8_errs rfl tnX8 tdX8_errs ⟨Nat.le_of_ble_eq_true rfl, Nat.le_of_ble_eq_true rfl⟩ rfl (Nat.le_of_ble_eq_true rfl) dX8_does_96 ?_
                  exact vi_donei (W := wR q cI) RET h dX8_does_99
                · replace h := ob_f h hc24
                  refine vi_tswOut (tgt := 100) C dX8_does_1 (by have thc3 := lv_neT hc3 (a := 0) (by decide); have thc6 := lv_neT hc6 (a := 1) (by decide); have thc9 := lv_neT hc9 (a := 2) (by decide); have thc12 := lv_neT hc12 (a := 3) (by decide); have thc15 := lv_neT hc15 (a := 4) (by decide); have thc18 := lv_neT hc18 (a := 5) (by decide); have thc21 := lv_neT hc21 (a := 6) (by decide); have thc24 := lv_neT hc24 (a := 7) (by decide); omega) (by decide) ?_
                  refine vi_aload_n C 0 dX8_does_100 rfl ?_
                  obtain ⟨y26, u25, hgu25, h⟩ := ob_p h
                  refine vR_calli (As := []) (rest := []) C (mX8_passes C.2.2.2.2.2.2.2.2.1 hgu25) 0 rfl tcX8_passes tlX8_160 tiX8_passes tsX8_passes rfl tnX8 tdX8_passes ⟨Nat.le_of_ble_eq_true rfl, Nat.le_of_ble_eq_true rfl⟩ rfl (Nat.le_of_ble_eq_true rfl) dX8_does_101 ?_
                  exact vi_donei (W := wR q cI) RET h dX8_does_104
theorem mX8_does {E : (Nat → Prop) → State → Heap → Prop} (hE : vEok E) {l : Launch} {D : va_G} {cI cF cC cS cO : ClassId} {q : Nat → Nat} {r0 : Int32} {u0 : vS}  {x1 : Int32} {x2 : Int32} {x3 : Int32} {u : vS} (h : fX8_does x1 x2 x3 u = some (r0, u0)) : vM E l yX8_does cX8_does 4 (some .int) 5 107 D (vT5 cI cF cC cS cO) [.ref (q 0), .int x1, .int x2, .int x3] (wR q cI u) (vQi D (wR q cI u0) r0) :=
  vM_of hE (by decide +kernel) (Nat.le_of_ble_eq_true rfl) (fun p e s m args below meth c A C hr => kX8_does_e C (vi_reti C hr) h)
-- ---- X8_command
def fX8_command_140 (x1 : Int32) (x2 : Int32) (x3 : Int32) (u : vS) : Option (vS) := (if u 0 22 = 0 then (if u 0 23 = 0 then some u else obp (fX8_does x1 x2 x3 u) fun y4 u3 => some u3) else some u)
set_option maxRecDepth 100000 in
set_option maxHeartbeats 4000000 in
theorem kX8_command_140 {E : (Nat → Prop) → State → Heap → Prop} {p : Program} {l : Launch} {e : Env} {s : State} {m : MethodId} {args : Array Value} {below : List Frame} {meth : Method} {c : Code} {A : Nat → Prop} {D : va_G} {cI cF cC cS cO : ClassId} {Q : State → Prop} {q : Nat → Nat} (C : vC E p l s m args meth c A D (vT5 cI cF cC cS cO) cX8_command 5 RX8) {u0 : vS} (RET : ∀ (pc : Nat) (lv : List (Nat × Value)), decode cX8_command pc = .ok (.return_, 1) → vV p l e { frames := 6, cells := 0, slots := 0, locals := 130 } s m args below meth c A D 5 0 0 Q (wR q cI u0) pc lv []) : ∀ (x1 : Int32) (x2 : Int32) (x3 : Int32) (u : vS), fX8_command_140 x1 x2 x3 u = some u0 → vV p l e { frames := 6, cells := 0, slots := 0, locals := 130 } s m args below meth c A D 5 0 0 Q (wR q cI u) 140 [(0, .ref (q 0)), (1, .int x1), (2, .int x2), (3, .int x3)] [] := by
  intro x1 x2 x3 u h
  rw [fX8_command_140] at h
  refine vi_aload_n C 0 dX8_command_140 rfl ?_
  refine gR_22 C dX8_command_141 ?_
  refine vi_if_ne (tgt := 154) C dX8_command_144 (by decide) (fun hc1 => ?_) (fun hc1 => ?_)
  · have h := ob_f h hc1
    exact vi_donev (W := wR q cI) RET h dX8_command_154
  · have h := ob_t h hc1
    refine vi_aload_n C 0 dX8_command_147 rfl ?_
    refine gR_23 C dX8_command_148 ?_
    refine vi_if_ne (tgt := 155) C dX8_command_151 (by decide) (fun hc2 => ?_) (fun hc2 => ?_)
    · have h := ob_f h hc2
      refine vi_aload_n C 0 dX8_command_155 rfl ?_
      refine vi_iload_n C 1 dX8_command_156 rfl ?_
      refine vi_iload_n C 2 dX8_command_157 rfl ?_
      refine vi_iload_n C 3 dX8_command_158 rfl ?_
      obtain ⟨y4, u3, hgu3, h⟩ := ob_p h
      refine vR_calli (As := [.int x1, .int x2, .int x3]) (rest := []) C (mX8_does C.2.2.2.2.2.2.2.2.1 hgu3) 3 rfl tcX8_does tlX8_237 tiX8_does tsX8_does rfl tnX8 tdX8_does ⟨Nat.le_of_ble_eq_true rfl, Nat.le_of_ble_eq_true rfl⟩ rfl (Nat.le_of_ble_eq_true rfl) dX8_command_159 ?_
      refine vi_istore (lv' := [(4, .int y4), (0, .ref (q 0)), (1, .int x1), (2, .int x2), (3, .int x3)]) C dX8_command_162 (by decide) rfl ?_
      exact vi_donev (W := wR q cI) RET h dX8_command_164
    · have h := ob_t h hc2
      exact vi_donev (W := wR q cI) RET h dX8_command_154
def fX8_command_125 (x1 : Int32) (x2 : Int32) (x3 : Int32) (u : vS) : Option (vS) := (fX8_isIn x1 (4 : Int32) (6 : Int32)).bind fun y1 => (if y1 = 0 then fX8_command_140 x1 x2 x3 u else obp (fX8_digit u) fun y4 u3 => fX8_command_140 x1 x2 y4 u3)
set_option maxRecDepth 100000 in
set_option maxHeartbeats 4000000 in
theorem kX8_command_125 {E : (Nat → Prop) → State → Heap → Prop} {p : Program} {l : Launch} {e : Env} {s : State} {m : MethodId} {args : Array Value} {below : List Frame} {meth : Method} {c : Code} {A : Nat → Prop} {D : va_G} {cI cF cC cS cO : ClassId} {Q : State → Prop} {q : Nat → Nat} (C : vC E p l s m args meth c A D (vT5 cI cF cC cS cO) cX8_command 5 RX8) {u0 : vS} (RET : ∀ (pc : Nat) (lv : List (Nat × Value)), decode cX8_command pc = .ok (.return_, 1) → vV p l e { frames := 6, cells := 0, slots := 0, locals := 130 } s m args below meth c A D 5 0 0 Q (wR q cI u0) pc lv []) : ∀ (x1 : Int32) (x2 : Int32) (x3 : Int32) (u : vS), fX8_command_125 x1 x2 x3 u = some u0 → vV p l e { frames := 6, cells := 0, slots := 0, locals := 130 } s m args below meth c A D 5 0 0 Q (wR q cI u) 125 [(0, .ref (q 0)), (1, .int x1), (2, .int x2), (3, .int x3)] [] := by
  intro x1 x2 x3 u h
  rw [fX8_command_125] at h
  refine vi_iload_n C 1 dX8_command_125 rfl ?_
  refine vi_iconst (v := 4) C dX8_command_126 (by decide) ?_
  refine vi_bipush (v := 6) C dX8_command_127 (by decide) ?_
  obtain ⟨y1, hgy1, h⟩ := ob_bd h
  refine vi_callS0i (As := [.int x1, .int (4 : Int32), .int (6 : Int32)]) (rest := []) C (mX8_isIn C.2.2.2.2.2.2.2.2.1 hgy1) 3 rfl tcX8_isIn tlX8_68 ttX8_isIn tnX8 tdX8_isIn ⟨Nat.le_of_ble_eq_true rfl, Nat.le_of_ble_eq_true rfl⟩ rfl (Nat.le_of_ble_eq_true rfl) dX8_command_129 ?_
  refine vi_if_eq (tgt := 140) C dX8_command_132 (by decide) (fun hc2 => ?_) (fun hc2 => ?_)
  · have h := ob_t h hc2
    refine vi_sub C [0, 1, 2, 3] rfl ?_
    exact kX8_command_140 C RET   _ _ _ _ h
  · have h := ob_f h hc2
    refine vi_aload_n C 0 dX8_command_135 rfl ?_
    obtain ⟨y4, u3, hgu3, h⟩ := ob_p h
    refine vR_calli (As := []) (rest := []) C (mX8_digit C.2.2.2.2.2.2.2.2.1 hgu3) 0 rfl tcX8_digit tlX8_228 tiX8_digit tsX8_digit rfl tnX8 tdX8_digit ⟨Nat.le_of_ble_eq_true rfl, Nat.le_of_ble_eq_true rfl⟩ rfl (Nat.le_of_ble_eq_true rfl) dX8_command_136 ?_
    refine vi_istore_n (lv' := [(3, .int y4), (0, .ref (q 0)), (1, .int x1), (2, .int x2)]) C dX8_command_139 rfl (by decide) rfl ?_
    refine vi_sub C [1, 2, 3, 0] rfl ?_
    exact kX8_command_140 C RET   _ _ _ _ h
def fX8_command_108 (x1 : Int32) (x2 : Int32) (x3 : Int32) (u : vS) : Option (vS) := (if x1 = (3 : Int32) then (if u 0 22 = 0 then obp (fX8_hexes u) fun y4 u3 => fX8_command_125 x1 x2 y4 u3 else fX8_command_125 x1 x2 x3 u) else fX8_command_125 x1 x2 x3 u)
set_option maxRecDepth 100000 in
set_option maxHeartbeats 4000000 in
theorem kX8_command_108 {E : (Nat → Prop) → State → Heap → Prop} {p : Program} {l : Launch} {e : Env} {s : State} {m : MethodId} {args : Array Value} {below : List Frame} {meth : Method} {c : Code} {A : Nat → Prop} {D : va_G} {cI cF cC cS cO : ClassId} {Q : State → Prop} {q : Nat → Nat} (C : vC E p l s m args meth c A D (vT5 cI cF cC cS cO) cX8_command 5 RX8) {u0 : vS} (RET : ∀ (pc : Nat) (lv : List (Nat × Value)), decode cX8_command pc = .ok (.return_, 1) → vV p l e { frames := 6, cells := 0, slots := 0, locals := 130 } s m args below meth c A D 5 0 0 Q (wR q cI u0) pc lv []) : ∀ (x1 : Int32) (x2 : Int32) (x3 : Int32) (u : vS), fX8_command_108 x1 x2 x3 u = some u0 → vV p l e { frames := 6, cells := 0, slots := 0, locals := 130 } s m args below meth c A D 5 0 0 Q (wR q cI u) 108 [(0, .ref (q 0)), (1, .int x1), (2, .int x2), (3, .int x3)] [] := by
  intro x1 x2 x3 u h
  rw [fX8_command_108] at h
  refine vi_iload_n C 1 dX8_command_108 rfl ?_
  refine vi_iconst (v := 3) C dX8_command_109 (by decide) ?_
  refine vi_icmp_ne (tgt := 125) C dX8_command_110 (by decide) (fun hc1 => ?_) (fun hc1 => ?_)
  · have h := ob_f h hc1
    refine vi_sub C [0, 1, 2, 3] rfl ?_
    exact kX8_command_125 C RET   _ _ _ _ h
  · have h := ob_t h hc1
    refine vi_aload_n C 0 dX8_command_113 rfl ?_
    refine gR_22 C dX8_command_114 ?_
    refine vi_if_ne (tgt := 125) C dX8_command_117 (by decide) (fun hc2 => ?_) (fun hc2 => ?_)
    · have h := ob_f h hc2
      refine vi_sub C [0, 1, 2, 3] rfl ?_
      exact kX8_command_125 C RET   _ _ _ _ h
    · have h := ob_t h hc2
      refine vi_aload_n C 0 dX8_command_120 rfl ?_
      obtain ⟨y4, u3, hgu3, h⟩ := ob_p h
      refine vR_calli (As := []) (rest := []) C (mX8_hexes C.2.2.2.2.2.2.2.2.1 hgu3) 0 rfl tcX8_hexes tlX8_225 tiX8_hexes tsX8_hexes rfl tnX8 tdX8_hexes ⟨Nat.le_of_ble_eq_true rfl, Nat.le_of_ble_eq_true rfl⟩ rfl (Nat.le_of_ble_eq_true rfl) dX8_command_121 ?_
      refine vi_istore_n (lv' := [(3, .int y4), (0, .ref (q 0)), (1, .int x1), (2, .int x2)]) C dX8_command_124 rfl (by decide) rfl ?_
      refine vi_sub C [1, 2, 3, 0] rfl ?_
      exact kX8_command_125 C RET   _ _ _ _ h
def fX8_command_92 (x1 : Int32) (x2 : Int32) (x3 : Int32) (u : vS) : Option (vS) := (fX8_isIn x1 (3 : Int32) (6 : Int32)).bind fun y1 => (if y1 = 0 then fX8_command_108 x1 x2 x3 u else (fX8_mark (32 : Int32) u).bind fun u3 => fX8_command_108 x1 x2 x3 u3)
set_option maxRecDepth 100000 in
set_option maxHeartbeats 4000000 in
theorem kX8_command_92 {E : (Nat → Prop) → State → Heap → Prop} {p : Program} {l : Launch} {e : Env} {s : State} {m : MethodId} {args : Array Value} {below : List Frame} {meth : Method} {c : Code} {A : Nat → Prop} {D : va_G} {cI cF cC cS cO : ClassId} {Q : State → Prop} {q : Nat → Nat} (C : vC E p l s m args meth c A D (vT5 cI cF cC cS cO) cX8_command 5 RX8) {u0 : vS} (RET : ∀ (pc : Nat) (lv : List (Nat × Value)), decode cX8_command pc = .ok (.return_, 1) → vV p l e { frames := 6, cells := 0, slots := 0, locals := 130 } s m args below meth c A D 5 0 0 Q (wR q cI u0) pc lv []) : ∀ (x1 : Int32) (x2 : Int32) (x3 : Int32) (u : vS), fX8_command_92 x1 x2 x3 u = some u0 → vV p l e { frames := 6, cells := 0, slots := 0, locals := 130 } s m args below meth c A D 5 0 0 Q (wR q cI u) 92 [(0, .ref (q 0)), (1, .int x1), (2, .int x2), (3, .int x3)] [] := by
  intro x1 x2 x3 u h
  rw [fX8_command_92] at h
  refine vi_iload_n C 1 dX8_command_92 rfl ?_
  refine vi_iconst (v := 3) C dX8_command_93 (by decide) ?_
  refine vi_bipush (v := 6) C dX8_command_94 (by decide) ?_
  obtain ⟨y1, hgy1, h⟩ := ob_bd h
  refine vi_callS0i (As := [.int x1, .int (3 : Int32), .int (6 : Int32)]) (rest := []) C (mX8_isIn C.2.2.2.2.2.2.2.2.1 hgy1) 3 rfl tcX8_isIn tlX8_68 ttX8_isIn tnX8 tdX8_isIn ⟨Nat.le_of_ble_eq_true rfl, Nat.le_of_ble_eq_true rfl⟩ rfl (Nat.le_of_ble_eq_true rfl) dX8_command_96 ?_
  refine vi_if_eq (tgt := 108) C dX8_command_99 (by decide) (fun hc2 => ?_) (fun hc2 => ?_)
  · have h := ob_t h hc2
    refine vi_sub C [0, 1, 2, 3] rfl ?_
    exact kX8_command_108 C RET   _ _ _ _ h
  · have h := ob_f h hc2
    refine vi_aload_n C 0 dX8_command_102 rfl ?_
    refine vi_bipush (v := 32) C dX8_command_103 (by decide) ?_
    obtain ⟨u3, hgu3, h⟩ := ob_bd h
    refine vR_callv (As := [.int (32 : Int32)]) (rest := []) C (mX8_mark C.2.2.2.2.2.2.2.2.1 hgu3) 1 rfl tcX8_mark tlX8_231 tiX8_mark tsX8_mark rfl tnX8 tdX8_mark ⟨Nat.le_of_ble_eq_true rfl, Nat.le_of_ble_eq_true rfl⟩ rfl (Nat.le_of_ble_eq_true rfl) dX8_command_105 ?_
    refine vi_sub C [0, 1, 2, 3] rfl ?_
    exact kX8_command_108 C RET   _ _ _ _ h
def fX8_command_74 (x1 : Int32) (x2 : Int32) (x3 : Int32) (u : vS) : Option (vS) := (if x3 = 0 then obp (fX8_digit u) fun y3 u2 => fX8_command_92 x1 y3 x2 u2 else obp (fX8_digit u) fun y5 u4 => bd ((-y5 : Int32)) fun y6 => fX8_command_92 x1 y6 x2 u4)
set_option maxRecDepth 100000 in
set_option maxHeartbeats 4000000 in
theorem kX8_command_74 {E : (Nat → Prop) → State → Heap → Prop} {p : Program} {l : Launch} {e : Env} {s : State} {m : MethodId} {args : Array Value} {below : List Frame} {meth : Method} {c : Code} {A : Nat → Prop} {D : va_G} {cI cF cC cS cO : ClassId} {Q : State → Prop} {q : Nat → Nat} (C : vC E p l s m args meth c A D (vT5 cI cF cC cS cO) cX8_command 5 RX8) {u0 : vS} (RET : ∀ (pc : Nat) (lv : List (Nat × Value)), decode cX8_command pc = .ok (.return_, 1) → vV p l e { frames := 6, cells := 0, slots := 0, locals := 130 } s m args below meth c A D 5 0 0 Q (wR q cI u0) pc lv []) : ∀ (x1 : Int32) (x2 : Int32) (x3 : Int32) (u : vS), fX8_command_74 x1 x2 x3 u = some u0 → vV p l e { frames := 6, cells := 0, slots := 0, locals := 130 } s m args below meth c A D 5 0 0 Q (wR q cI u) 74 [(0, .ref (q 0)), (1, .int x1), (3, .int x2), (4, .int x3)] [] := by
  intro x1 x2 x3 u h
  rw [fX8_command_74] at h
  refine vi_iload C 3 dX8_command_74 rfl ?_
  refine vi_if_eq (tgt := 87) C dX8_command_76 (by decide) (fun hc1 => ?_) (fun hc1 => ?_)
  · have h := ob_t h hc1
    refine vi_aload_n C 0 dX8_command_87 rfl ?_
    obtain ⟨y3, u2, hgu2, h⟩ := ob_p h
    refine vR_calli (As := []) (rest := []) C (mX8_digit C.2.2.2.2.2.2.2.2.1 hgu2) 0 rfl tcX8_digit tlX8_228 tiX8_digit tsX8_digit rfl tnX8 tdX8_digit ⟨Nat.le_of_ble_eq_true rfl, Nat.le_of_ble_eq_true rfl⟩ rfl (Nat.le_of_ble_eq_true rfl) dX8_command_88 ?_
    refine vi_istore_n (lv' := [(2, .int y3), (0, .ref (q 0)), (1, .int x1), (3, .int x2), (4, .int x3)]) C dX8_command_91 rfl (by decide) rfl ?_
    refine vi_sub C [1, 2, 0, 3] rfl ?_
    exact kX8_command_92 C RET   _ _ _ _ h
  · have h := ob_f h hc1
    refine vi_aload_n C 0 dX8_command_79 rfl ?_
    obtain ⟨y5, u4, hgu4, h⟩ := ob_p h
    refine vR_calli (As := []) (rest := []) C (mX8_digit C.2.2.2.2.2.2.2.2.1 hgu4) 0 rfl tcX8_digit tlX8_228 tiX8_digit tsX8_digit rfl tnX8 tdX8_digit ⟨Nat.le_of_ble_eq_true rfl, Nat.le_of_ble_eq_true rfl⟩ rfl (Nat.le_of_ble_eq_true rfl) dX8_command_80 ?_
    refine vi_ineg C dX8_command_83 ?_
    refine vi_goto (tgt := 91) C dX8_command_84 (by decide) ?_
    obtain ⟨y6, ey6, h⟩ := ob_nm h
    refine vi_nmi ey6 ?_
    refine vi_istore_n (lv' := [(2, .int y6), (0, .ref (q 0)), (1, .int x1), (3, .int x2), (4, .int x3)]) C dX8_command_91 rfl (by decide) rfl ?_
    refine vi_sub C [1, 2, 0, 3] rfl ?_
    exact kX8_command_92 C RET   _ _ _ _ h
def fX8_command_41 (x1 : Int32) (x2 : Int32) (x3 : Int32) (u : vS) : Option (vS) := (if x1 = (7 : Int32) then obp (fX8_sign u) fun y3 u2 => (if y3 = (45 : Int32) then (if (1 : Int32) = 0 then fX8_command_74 x1 x3 (1 : Int32) u2 else (fX8_mark (45 : Int32) u2).bind fun u8 => fX8_command_74 x1 x3 (1 : Int32) u8) else (if (0 : Int32) = 0 then fX8_command_74 x1 x3 (0 : Int32) u2 else (fX8_mark (45 : Int32) u2).bind fun u6 => fX8_command_74 x1 x3 (0 : Int32) u6)) else fX8_command_92 x1 x2 x3 u)
set_option maxRecDepth 100000 in
set_option maxHeartbeats 4000000 in
theorem kX8_command_41 {E : (Nat → Prop) → State → Heap → Prop} {p : Program} {l : Launch} {e : Env} {s : State} {m : MethodId} {args : Array Value} {below : List Frame} {meth : Method} {c : Code} {A : Nat → Prop} {D : va_G} {cI cF cC cS cO : ClassId} {Q : State → Prop} {q : Nat → Nat} (C : vC E p l s m args meth c A D (vT5 cI cF cC cS cO) cX8_command 5 RX8) {u0 : vS} (RET : ∀ (pc : Nat) (lv : List (Nat × Value)), decode cX8_command pc = .ok (.return_, 1) → vV p l e { frames := 6, cells := 0, slots := 0, locals := 130 } s m args below meth c A D 5 0 0 Q (wR q cI u0) pc lv []) : ∀ (x1 : Int32) (x2 : Int32) (x3 : Int32) (u : vS), fX8_command_41 x1 x2 x3 u = some u0 → vV p l e { frames := 6, cells := 0, slots := 0, locals := 130 } s m args below meth c A D 5 0 0 Q (wR q cI u) 41 [(0, .ref (q 0)), (1, .int x1), (2, .int x2), (3, .int x3)] [] := by
  intro x1 x2 x3 u h
  rw [fX8_command_41] at h
  refine vi_iload_n C 1 dX8_command_41 rfl ?_
  refine vi_bipush (v := 7) C dX8_command_42 (by decide) ?_
  refine vi_icmp_ne (tgt := 92) C dX8_command_44 (by decide) (fun hc1 => ?_) (fun hc1 => ?_)
  · have h := ob_f h hc1
    refine vi_sub C [0, 1, 2, 3] rfl ?_
    exact kX8_command_92 C RET   _ _ _ _ h
  · have h := ob_t h hc1
    refine vi_aload_n C 0 dX8_command_47 rfl ?_
    obtain ⟨y3, u2, hgu2, h⟩ := ob_p h
    refine vR_calli (As := []) (rest := []) C (mX8_sign C.2.2.2.2.2.2.2.2.1 hgu2) 0 rfl tcX8_sign tlX8_219 tiX8_sign tsX8_sign rfl tnX8 tdX8_sign ⟨Nat.le_of_ble_eq_true rfl, Nat.le_of_ble_eq_true rfl⟩ rfl (Nat.le_of_ble_eq_true rfl) dX8_command_48 ?_
    refine vi_bipush (v := 45) C dX8_command_51 (by decide) ?_
    refine vi_icmp_ne (tgt := 60) C dX8_command_53 (by decide) (fun hc4 => ?_) (fun hc4 => ?_)
    · have h := ob_f h hc4
      refine vi_iconst (v := 0) C dX8_command_60 (by decide) ?_
      refine vi_istore (lv' := [(4, .int (0 : Int32)), (0, .ref (q 0)), (1, .int x1), (2, .int x2), (3, .int x3)]) C dX8_command_61 (by decide) rfl ?_
      refine vi_iload C 0 dX8_command_63 rfl ?_
      refine vi_if_eq (tgt := 74) C dX8_command_65 (by decide) (fun hc5 => ?_) (fun hc5 => ?_)
      · have h := ob_t h hc5
        refine vi_sub C [1, 2, 4, 0] rfl ?_
        exact kX8_command_74 C RET   _ _ _ _ h
      · have h := ob_f h hc5
        refine vi_aload_n C 1 dX8_command_68 rfl ?_
        refine vi_bipush (v := 45) C dX8_command_69 (by decide) ?_
        obtain ⟨u6, hgu6, h⟩ := ob_bd h
        refine vR_callv (As := [.int (45 : Int32)]) (rest := []) C (mX8_mark C.2.2.2.2.2.2.2.2.1 hgu6) 1 rfl tcX8_mark tlX8_231 tiX8_mark tsX8_mark rfl tnX8 tdX8_mark ⟨Nat.le_of_ble_eq_true rfl, Nat.le_of_ble_eq_true rfl⟩ rfl (Nat.le_of_ble_eq_true rfl) dX8_command_71 ?_
        refine vi_sub C [1, 2, 4, 0] rfl ?_
        exact kX8_command_74 C RET   _ _ _ _ h
    · have h := ob_t h hc4
      refine vi_iconst (v := 1) C dX8_command_56 (by decide) ?_
      refine vi_goto (tgt := 61) C dX8_command_57 (by decide) ?_
      refine vi_istore (lv' := [(4, .int (1 : Int32)), (0, .ref (q 0)), (1, .int x1), (2, .int x2), (3, .int x3)]) C dX8_command_61 (by decide) rfl ?_
      refine vi_iload C 0 dX8_command_63 rfl ?_
      refine vi_if_eq (tgt := 74) C dX8_command_65 (by decide) (fun hc7 => ?_) (fun hc7 => ?_)
      · have h := ob_t h hc7
        refine vi_sub C [1, 2, 4, 0] rfl ?_
        exact kX8_command_74 C RET   _ _ _ _ h
      · have h := ob_f h hc7
        refine vi_aload_n C 1 dX8_command_68 rfl ?_
        refine vi_bipush (v := 45) C dX8_command_69 (by decide) ?_
        obtain ⟨u8, hgu8, h⟩ := ob_bd h
        refine vR_callv (As := [.int (45 : Int32)]) (rest := []) C (mX8_mark C.2.2.2.2.2.2.2.2.1 hgu8) 1 rfl tcX8_mark tlX8_231 tiX8_mark tsX8_mark rfl tnX8 tdX8_mark ⟨Nat.le_of_ble_eq_true rfl, Nat.le_of_ble_eq_true rfl⟩ rfl (Nat.le_of_ble_eq_true rfl) dX8_command_71 ?_
        refine vi_sub C [1, 2, 4, 0] rfl ?_
        exact kX8_command_74 C RET   _ _ _ _ h
def fX8_command_26 (x1 : Int32) (x2 : Int32) (x3 : Int32) (u : vS) : Option (vS) := (fX8_isIn x1 (1 : Int32) (6 : Int32)).bind fun y1 => (if y1 = 0 then fX8_command_41 x1 x2 x3 u else obp (fX8_digit u) fun y4 u3 => fX8_command_41 x1 y4 x3 u3)
set_option maxRecDepth 100000 in
set_option maxHeartbeats 4000000 in
theorem kX8_command_26 {E : (Nat → Prop) → State → Heap → Prop} {p : Program} {l : Launch} {e : Env} {s : State} {m : MethodId} {args : Array Value} {below : List Frame} {meth : Method} {c : Code} {A : Nat → Prop} {D : va_G} {cI cF cC cS cO : ClassId} {Q : State → Prop} {q : Nat → Nat} (C : vC E p l s m args meth c A D (vT5 cI cF cC cS cO) cX8_command 5 RX8) {u0 : vS} (RET : ∀ (pc : Nat) (lv : List (Nat × Value)), decode cX8_command pc = .ok (.return_, 1) → vV p l e { frames := 6, cells := 0, slots := 0, locals := 130 } s m args below meth c A D 5 0 0 Q (wR q cI u0) pc lv []) : ∀ (x1 : Int32) (x2 : Int32) (x3 : Int32) (u : vS), fX8_command_26 x1 x2 x3 u = some u0 → vV p l e { frames := 6, cells := 0, slots := 0, locals := 130 } s m args below meth c A D 5 0 0 Q (wR q cI u) 26 [(0, .ref (q 0)), (1, .int x1), (2, .int x2), (3, .int x3)] [] := by
  intro x1 x2 x3 u h
  rw [fX8_command_26] at h
  refine vi_iload_n C 1 dX8_command_26 rfl ?_
  refine vi_iconst (v := 1) C dX8_command_27 (by decide) ?_
  refine vi_bipush (v := 6) C dX8_command_28 (by decide) ?_
  obtain ⟨y1, hgy1, h⟩ := ob_bd h
  refine vi_callS0i (As := [.int x1, .int (1 : Int32), .int (6 : Int32)]) (rest := []) C (mX8_isIn C.2.2.2.2.2.2.2.2.1 hgy1) 3 rfl tcX8_isIn tlX8_68 ttX8_isIn tnX8 tdX8_isIn ⟨Nat.le_of_ble_eq_true rfl, Nat.le_of_ble_eq_true rfl⟩ rfl (Nat.le_of_ble_eq_true rfl) dX8_command_30 ?_
  refine vi_if_eq (tgt := 41) C dX8_command_33 (by decide) (fun hc2 => ?_) (fun hc2 => ?_)
  · have h := ob_t h hc2
    refine vi_sub C [0, 1, 2, 3] rfl ?_
    exact kX8_command_41 C RET   _ _ _ _ h
  · have h := ob_f h hc2
    refine vi_aload_n C 0 dX8_command_36 rfl ?_
    obtain ⟨y4, u3, hgu3, h⟩ := ob_p h
    refine vR_calli (As := []) (rest := []) C (mX8_digit C.2.2.2.2.2.2.2.2.1 hgu3) 0 rfl tcX8_digit tlX8_228 tiX8_digit tsX8_digit rfl tnX8 tdX8_digit ⟨Nat.le_of_ble_eq_true rfl, Nat.le_of_ble_eq_true rfl⟩ rfl (Nat.le_of_ble_eq_true rfl) dX8_command_37 ?_
    refine vi_istore_n (lv' := [(2, .int y4), (0, .ref (q 0)), (1, .int x1), (3, .int x3)]) C dX8_command_40 rfl (by decide) rfl ?_
    refine vi_sub C [1, 2, 0, 3] rfl ?_
    exact kX8_command_41 C RET   _ _ _ _ h
def fX8_command (u : vS) : Option (vS) := obp (fX8_word u) fun y2 u1 => (if u1 0 22 = 0 then (if y2 = 0 then obp (fX8_hexes u1) fun y6 u5 => fX8_command_26 y2 y6 (0 : Int32) u5 else fX8_command_26 y2 (0 : Int32) (0 : Int32) u1) else some u1)
set_option maxRecDepth 100000 in
set_option maxHeartbeats 4000000 in
theorem kX8_command_e {E : (Nat → Prop) → State → Heap → Prop} {p : Program} {l : Launch} {e : Env} {s : State} {m : MethodId} {args : Array Value} {below : List Frame} {meth : Method} {c : Code} {A : Nat → Prop} {D : va_G} {cI cF cC cS cO : ClassId} {Q : State → Prop} {q : Nat → Nat} (C : vC E p l s m args meth c A D (vT5 cI cF cC cS cO) cX8_command 5 RX8) {u0 : vS} (RET : ∀ (pc : Nat) (lv : List (Nat × Value)), decode cX8_command pc = .ok (.return_, 1) → vV p l e { frames := 6, cells := 0, slots := 0, locals := 130 } s m args below meth c A D 5 0 0 Q (wR q cI u0) pc lv []) {u : vS} (h : fX8_command u = some u0) : vV p l e { frames := 6, cells := 0, slots := 0, locals := 130 } s m args below meth c A D 5 0 0 Q (wR q cI u) 0 [(0, .ref (q 0))] [] := by
  rw [fX8_command] at h
  refine vi_aload_n C 0 dX8_command_0 rfl ?_
  obtain ⟨y2, u1, hgu1, h⟩ := ob_p h
  refine vR_calli (As := []) (rest := []) C (mX8_word C.2.2.2.2.2.2.2.2.1 hgu1) 0 rfl tcX8_word tlX8_222 tiX8_word tsX8_word rfl tnX8 tdX8_word ⟨Nat.le_of_ble_eq_true rfl, Nat.le_of_ble_eq_true rfl⟩ rfl (Nat.le_of_ble_eq_true rfl) dX8_command_1 ?_
  refine vi_istore_n (lv' := [(1, .int y2), (0, .ref (q 0))]) C dX8_command_4 rfl (by decide) rfl ?_
  refine vi_iconst (v := 0) C dX8_command_5 (by decide) ?_
  refine vi_istore_n (lv' := [(2, .int (0 : Int32)), (1, .int y2), (0, .ref (q 0))]) C dX8_command_6 rfl (by decide) rfl ?_
  refine vi_iconst (v := 0) C dX8_command_7 (by decide) ?_
  refine vi_istore_n (lv' := [(3, .int (0 : Int32)), (2, .int (0 : Int32)), (1, .int y2), (0, .ref (q 0))]) C dX8_command_8 rfl (by decide) rfl ?_
  refine vi_aload_n C 3 dX8_command_9 rfl ?_
  refine gR_22 C dX8_command_10 ?_
  refine vi_if_eq (tgt := 17) C dX8_command_13 (by decide) (fun hc3 => ?_) (fun hc3 => ?_)
  · have h := ob_t h hc3
    refine vi_iload_n C 2 dX8_command_17 rfl ?_
    refine vi_if_ne (tgt := 26) C dX8_command_18 (by decide) (fun hc4 => ?_) (fun hc4 => ?_)
    · have h := ob_f h hc4
      refine vi_sub C [3, 2, 1, 0] rfl ?_
      exact kX8_command_26 C RET   _ _ _ _ h
    · have h := ob_t h hc4
      refine vi_aload_n C 3 dX8_command_21 rfl ?_
      obtain ⟨y6, u5, hgu5, h⟩ := ob_p h
      refine vR_calli (As := []) (rest := []) C (mX8_hexes C.2.2.2.2.2.2.2.2.1 hgu5) 0 rfl tcX8_hexes tlX8_225 tiX8_hexes tsX8_hexes rfl tnX8 tdX8_hexes ⟨Nat.le_of_ble_eq_true rfl, Nat.le_of_ble_eq_true rfl⟩ rfl (Nat.le_of_ble_eq_true rfl) dX8_command_22 ?_
      refine vi_istore_n (lv' := [(2, .int y6), (3, .int (0 : Int32)), (1, .int y2), (0, .ref (q 0))]) C dX8_command_25 rfl (by decide) rfl ?_
      refine vi_sub C [3, 2, 0, 1] rfl ?_
      exact kX8_command_26 C RET   _ _ _ _ h
  · have h := ob_f h hc3
    exact vi_donev (W := wR q cI) RET h dX8_command_16
theorem mX8_command {E : (Nat → Prop) → State → Heap → Prop} (hE : vEok E) {l : Launch} {D : va_G} {cI cF cC cS cO : ClassId} {q : Nat → Nat} {u0 : vS}  {u : vS} (h : fX8_command u = some u0) : vM E l yX8_command cX8_command 5 none 6 130 D (vT5 cI cF cC cS cO) [.ref (q 0)] (wR q cI u) (vQv D (wR q cI u0)) :=
  vM_of hE (by decide +kernel) (Nat.le_of_ble_eq_true rfl) (fun p e s m args below meth c A C hr => kX8_command_e C (vi_retv C hr) h)
-- ---- X8_commands
def fX8_commands_16 : Nat → Int32 → vS → Option (Int32 × vS)
  | 0, _, _ => none
  | n + 1, x1, u => (if u 0 22 = 0 then (if u 0 0 = 0 then (if u 0 20 ≤ u 0 19 then some (x1, u) else (fX8_mark (59 : Int32) u).bind fun u4 => (if u4 0 22 = 0 then (fX8_command u4).bind fun u7 => bd ((x1 + 1 : Int32)) fun y8 => fX8_commands_16 n y8 u7 else bd ((x1 + 1 : Int32)) fun y6 => fX8_commands_16 n y6 u4)) else some (x1, u)) else some (x1, u))
set_option maxRecDepth 100000 in
set_option maxHeartbeats 4000000 in
theorem kX8_commands_16 {E : (Nat → Prop) → State → Heap → Prop} {p : Program} {l : Launch} {e : Env} {s : State} {m : MethodId} {args : Array Value} {below : List Frame} {meth : Method} {c : Code} {A : Nat → Prop} {D : va_G} {cI cF cC cS cO : ClassId} {Q : State → Prop} {q : Nat → Nat} (C : vC E p l s m args meth c A D (vT5 cI cF cC cS cO) cX8_commands 2 RX8) {r0 : Int32} {u0 : vS} (RET : ∀ (pc : Nat) (lv : List (Nat × Value)), decode cX8_commands pc = .ok (.ireturn, 1) → vV p l e { frames := 7, cells := 0, slots := 0, locals := 154 } s m args below meth c A D 2 0 0 Q (wR q cI u0) pc lv [.int r0]) : ∀ (n : Nat) (x1 : Int32) (u : vS), fX8_commands_16 n x1 u = some (r0, u0) → vV p l e { frames := 7, cells := 0, slots := 0, locals := 154 } s m args below meth c A D 2 0 0 Q (wR q cI u) 16 [(0, .ref (q 0)), (1, .int x1)] [] := by
  intro n
  induction n with
  | zero => intro x1 u h; rw [fX8_commands_16] at h; cases h
  | succ n ih =>
    intro x1 u h
    rw [fX8_commands_16] at h
    refine vi_aload_n C 0 dX8_commands_16 rfl ?_
    refine gR_22 C dX8_commands_17 ?_
    refine vi_if_ne (tgt := 64) C dX8_commands_20 (by decide) (fun hc1 => ?_) (fun hc1 => ?_)
    · have h := ob_f h hc1
      refine vi_iload_n C 1 dX8_commands_64 rfl ?_
      exact vi_donei (W := wR q cI) RET h dX8_commands_65
    · have h := ob_t h hc1
      refine vi_aload_n C 0 dX8_commands_23 rfl ?_
      refine gR_0 C dX8_commands_24 ?_
      refine vi_if_ne (tgt := 64) C dX8_commands_27 (by decide) (fun hc2 => ?_) (fun hc2 => ?_)
      · have h := ob_f h hc2
        refine vi_iload_n C 1 dX8_commands_64 rfl ?_
        exact vi_donei (W := wR q cI) RET h dX8_commands_65
      · have h := ob_t h hc2
        refine vi_aload_n C 0 dX8_commands_30 rfl ?_
        refine gR_19 C dX8_commands_31 ?_
        refine vi_aload_n C 0 dX8_commands_34 rfl ?_
        refine gR_20 C dX8_commands_35 ?_
        refine vi_icmp_ge (tgt := 64) C dX8_commands_38 (by decide) (fun hc3 => ?_) (fun hc3 => ?_)
        · have h := ob_t h hc3
          refine vi_iload_n C 1 dX8_commands_64 rfl ?_
          exact vi_donei (W := wR q cI) RET h dX8_commands_65
        · have h := ob_f h hc3
          refine vi_aload_n C 0 dX8_commands_41 rfl ?_
          refine vi_bipush (v := 59) C dX8_commands_42 (by decide) ?_
          obtain ⟨u4, hgu4, h⟩ := ob_bd h
          refine vR_callv (As := [.int (59 : Int32)]) (rest := []) C (mX8_mark C.2.2.2.2.2.2.2.2.1 hgu4) 1 rfl tcX8_mark tlX8_231 tiX8_mark tsX8_mark rfl tnX8 tdX8_mark ⟨Nat.le_of_ble_eq_true rfl, Nat.le_of_ble_eq_true rfl⟩ rfl (Nat.le_of_ble_eq_true rfl) dX8_commands_44 ?_
          refine vi_aload_n C 0 dX8_commands_47 rfl ?_
          refine gR_22 C dX8_commands_48 ?_
          refine vi_if_ne (tgt := 58) C dX8_commands_51 (by decide) (fun hc5 => ?_) (fun hc5 => ?_)
          · have h := ob_f h hc5
            obtain ⟨y6, ey6, h⟩ := ob_nm h
            refine vi_iinc (v := y6) (lv' := [(1, .int y6), (0, .ref (q 0))]) C 1 dX8_commands_58 rfl (by rw [ey6]; rfl) (by decide) rfl ?_
            refine vi_goto (tgt := 16) C dX8_commands_61 (by decide) ?_
            refine vi_sub C [1, 0] rfl ?_
            exact ih _ _ h
          · have h := ob_t h hc5
            refine vi_aload_n C 0 dX8_commands_54 rfl ?_
            obtain ⟨u7, hgu7, h⟩ := ob_bd h
            refine vR_callv (As := []) (rest := []) C (mX8_command C.2.2.2.2.2.2.2.2.1 hgu7) 0 rfl tcX8_command tlX8_241 tiX8_command tsX8_command rfl tnX8 tdX8_command ⟨Nat.le_of_ble_eq_true rfl, Nat.le_of_ble_eq_true rfl⟩ rfl (Nat.le_of_ble_eq_true rfl) dX8_commands_55 ?_
            obtain ⟨y8, ey8, h⟩ := ob_nm h
            refine vi_iinc (v := y8) (lv' := [(1, .int y8), (0, .ref (q 0))]) C 1 dX8_commands_58 rfl (by rw [ey8]; rfl) (by decide) rfl ?_
            refine vi_goto (tgt := 16) C dX8_commands_61 (by decide) ?_
            refine vi_sub C [1, 0] rfl ?_
            exact ih _ _ h
def fX8_commands (u : vS) : Option (Int32 × vS) := bd (up2 u 0 19 (0 : Int32)) fun u1 => bd (up2 u1 0 22 (0 : Int32)) fun u2 => (fX8_command u2).bind fun u3 => fX8_commands_16 vF (1 : Int32) u3
set_option maxRecDepth 100000 in
set_option maxHeartbeats 4000000 in
theorem kX8_commands_e {E : (Nat → Prop) → State → Heap → Prop} {p : Program} {l : Launch} {e : Env} {s : State} {m : MethodId} {args : Array Value} {below : List Frame} {meth : Method} {c : Code} {A : Nat → Prop} {D : va_G} {cI cF cC cS cO : ClassId} {Q : State → Prop} {q : Nat → Nat} (C : vC E p l s m args meth c A D (vT5 cI cF cC cS cO) cX8_commands 2 RX8) {r0 : Int32} {u0 : vS} (RET : ∀ (pc : Nat) (lv : List (Nat × Value)), decode cX8_commands pc = .ok (.ireturn, 1) → vV p l e { frames := 7, cells := 0, slots := 0, locals := 154 } s m args below meth c A D 2 0 0 Q (wR q cI u0) pc lv [.int r0]) {u : vS} (h : fX8_commands u = some (r0, u0)) : vV p l e { frames := 7, cells := 0, slots := 0, locals := 154 } s m args below meth c A D 2 0 0 Q (wR q cI u) 0 [(0, .ref (q 0))] [] := by
  rw [fX8_commands] at h
  refine vi_aload_n C 0 dX8_commands_0 rfl ?_
  refine vi_iconst (v := 0) C dX8_commands_1 (by decide) ?_
  obtain ⟨u1, eu1, h⟩ := ob_nm h
  refine pR_19 C dX8_commands_2 eu1.symm ?_
  refine vi_aload_n C 0 dX8_commands_5 rfl ?_
  refine vi_iconst (v := 0) C dX8_commands_6 (by decide) ?_
  obtain ⟨u2, eu2, h⟩ := ob_nm h
  refine pR_22 C dX8_commands_7 (by decide) eu2.symm ?_
  refine vi_iconst (v := 1) C dX8_commands_10 (by decide) ?_
  refine vi_istore_n (lv' := [(1, .int (1 : Int32)), (0, .ref (q 0))]) C dX8_commands_11 rfl (by decide) rfl ?_
  refine vi_aload_n C 1 dX8_commands_12 rfl ?_
  obtain ⟨u3, hgu3, h⟩ := ob_bd h
  refine vR_callv (As := []) (rest := []) C (mX8_command C.2.2.2.2.2.2.2.2.1 hgu3) 0 rfl tcX8_command tlX8_241 tiX8_command tsX8_command rfl tnX8 tdX8_command ⟨Nat.le_of_ble_eq_true rfl, Nat.le_of_ble_eq_true rfl⟩ rfl (Nat.le_of_ble_eq_true rfl) dX8_commands_13 ?_
  refine vi_sub C [1, 0] rfl ?_
  exact kX8_commands_16 C RET  vF _ _ h
theorem mX8_commands {E : (Nat → Prop) → State → Heap → Prop} (hE : vEok E) {l : Launch} {D : va_G} {cI cF cC cS cO : ClassId} {q : Nat → Nat} {r0 : Int32} {u0 : vS}  {u : vS} (h : fX8_commands u = some (r0, u0)) : vM E l yX8_commands cX8_commands 2 (some .int) 7 154 D (vT5 cI cF cC cS cO) [.ref (q 0)] (wR q cI u) (vQi D (wR q cI u0) r0) :=
  vM_of hE (by decide +kernel) (Nat.le_of_ble_eq_true rfl) (fun p e s m args below meth c A C hr => kX8_commands_e C (vi_reti C hr) h)
-- ---- X8_read
def fX8_read_85 (x1 : Int32) (x2 : Int32) (u : vS) : Option (Int32 × vS) := bd ((u 0 3 : Int32)) fun y1 => obp (fX8_refuses (5 : Int32) (x1 - (1 : Int32)) u) fun y3 u2 => bd (up2 u2 0 4 x2) fun u4 => bd (up2 u4 0 5 y1) fun u5 => obp (fX8_ends y3 u5) fun y7 u6 => some (y7, u6)
set_option maxRecDepth 100000 in
set_option maxHeartbeats 4000000 in
theorem kX8_read_85 {E : (Nat → Prop) → State → Heap → Prop} {p : Program} {l : Launch} {e : Env} {s : State} {m : MethodId} {args : Array Value} {below : List Frame} {meth : Method} {c : Code} {A : Nat → Prop} {D : va_G} {cI cF cC cS cO : ClassId} {Q : State → Prop} {q : Nat → Nat} (C : vC E p l s m args meth c A D (vT5 cI cF cC cS cO) cX8_read 5 RX8) {r0 : Int32} {u0 : vS} (RET : ∀ (pc : Nat) (lv : List (Nat × Value)), decode cX8_read pc = .ok (.ireturn, 1) → vV p l e { frames := 8, cells := 0, slots := 0, locals := 175 } s m args below meth c A D 5 0 0 Q (wR q cI u0) pc lv [.int r0]) : ∀ (x1 : Int32) (x2 : Int32) (u : vS), fX8_read_85 x1 x2 u = some (r0, u0) → vV p l e { frames := 8, cells := 0, slots := 0, locals := 175 } s m args below meth c A D 5 0 0 Q (wR q cI u) 85 [(0, .ref (q 0)), (1, .int x1)] [.int x2] := by
  intro x1 x2 u h
  rw [fX8_read_85] at h
  refine vi_istore_n (lv' := [(2, .int x2), (0, .ref (q 0)), (1, .int x1)]) C dX8_read_85 rfl (by decide) rfl ?_
  refine vi_aload_n C 1 dX8_read_86 rfl ?_
  refine gR_3 C dX8_read_87 ?_
  obtain ⟨y1, ey1, h⟩ := ob_nm h
  refine vi_nmi ey1 ?_
  refine vi_istore_n (lv' := [(3, .int y1), (2, .int x2), (0, .ref (q 0)), (1, .int x1)]) C dX8_read_90 rfl (by decide) rfl ?_
  refine vi_aload_n C 2 dX8_read_91 rfl ?_
  refine vi_iconst (v := 5) C dX8_read_92 (by decide) ?_
  refine vi_iload_n C 3 dX8_read_93 rfl ?_
  refine vi_iconst (v := 1) C dX8_read_94 (by decide) ?_
  refine vi_isub C dX8_read_95 ?_
  obtain ⟨y3, u2, hgu2, h⟩ := ob_p h
  refine vR_calli (As := [.int (5 : Int32), .int (x1 - (1 : Int32))]) (rest := []) C (mX8_refuses C.2.2.2.2.2.2.2.2.1 hgu2) 2 rfl tcX8_refuses tlX8_96 tiX8_refuses tsX8_refuses rfl tnX8 tdX8_refuses ⟨Nat.le_of_ble_eq_true rfl, Nat.le_of_ble_eq_true rfl⟩ rfl (Nat.le_of_ble_eq_true rfl) dX8_read_96 ?_
  refine vi_istore (lv' := [(4, .int y3), (3, .int y1), (2, .int x2), (0, .ref (q 0)), (1, .int x1)]) C dX8_read_99 (by decide) rfl ?_
  refine vi_aload_n C 3 dX8_read_101 rfl ?_
  refine vi_iload_n C 2 dX8_read_102 rfl ?_
  obtain ⟨u4, eu4, h⟩ := ob_nm h
  refine pR_4 C dX8_read_103 eu4.symm ?_
  refine vi_aload_n C 3 dX8_read_106 rfl ?_
  refine vi_iload_n C 1 dX8_read_107 rfl ?_
  obtain ⟨u5, eu5, h⟩ := ob_nm h
  refine pR_5 C dX8_read_108 eu5.symm ?_
  refine vi_aload_n C 3 dX8_read_111 rfl ?_
  refine vi_iload C 0 dX8_read_112 rfl ?_
  obtain ⟨y7, u6, hgu6, h⟩ := ob_p h
  refine vR_calli (As := [.int y3]) (rest := []) C (mX8_ends C.2.2.2.2.2.2.2.2.1 hgu6) 1 rfl tcX8_ends tlX8_105 tiX8_ends tsX8_ends rfl tnX8 tdX8_ends ⟨Nat.le_of_ble_eq_true rfl, Nat.le_of_ble_eq_true rfl⟩ rfl (Nat.le_of_ble_eq_true rfl) dX8_read_114 ?_
  exact vi_donei (W := wR q cI) RET h dX8_read_117
def fX8_read (u : vS) : Option (Int32 × vS) := (fX8_begins u).bind fun u1 => bd (up2 u1 0 20 (u1 0 18)) fun u2 => bd (up2 u2 0 18 (0 : Int32)) fun u3 => bd (up2 u3 0 23 (0 : Int32)) fun u4 => obp (fX8_commands u4) fun y6 u5 => (if u5 0 22 = 0 then bd (up2 u5 0 23 (1 : Int32)) fun u8 => obp (fX8_commands u8) fun y10 u9 => (if u9 0 0 = 0 then obp (fX8_ends y10 u9) fun y14 u13 => some (y14, u13) else (if u9 0 0 = (-100005 : Int32) then fX8_read_85 y10 (u9 0 2) u9 else fX8_read_85 y10 (0 : Int32) u9)) else bd (up2 u5 0 6 (u5 0 19)) fun u15 => some ((-100002 : Int32), u15))
set_option maxRecDepth 100000 in
set_option maxHeartbeats 4000000 in
theorem kX8_read_e {E : (Nat → Prop) → State → Heap → Prop} {p : Program} {l : Launch} {e : Env} {s : State} {m : MethodId} {args : Array Value} {below : List Frame} {meth : Method} {c : Code} {A : Nat → Prop} {D : va_G} {cI cF cC cS cO : ClassId} {Q : State → Prop} {q : Nat → Nat} (C : vC E p l s m args meth c A D (vT5 cI cF cC cS cO) cX8_read 5 RX8) {r0 : Int32} {u0 : vS} (RET : ∀ (pc : Nat) (lv : List (Nat × Value)), decode cX8_read pc = .ok (.ireturn, 1) → vV p l e { frames := 8, cells := 0, slots := 0, locals := 175 } s m args below meth c A D 5 0 0 Q (wR q cI u0) pc lv [.int r0]) {u : vS} (h : fX8_read u = some (r0, u0)) : vV p l e { frames := 8, cells := 0, slots := 0, locals := 175 } s m args below meth c A D 5 0 0 Q (wR q cI u) 0 [(0, .ref (q 0))] [] := by
  rw [fX8_read] at h
  refine vi_aload_n C 0 dX8_read_0 rfl ?_
  obtain ⟨u1, hgu1, h⟩ := ob_bd h
  refine vR_callv (As := []) (rest := []) C (mX8_begins C.2.2.2.2.2.2.2.2.1 hgu1) 0 rfl tcX8_begins tlX8_99 tiX8_begins tsX8_begins rfl tnX8 tdX8_begins ⟨Nat.le_of_ble_eq_true rfl, Nat.le_of_ble_eq_true rfl⟩ rfl (Nat.le_of_ble_eq_true rfl) dX8_read_1 ?_
  refine vi_aload_n C 0 dX8_read_4 rfl ?_
  refine vi_aload_n C 0 dX8_read_5 rfl ?_
  refine gR_18 C dX8_read_6 ?_
  obtain ⟨u2, eu2, h⟩ := ob_nm h
  refine pR_20 C dX8_read_9 eu2.symm ?_
  refine vi_aload_n C 0 dX8_read_12 rfl ?_
  refine vi_iconst (v := 0) C dX8_read_13 (by decide) ?_
  obtain ⟨u3, eu3, h⟩ := ob_nm h
  refine pR_18 C dX8_read_14 eu3.symm ?_
  refine vi_aload_n C 0 dX8_read_17 rfl ?_
  refine vi_iconst (v := 0) C dX8_read_18 (by decide) ?_
  obtain ⟨u4, eu4, h⟩ := ob_nm h
  refine pR_23 C dX8_read_19 (by decide) eu4.symm ?_
  refine vi_aload_n C 0 dX8_read_22 rfl ?_
  obtain ⟨y6, u5, hgu5, h⟩ := ob_p h
  refine vR_calli (As := []) (rest := []) C (mX8_commands C.2.2.2.2.2.2.2.2.1 hgu5) 0 rfl tcX8_commands tlX8_244 tiX8_commands tsX8_commands rfl tnX8 tdX8_commands ⟨Nat.le_of_ble_eq_true rfl, Nat.le_of_ble_eq_true rfl⟩ rfl (Nat.le_of_ble_eq_true rfl) dX8_read_23 ?_
  refine vi_istore_n (lv' := [(1, .int y6), (0, .ref (q 0))]) C dX8_read_26 rfl (by decide) rfl ?_
  refine vi_aload_n C 1 dX8_read_27 rfl ?_
  refine gR_22 C dX8_read_28 ?_
  refine vi_if_eq (tgt := 45) C dX8_read_31 (by decide) (fun hc7 => ?_) (fun hc7 => ?_)
  · have h := ob_t h hc7
    refine vi_aload_n C 1 dX8_read_45 rfl ?_
    refine vi_iconst (v := 1) C dX8_read_46 (by decide) ?_
    obtain ⟨u8, eu8, h⟩ := ob_nm h
    refine pR_23 C dX8_read_47 (by decide) eu8.symm ?_
    refine vi_aload_n C 1 dX8_read_50 rfl ?_
    obtain ⟨y10, u9, hgu9, h⟩ := ob_p h
    refine vR_calli (As := []) (rest := []) C (mX8_commands C.2.2.2.2.2.2.2.2.1 hgu9) 0 rfl tcX8_commands tlX8_244 tiX8_commands tsX8_commands rfl tnX8 tdX8_commands ⟨Nat.le_of_ble_eq_true rfl, Nat.le_of_ble_eq_true rfl⟩ rfl (Nat.le_of_ble_eq_true rfl) dX8_read_51 ?_
    refine vi_istore_n (lv' := [(1, .int y10), (0, .ref (q 0))]) C dX8_read_54 rfl (by decide) rfl ?_
    refine vi_aload_n C 1 dX8_read_55 rfl ?_
    refine gR_0 C dX8_read_56 ?_
    refine vi_if_ne (tgt := 68) C dX8_read_59 (by decide) (fun hc11 => ?_) (fun hc11 => ?_)
    · have h := ob_f h hc11
      refine vi_aload_n C 1 dX8_read_68 rfl ?_
      refine gR_0 C dX8_read_69 ?_
      refine vi_ldc (v := (-100005)) C dX8_read_72 tkX8_56 ?_
      refine vi_icmp_ne (tgt := 84) C dX8_read_74 (by decide) (fun hc12 => ?_) (fun hc12 => ?_)
      · have h := ob_f h hc12
        refine vi_iconst (v := 0) C dX8_read_84 (by decide) ?_
        refine vi_sub C [1, 0] rfl ?_
        exact kX8_read_85 C RET   _ _ _ h
      · have h := ob_t h hc12
        refine vi_aload_n C 1 dX8_read_77 rfl ?_
        refine gR_2 C dX8_read_78 ?_
        refine vi_goto (tgt := 85) C dX8_read_81 (by decide) ?_
        refine vi_sub C [1, 0] rfl ?_
        exact kX8_read_85 C RET   _ _ _ h
    · have h := ob_t h hc11
      refine vi_aload_n C 1 dX8_read_62 rfl ?_
      refine vi_iload_n C 0 dX8_read_63 rfl ?_
      obtain ⟨y14, u13, hgu13, h⟩ := ob_p h
      refine vR_calli (As := [.int y10]) (rest := []) C (mX8_ends C.2.2.2.2.2.2.2.2.1 hgu13) 1 rfl tcX8_ends tlX8_105 tiX8_ends tsX8_ends rfl tnX8 tdX8_ends ⟨Nat.le_of_ble_eq_true rfl, Nat.le_of_ble_eq_true rfl⟩ rfl (Nat.le_of_ble_eq_true rfl) dX8_read_64 ?_
      exact vi_donei (W := wR q cI) RET h dX8_read_67
  · have h := ob_f h hc7
    refine vi_aload_n C 1 dX8_read_34 rfl ?_
    refine vi_aload_n C 1 dX8_read_35 rfl ?_
    refine gR_19 C dX8_read_36 ?_
    obtain ⟨u15, eu15, h⟩ := ob_nm h
    refine pR_6 C dX8_read_39 eu15.symm ?_
    refine vi_ldc (v := (-100002)) C dX8_read_42 tkX8_95 ?_
    exact vi_donei (W := wR q cI) RET h dX8_read_44
theorem mX8_read {E : (Nat → Prop) → State → Heap → Prop} (hE : vEok E) {l : Launch} {D : va_G} {cI cF cC cS cO : ClassId} {q : Nat → Nat} {r0 : Int32} {u0 : vS}  {u : vS} (h : fX8_read u = some (r0, u0)) : vM E l yX8_read cX8_read 5 (some .int) 8 175 D (vT5 cI cF cC cS cO) [.ref (q 0)] (wR q cI u) (vQi D (wR q cI u0) r0) :=
  vM_of hE (by decide +kernel) (Nat.le_of_ble_eq_true rfl) (fun p e s m args below meth c A C hr => kX8_read_e C (vi_reti C hr) h)
-- ---- X8_fault
def fX8_fault (u : vS) : Option (Int32 × vS) := (if 0 ≤ u 0 6 then some (u 0 6, u) else some ((-100003 : Int32), u))
set_option maxRecDepth 100000 in
set_option maxHeartbeats 4000000 in
theorem kX8_fault_e {E : (Nat → Prop) → State → Heap → Prop} {p : Program} {l : Launch} {e : Env} {s : State} {m : MethodId} {args : Array Value} {below : List Frame} {meth : Method} {c : Code} {A : Nat → Prop} {D : va_G} {cI cF cC cS cO : ClassId} {Q : State → Prop} {q : Nat → Nat} (C : vC E p l s m args meth c A D (vT5 cI cF cC cS cO) cX8_fault 1 RX8) {r0 : Int32} {u0 : vS} (RET : ∀ (pc : Nat) (lv : List (Nat × Value)), decode cX8_fault pc = .ok (.ireturn, 1) → vV p l e { frames := 0, cells := 0, slots := 0, locals := 0 } s m args below meth c A D 1 0 0 Q (wR q cI u0) pc lv [.int r0]) {u : vS} (h : fX8_fault u = some (r0, u0)) : vV p l e { frames := 0, cells := 0, slots := 0, locals := 0 } s m args below meth c A D 1 0 0 Q (wR q cI u) 0 [(0, .ref (q 0))] [] := by
  rw [fX8_fault] at h
  refine vi_aload_n C 0 dX8_fault_0 rfl ?_
  refine gR_6 C dX8_fault_1 ?_
  refine vi_if_ge (tgt := 12) C dX8_fault_4 (by decide) (fun hc1 => ?_) (fun hc1 => ?_)
  · have h := ob_t h hc1
    refine vi_aload_n C 0 dX8_fault_12 rfl ?_
    refine gR_6 C dX8_fault_13 ?_
    exact vi_donei (W := wR q cI) RET h dX8_fault_16
  · have h := ob_f h hc1
    refine vi_ldc (v := (-100003)) C dX8_fault_7 tkX8_250 ?_
    refine vi_goto (tgt := 16) C dX8_fault_9 (by decide) ?_
    exact vi_donei (W := wR q cI) RET h dX8_fault_16
theorem mX8_fault {E : (Nat → Prop) → State → Heap → Prop} (hE : vEok E) {l : Launch} {D : va_G} {cI cF cC cS cO : ClassId} {q : Nat → Nat} {r0 : Int32} {u0 : vS}  {u : vS} (h : fX8_fault u = some (r0, u0)) : vM E l yX8_fault cX8_fault 1 (some .int) 0 0 D (vT5 cI cF cC cS cO) [.ref (q 0)] (wR q cI u) (vQi D (wR q cI u0) r0) :=
  vM_of hE (by decide +kernel) (Nat.le_of_ble_eq_true rfl) (fun p e s m args below meth c A C hr => kX8_fault_e C (vi_reti C hr) h)
-- ---- X8_reason
def fX8_reason (x1 : Int32) (x2 : Int32) (u : vS) : Option (Int32 × vS) := (fX8_isIn x1 (0 : Int32) (1 : Int32)).bind fun y1 => (if y1 = 0 then some ((-100002 : Int32), u) else (if u 0 2 = 0 then some ((-100003 : Int32), u) else (if x1 = 0 then (if x2 = 0 then some (u 0 2, u) else some (u 0 3, u)) else (if u 0 4 = 0 then some ((-100006 : Int32), u) else (if x2 = 0 then some (u 0 4, u) else some (u 0 5, u))))))
set_option maxRecDepth 100000 in
set_option maxHeartbeats 4000000 in
theorem kX8_reason_e {E : (Nat → Prop) → State → Heap → Prop} {p : Program} {l : Launch} {e : Env} {s : State} {m : MethodId} {args : Array Value} {below : List Frame} {meth : Method} {c : Code} {A : Nat → Prop} {D : va_G} {cI cF cC cS cO : ClassId} {Q : State → Prop} {q : Nat → Nat} (C : vC E p l s m args meth c A D (vT5 cI cF cC cS cO) cX8_reason 3 RX8) {r0 : Int32} {u0 : vS} (RET : ∀ (pc : Nat) (lv : List (Nat × Value)), decode cX8_reason pc = .ok (.ireturn, 1) → vV p l e { frames := 1, cells := 0, slots := 0, locals := 22 } s m args below meth c A D 3 0 0 Q (wR q cI u0) pc lv [.int r0]) {x1 : Int32} {x2 : Int32} {u : vS} (h : fX8_reason x1 x2 u = some (r0, u0)) : vV p l e { frames := 1, cells := 0, slots := 0, locals := 22 } s m args below meth c A D 3 0 0 Q (wR q cI u) 0 [(0, .ref (q 0)), (1, .int x1), (2, .int x2)] [] := by
  rw [fX8_reason] at h
  refine vi_iload_n C 1 dX8_reason_0 rfl ?_
  refine vi_iconst (v := 0) C dX8_reason_1 (by decide) ?_
  refine vi_iconst (v := 1) C dX8_reason_2 (by decide) ?_
  obtain ⟨y1, hgy1, h⟩ := ob_bd h
  refine vi_callS0i (As := [.int x1, .int (0 : Int32), .int (1 : Int32)]) (rest := []) C (mX8_isIn C.2.2.2.2.2.2.2.2.1 hgy1) 3 rfl tcX8_isIn tlX8_68 ttX8_isIn tnX8 tdX8_isIn ⟨Nat.le_of_ble_eq_true rfl, Nat.le_of_ble_eq_true rfl⟩ rfl (Nat.le_of_ble_eq_true rfl) dX8_reason_3 ?_
  refine vi_if_ne (tgt := 12) C dX8_reason_6 (by decide) (fun hc2 => ?_) (fun hc2 => ?_)
  · have h := ob_f h hc2
    refine vi_aload_n C 0 dX8_reason_12 rfl ?_
    refine gR_2 C dX8_reason_13 ?_
    refine vi_if_ne (tgt := 22) C dX8_reason_16 (by decide) (fun hc3 => ?_) (fun hc3 => ?_)
    · have h := ob_f h hc3
      refine vi_iload_n C 1 dX8_reason_22 rfl ?_
      refine vi_if_ne (tgt := 42) C dX8_reason_23 (by decide) (fun hc4 => ?_) (fun hc4 => ?_)
      · have h := ob_f h hc4
        refine vi_aload_n C 0 dX8_reason_42 rfl ?_
        refine gR_4 C dX8_reason_43 ?_
        refine vi_if_ne (tgt := 54) C dX8_reason_46 (by decide) (fun hc5 => ?_) (fun hc5 => ?_)
        · have h := ob_f h hc5
          refine vi_iload_n C 2 dX8_reason_54 rfl ?_
          refine vi_if_eq (tgt := 65) C dX8_reason_55 (by decide) (fun hc6 => ?_) (fun hc6 => ?_)
          · have h := ob_t h hc6
            refine vi_aload_n C 0 dX8_reason_65 rfl ?_
            refine gR_4 C dX8_reason_66 ?_
            exact vi_donei (W := wR q cI) RET h dX8_reason_69
          · have h := ob_f h hc6
            refine vi_aload_n C 0 dX8_reason_58 rfl ?_
            refine gR_5 C dX8_reason_59 ?_
            refine vi_goto (tgt := 69) C dX8_reason_62 (by decide) ?_
            exact vi_donei (W := wR q cI) RET h dX8_reason_69
        · have h := ob_t h hc5
          refine vi_ldc (v := (-100006)) C dX8_reason_49 tkX8_181 ?_
          refine vi_goto (tgt := 69) C dX8_reason_51 (by decide) ?_
          exact vi_donei (W := wR q cI) RET h dX8_reason_69
      · have h := ob_t h hc4
        refine vi_iload_n C 2 dX8_reason_26 rfl ?_
        refine vi_if_eq (tgt := 37) C dX8_reason_27 (by decide) (fun hc7 => ?_) (fun hc7 => ?_)
        · have h := ob_t h hc7
          refine vi_aload_n C 0 dX8_reason_37 rfl ?_
          refine gR_2 C dX8_reason_38 ?_
          exact vi_donei (W := wR q cI) RET h dX8_reason_41
        · have h := ob_f h hc7
          refine vi_aload_n C 0 dX8_reason_30 rfl ?_
          refine gR_3 C dX8_reason_31 ?_
          refine vi_goto (tgt := 41) C dX8_reason_34 (by decide) ?_
          exact vi_donei (W := wR q cI) RET h dX8_reason_41
    · have h := ob_t h hc3
      refine vi_ldc (v := (-100003)) C dX8_reason_19 tkX8_250 ?_
      exact vi_donei (W := wR q cI) RET h dX8_reason_21
  · have h := ob_t h hc2
    refine vi_ldc (v := (-100002)) C dX8_reason_9 tkX8_95 ?_
    exact vi_donei (W := wR q cI) RET h dX8_reason_11
theorem mX8_reason {E : (Nat → Prop) → State → Heap → Prop} (hE : vEok E) {l : Launch} {D : va_G} {cI cF cC cS cO : ClassId} {q : Nat → Nat} {r0 : Int32} {u0 : vS}  {x1 : Int32} {x2 : Int32} {u : vS} (h : fX8_reason x1 x2 u = some (r0, u0)) : vM E l yX8_reason cX8_reason 3 (some .int) 1 22 D (vT5 cI cF cC cS cO) [.ref (q 0), .int x1, .int x2] (wR q cI u) (vQi D (wR q cI u0) r0) :=
  vM_of hE (by decide +kernel) (Nat.le_of_ble_eq_true rfl) (fun p e s m args below meth c A C hr => kX8_reason_e C (vi_reti C hr) h)
-- ---- X8_undo
def fX8_undo_22 : Nat → Int32 → vS → Option (Int32 × vS)
  | 0, _, _ => none
  | n + 1, x1, u => (if (66 : Int32) ≤ x1 then some (u 0 1, u) else if ((u 0 1) * (66 : Int32)) + x1 < 0 ∨ 528 ≤ Int32.toNatClampNeg (((u 0 1) * (66 : Int32)) + x1) then none else if x1 < 0 ∨ 66 ≤ Int32.toNatClampNeg x1 then none else bd (up2 u 1 (Int32.toNatClampNeg x1) (u 5 (Int32.toNatClampNeg (((u 0 1) * (66 : Int32)) + x1)))) fun u4 => bd ((x1 + 1 : Int32)) fun y5 => fX8_undo_22 n y5 u4)
set_option maxRecDepth 100000 in
set_option maxHeartbeats 4000000 in
theorem kX8_undo_22 {E : (Nat → Prop) → State → Heap → Prop} {p : Program} {l : Launch} {e : Env} {s : State} {m : MethodId} {args : Array Value} {below : List Frame} {meth : Method} {c : Code} {A : Nat → Prop} {D : va_G} {cI cF cC cS cO : ClassId} {Q : State → Prop} {q : Nat → Nat} (C : vC E p l s m args meth c A D (vT5 cI cF cC cS cO) cX8_undo 2 RX8) {r0 : Int32} {u0 : vS} (RET : ∀ (pc : Nat) (lv : List (Nat × Value)), decode cX8_undo pc = .ok (.ireturn, 1) → vV p l e { frames := 0, cells := 0, slots := 0, locals := 0 } s m args below meth c A D 2 0 0 Q (wR q cI u0) pc lv [.int r0]) : ∀ (n : Nat) (x1 : Int32) (u : vS), fX8_undo_22 n x1 u = some (r0, u0) → vV p l e { frames := 0, cells := 0, slots := 0, locals := 0 } s m args below meth c A D 2 0 0 Q (wR q cI u) 22 [(0, .ref (q 0)), (1, .int x1)] [] := by
  intro n
  induction n with
  | zero => intro x1 u h; rw [fX8_undo_22] at h; cases h
  | succ n ih =>
    intro x1 u h
    rw [fX8_undo_22] at h
    refine vi_iload_n C 1 dX8_undo_22 rfl ?_
    refine vi_bipush (v := 66) C dX8_undo_23 (by decide) ?_
    refine vi_icmp_ge (tgt := 54) C dX8_undo_25 (by decide) (fun hc1 => ?_) (fun hc1 => ?_)
    · have h := ob_t h hc1
      refine vi_aload_n C 0 dX8_undo_54 rfl ?_
      refine gR_1 C dX8_undo_55 ?_
      exact vi_donei (W := wR q cI) RET h dX8_undo_58
    · have h := ob_f h hc1
      refine vi_aload_n C 0 dX8_undo_28 rfl ?_
      refine gR_8 C dX8_undo_29 ?_
      refine vi_iload_n C 1 dX8_undo_32 rfl ?_
      refine vi_aload_n C 0 dX8_undo_33 rfl ?_
      refine gR_12 C dX8_undo_34 ?_
      refine vi_aload_n C 0 dX8_undo_37 rfl ?_
      refine gR_1 C dX8_undo_38 ?_
      refine vi_bipush (v := 66) C dX8_undo_41 (by decide) ?_
      refine vi_imul C dX8_undo_43 ?_
      refine vi_iload_n C 1 dX8_undo_44 rfl ?_
      refine vi_iadd C dX8_undo_45 ?_
      obtain ⟨hz2, h⟩ := ob_if h
      refine lR_5 (n := (Int32.toNatClampNeg (((u 0 1) * (66 : Int32)) + x1))) C hz2 rfl dX8_undo_46 ?_
      obtain ⟨hz3, h⟩ := ob_if h
      obtain ⟨u4, eu4, h⟩ := ob_nm h
      refine sR_1 (n := (Int32.toNatClampNeg x1)) C hz3 rfl dX8_undo_47 eu4.symm ?_
      obtain ⟨y5, ey5, h⟩ := ob_nm h
      refine vi_iinc (v := y5) (lv' := [(1, .int y5), (0, .ref (q 0))]) C 1 dX8_undo_48 rfl (by rw [ey5]; rfl) (by decide) rfl ?_
      refine vi_goto (tgt := 22) C dX8_undo_51 (by decide) ?_
      refine vi_sub C [1, 0] rfl ?_
      exact ih _ _ h
def fX8_undo (u : vS) : Option (Int32 × vS) := (if u 0 1 = 0 then some ((-100003 : Int32), u) else bd (up2 u 0 1 ((u 0 1) - (1 : Int32))) fun u2 => fX8_undo_22 vF (0 : Int32) u2)
set_option maxRecDepth 100000 in
set_option maxHeartbeats 4000000 in
theorem kX8_undo_e {E : (Nat → Prop) → State → Heap → Prop} {p : Program} {l : Launch} {e : Env} {s : State} {m : MethodId} {args : Array Value} {below : List Frame} {meth : Method} {c : Code} {A : Nat → Prop} {D : va_G} {cI cF cC cS cO : ClassId} {Q : State → Prop} {q : Nat → Nat} (C : vC E p l s m args meth c A D (vT5 cI cF cC cS cO) cX8_undo 2 RX8) {r0 : Int32} {u0 : vS} (RET : ∀ (pc : Nat) (lv : List (Nat × Value)), decode cX8_undo pc = .ok (.ireturn, 1) → vV p l e { frames := 0, cells := 0, slots := 0, locals := 0 } s m args below meth c A D 2 0 0 Q (wR q cI u0) pc lv [.int r0]) {u : vS} (h : fX8_undo u = some (r0, u0)) : vV p l e { frames := 0, cells := 0, slots := 0, locals := 0 } s m args below meth c A D 2 0 0 Q (wR q cI u) 0 [(0, .ref (q 0))] [] := by
  rw [fX8_undo] at h
  refine vi_aload_n C 0 dX8_undo_0 rfl ?_
  refine gR_1 C dX8_undo_1 ?_
  refine vi_if_ne (tgt := 10) C dX8_undo_4 (by decide) (fun hc1 => ?_) (fun hc1 => ?_)
  · have h := ob_f h hc1
    refine vi_aload_n C 0 dX8_undo_10 rfl ?_
    refine vi_dup C dX8_undo_11 rfl ?_
    refine gR_1 C dX8_undo_12 ?_
    refine vi_iconst (v := 1) C dX8_undo_15 (by decide) ?_
    refine vi_isub C dX8_undo_16 ?_
    obtain ⟨u2, eu2, h⟩ := ob_nm h
    refine pR_1 C dX8_undo_17 eu2.symm ?_
    refine vi_iconst (v := 0) C dX8_undo_20 (by decide) ?_
    refine vi_istore_n (lv' := [(1, .int (0 : Int32)), (0, .ref (q 0))]) C dX8_undo_21 rfl (by decide) rfl ?_
    refine vi_sub C [1, 0] rfl ?_
    exact kX8_undo_22 C RET  vF _ _ h
  · have h := ob_t h hc1
    refine vi_ldc (v := (-100003)) C dX8_undo_7 tkX8_250 ?_
    exact vi_donei (W := wR q cI) RET h dX8_undo_9
theorem mX8_undo {E : (Nat → Prop) → State → Heap → Prop} (hE : vEok E) {l : Launch} {D : va_G} {cI cF cC cS cO : ClassId} {q : Nat → Nat} {r0 : Int32} {u0 : vS}  {u : vS} (h : fX8_undo u = some (r0, u0)) : vM E l yX8_undo cX8_undo 2 (some .int) 0 0 D (vT5 cI cF cC cS cO) [.ref (q 0)] (wR q cI u) (vQi D (wR q cI u0) r0) :=
  vM_of hE (by decide +kernel) (Nat.le_of_ble_eq_true rfl) (fun p e s m args below meth c A C hr => kX8_undo_e C (vi_reti C hr) h)
-- ---- X8_lays_3_1
def fX8_lays_3_1_2 : Nat → Int32 → vS → Option (vS)
  | 0, _, _ => none
  | n + 1, x1, u => (if (66 : Int32) ≤ x1 then some u else if x1 < 0 ∨ 66 ≤ Int32.toNatClampNeg x1 then none else if x1 < 0 ∨ 66 ≤ Int32.toNatClampNeg x1 then none else bd (up2 u 3 (Int32.toNatClampNeg x1) (u 1 (Int32.toNatClampNeg x1))) fun u4 => bd ((x1 + 1 : Int32)) fun y5 => fX8_lays_3_1_2 n y5 u4)
set_option maxRecDepth 100000 in
set_option maxHeartbeats 4000000 in
theorem kX8_lays_3_1_2 {E : (Nat → Prop) → State → Heap → Prop} {p : Program} {l : Launch} {e : Env} {s : State} {m : MethodId} {args : Array Value} {below : List Frame} {meth : Method} {c : Code} {A : Nat → Prop} {D : va_G} {cI cF cC cS cO : ClassId} {Q : State → Prop} {q : Nat → Nat} (C : vC E p l s m args meth c A D (vT5 cI cF cC cS cO) cX8_lays 3 RX8) {u0 : vS} (RET : ∀ (pc : Nat) (lv : List (Nat × Value)), decode cX8_lays pc = .ok (.return_, 1) → vV p l e { frames := 0, cells := 0, slots := 0, locals := 0 } s m args below meth c A D 3 0 0 Q (wR q cI u0) pc lv []) : ∀ (n : Nat) (x1 : Int32) (u : vS), fX8_lays_3_1_2 n x1 u = some u0 → vV p l e { frames := 0, cells := 0, slots := 0, locals := 0 } s m args below meth c A D 3 0 0 Q (wR q cI u) 2 [(0, .ref (q 3)), (1, .ref (q 1)), (2, .int x1)] [] := by
  intro n
  induction n with
  | zero => intro x1 u h; rw [fX8_lays_3_1_2] at h; cases h
  | succ n ih =>
    intro x1 u h
    rw [fX8_lays_3_1_2] at h
    refine vi_iload_n C 2 dX8_lays_2 rfl ?_
    refine vi_bipush (v := 66) C dX8_lays_3 (by decide) ?_
    refine vi_icmp_ge (tgt := 20) C dX8_lays_5 (by decide) (fun hc1 => ?_) (fun hc1 => ?_)
    · have h := ob_t h hc1
      exact vi_donev (W := wR q cI) RET h dX8_lays_20
    · have h := ob_f h hc1
      refine vi_aload_n C 0 dX8_lays_8 rfl ?_
      refine vi_iload_n C 2 dX8_lays_9 rfl ?_
      refine vi_aload_n C 1 dX8_lays_10 rfl ?_
      refine vi_iload_n C 2 dX8_lays_11 rfl ?_
      obtain ⟨hz2, h⟩ := ob_if h
      refine lR_1 (n := (Int32.toNatClampNeg x1)) C hz2 rfl dX8_lays_12 ?_
      obtain ⟨hz3, h⟩ := ob_if h
      obtain ⟨u4, eu4, h⟩ := ob_nm h
      refine sR_3 (n := (Int32.toNatClampNeg x1)) C hz3 rfl dX8_lays_13 eu4.symm ?_
      obtain ⟨y5, ey5, h⟩ := ob_nm h
      refine vi_iinc (v := y5) (lv' := [(2, .int y5), (0, .ref (q 3)), (1, .ref (q 1))]) C 2 dX8_lays_14 rfl (by rw [ey5]; rfl) (by decide) rfl ?_
      refine vi_goto (tgt := 2) C dX8_lays_17 (by decide) ?_
      refine vi_sub C [1, 2, 0] rfl ?_
      exact ih _ _ h
def fX8_lays_3_1 (u : vS) : Option (vS) := fX8_lays_3_1_2 vF (0 : Int32) u
set_option maxRecDepth 100000 in
set_option maxHeartbeats 4000000 in
theorem kX8_lays_3_1_e {E : (Nat → Prop) → State → Heap → Prop} {p : Program} {l : Launch} {e : Env} {s : State} {m : MethodId} {args : Array Value} {below : List Frame} {meth : Method} {c : Code} {A : Nat → Prop} {D : va_G} {cI cF cC cS cO : ClassId} {Q : State → Prop} {q : Nat → Nat} (C : vC E p l s m args meth c A D (vT5 cI cF cC cS cO) cX8_lays 3 RX8) {u0 : vS} (RET : ∀ (pc : Nat) (lv : List (Nat × Value)), decode cX8_lays pc = .ok (.return_, 1) → vV p l e { frames := 0, cells := 0, slots := 0, locals := 0 } s m args below meth c A D 3 0 0 Q (wR q cI u0) pc lv []) {u : vS} (h : fX8_lays_3_1 u = some u0) : vV p l e { frames := 0, cells := 0, slots := 0, locals := 0 } s m args below meth c A D 3 0 0 Q (wR q cI u) 0 [(0, .ref (q 3)), (1, .ref (q 1))] [] := by
  rw [fX8_lays_3_1] at h
  refine vi_iconst (v := 0) C dX8_lays_0 (by decide) ?_
  refine vi_istore_n (lv' := [(2, .int (0 : Int32)), (0, .ref (q 3)), (1, .ref (q 1))]) C dX8_lays_1 rfl (by decide) rfl ?_
  refine vi_sub C [1, 2, 0] rfl ?_
  exact kX8_lays_3_1_2 C RET  vF _ _ h
theorem mX8_lays_3_1 {E : (Nat → Prop) → State → Heap → Prop} (hE : vEok E) {l : Launch} {D : va_G} {cI cF cC cS cO : ClassId} {q : Nat → Nat} {u0 : vS}  {u : vS} (h : fX8_lays_3_1 u = some u0) : vM E l yX8_lays cX8_lays 3 none 0 0 D (vT5 cI cF cC cS cO) [.ref (q 3), .ref (q 1)] (wR q cI u) (vQv D (wR q cI u0)) :=
  vM_of hE (by decide +kernel) (Nat.le_of_ble_eq_true rfl) (fun p e s m args below meth c A C hr => kX8_lays_3_1_e C (vi_retv C hr) h)
-- ---- X8_save
def fX8_save (u : vS) : Option (Int32 × vS) := (fX8_lays_3_1 u).bind fun u1 => bd (up2 u1 0 7 (1 : Int32)) fun u2 => some (u2 1 0, u2)
set_option maxRecDepth 100000 in
set_option maxHeartbeats 4000000 in
theorem kX8_save_e {E : (Nat → Prop) → State → Heap → Prop} {p : Program} {l : Launch} {e : Env} {s : State} {m : MethodId} {args : Array Value} {below : List Frame} {meth : Method} {c : Code} {A : Nat → Prop} {D : va_G} {cI cF cC cS cO : ClassId} {Q : State → Prop} {q : Nat → Nat} (C : vC E p l s m args meth c A D (vT5 cI cF cC cS cO) cX8_save 1 RX8) {r0 : Int32} {u0 : vS} (RET : ∀ (pc : Nat) (lv : List (Nat × Value)), decode cX8_save pc = .ok (.ireturn, 1) → vV p l e { frames := 1, cells := 0, slots := 0, locals := 22 } s m args below meth c A D 1 0 0 Q (wR q cI u0) pc lv [.int r0]) {u : vS} (h : fX8_save u = some (r0, u0)) : vV p l e { frames := 1, cells := 0, slots := 0, locals := 22 } s m args below meth c A D 1 0 0 Q (wR q cI u) 0 [(0, .ref (q 0))] [] := by
  rw [fX8_save] at h
  refine vi_aload_n C 0 dX8_save_0 rfl ?_
  refine gR_10 C dX8_save_1 ?_
  refine vi_aload_n C 0 dX8_save_4 rfl ?_
  refine gR_8 C dX8_save_5 ?_
  obtain ⟨u1, hgu1, h⟩ := ob_bd h
  refine vR_callSv (As := [.ref (q 3), .ref (q 1)]) (rest := []) C (mX8_lays_3_1 C.2.2.2.2.2.2.2.2.1 hgu1) 2 rfl tcX8_lays tlX8_61 ttX8_lays tnX8 tdX8_lays ⟨Nat.le_of_ble_eq_true rfl, Nat.le_of_ble_eq_true rfl⟩ rfl (Nat.le_of_ble_eq_true rfl) dX8_save_8 ?_
  refine vi_aload_n C 0 dX8_save_11 rfl ?_
  refine vi_iconst (v := 1) C dX8_save_12 (by decide) ?_
  obtain ⟨u2, eu2, h⟩ := ob_nm h
  refine pR_7 C dX8_save_13 (by decide) eu2.symm ?_
  refine vi_aload_n C 0 dX8_save_16 rfl ?_
  refine gR_8 C dX8_save_17 ?_
  refine vi_iconst (v := 0) C dX8_save_20 (by decide) ?_
  refine lR_1 (n := 0) C (by decide) rfl dX8_save_21 ?_
  exact vi_donei (W := wR q cI) RET h dX8_save_22
theorem mX8_save {E : (Nat → Prop) → State → Heap → Prop} (hE : vEok E) {l : Launch} {D : va_G} {cI cF cC cS cO : ClassId} {q : Nat → Nat} {r0 : Int32} {u0 : vS}  {u : vS} (h : fX8_save u = some (r0, u0)) : vM E l yX8_save cX8_save 1 (some .int) 1 22 D (vT5 cI cF cC cS cO) [.ref (q 0)] (wR q cI u) (vQi D (wR q cI u0) r0) :=
  vM_of hE (by decide +kernel) (Nat.le_of_ble_eq_true rfl) (fun p e s m args below meth c A C hr => kX8_save_e C (vi_reti C hr) h)
