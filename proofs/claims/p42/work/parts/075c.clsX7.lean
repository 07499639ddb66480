-- ---- X7_account
def fX7_account (x1 : Int32) (u : vZ) : Option (Int32 × vZ) := (if x1 = 0 then some (u.2.1.1.1 0 0, u) else (if x1 = 1 then some (u.2.1.1.1 0 6, u) else (if x1 = 2 then some (u.2.1.1.1 0 5, u) else (if x1 = 3 then some (u.2.1.1.1 0 7, u) else (if x1 = 4 then some (u.2.1.1.1 0 11, u) else (if x1 = 5 then obp (fX5_allCups u.2.1.1) fun y7 u6b => bd ((u.1, ((u6b, u.2.1.2), u.2.2))) fun u6 => some (y7, u6) else (if x1 = 6 then some (u.2.1.1.1 0 12, u) else (if x1 = 7 then some (u.2.1.1.1 0 13, u) else (if x1 = 8 then some (u.2.1.1.1 0 14, u) else (if x1 = 9 then some (u.2.2.2.2.2.1.1 0 1, u) else (if x1 = 10 then some (u.2.1.2.1 2, u) else some ((-100002 : Int32), u))))))))))))
set_option maxRecDepth 100000 in
set_option maxHeartbeats 4000000 in
theorem kX7_account_e {ad adK adV : Nat → Nat} {tS tF : Nat} {tX sK sV : Nat → Nat} {p : Program} {l : Launch} {e : Env} {s : State} {m : MethodId} {args : Array Value} {below : List Frame} {meth : Method} {c : Code} {A : Nat → Prop} {D : va_G} {cI cF cC cS cO cB cZ : ClassId} {Q : State → Prop} {q0 qs qo qt qv qr qx ql : Nat → Nat} {qh : Nat → Nat → Nat} (C : vC (vE ad adK adV tS tF tX sK sV) p l s m args meth c A D (vT7 cI cF cC cS cO cB cZ) cX7_account 2 RX7) {r0 : Int32} {u0 : vZ} (RET : ∀ (pc : Nat) (lv : List (Nat × Value)), decode cX7_account pc = .ok (.ireturn, 1) → vV p l e { frames := 1, cells := 0, slots := 0, locals := 22 } s m args below meth c A D 2 0 0 Q (wX q0 qs qo qt qv qr qx ql ad qh cI cF cC cS cO u0) pc lv [.int r0]) {x1 : Int32} {u : vZ} (h : fX7_account x1 u = some (r0, u0)) : vV p l e { frames := 1, cells := 0, slots := 0, locals := 22 } s m args below meth c A D 2 0 0 Q (wX q0 qs qo qt qv qr qx ql ad qh cI cF cC cS cO u) 0 [(0, .ref (q0 0)), (1, .int x1)] [] := by
  rw [fX7_account] at h
  refine vi_iload_n C 1 dX7_account_0 rfl ?_
  by_cases hc1 : x1 = 0
  · have h := ob_t h hc1
    refine vi_tswIn (off := 59) (tgt := 60) C dX7_account_1 (by rw [hc1]; decide) (by rw [hc1]; decide) (by rw [hc1]; rfl) (by decide) ?_
    refine vi_aload_n C 0 dX7_account_60 rfl ?_
    refine gM_X7_0_0 C dX7_account_61 ?_
    refine gM_X7_1_0 C dX7_account_64 ?_
    exact vi_donei (W := wX q0 qs qo qt qv qr qx ql ad qh cI cF cC cS cO) RET h dX7_account_67
  · replace h := ob_f h hc1
    by_cases hc2 : x1 = 1
    · have h := ob_t h hc2
      refine vi_tswIn (off := 67) (tgt := 68) C dX7_account_1 (by rw [hc2]; decide) (by rw [hc2]; decide) (by rw [hc2]; rfl) (by decide) ?_
      refine vi_aload_n C 0 dX7_account_68 rfl ?_
      refine gM_X7_0_0 C dX7_account_69 ?_
      refine gM_X7_1_6 C dX7_account_72 ?_
      exact vi_donei (W := wX q0 qs qo qt qv qr qx ql ad qh cI cF cC cS cO) RET h dX7_account_75
    · replace h := ob_f h hc2
      by_cases hc3 : x1 = 2
      · have h := ob_t h hc3
        refine vi_tswIn (off := 75) (tgt := 76) C dX7_account_1 (by rw [hc3]; decide) (by rw [hc3]; decide) (by rw [hc3]; rfl) (by decide) ?_
        refine vi_aload_n C 0 dX7_account_76 rfl ?_
        refine gM_X7_0_0 C dX7_account_77 ?_
        refine gM_X7_1_5 C dX7_account_80 ?_
        exact vi_donei (W := wX q0 qs qo qt qv qr qx ql ad qh cI cF cC cS cO) RET h dX7_account_83
      · replace h := ob_f h hc3
        by_cases hc4 : x1 = 3
        · have h := ob_t h hc4
          refine vi_tswIn (off := 83) (tgt := 84) C dX7_account_1 (by rw [hc4]; decide) (by rw [hc4]; decide) (by rw [hc4]; rfl) (by decide) ?_
          refine vi_aload_n C 0 dX7_account_84 rfl ?_
          refine gM_X7_0_0 C dX7_account_85 ?_
          refine gM_X7_1_7 C dX7_account_88 ?_
          exact vi_donei (W := wX q0 qs qo qt qv qr qx ql ad qh cI cF cC cS cO) RET h dX7_account_91
        · replace h := ob_f h hc4
          by_cases hc5 : x1 = 4
          · have h := ob_t h hc5
            refine vi_tswIn (off := 91) (tgt := 92) C dX7_account_1 (by rw [hc5]; decide) (by rw [hc5]; decide) (by rw [hc5]; rfl) (by decide) ?_
            refine vi_aload_n C 0 dX7_account_92 rfl ?_
            refine gM_X7_0_0 C dX7_account_93 ?_
            refine gM_X7_1_11 C dX7_account_96 ?_
            exact vi_donei (W := wX q0 qs qo qt qv qr qx ql ad qh cI cF cC cS cO) RET h dX7_account_99
          · replace h := ob_f h hc5
            by_cases hc8 : x1 = 5
            · have h := ob_t h hc8
              refine vi_tswIn (off := 99) (tgt := 100) C dX7_account_1 (by rw [hc8]; decide) (by rw [hc8]; decide) (by rw [hc8]; rfl) (by decide) ?_
              refine vi_aload_n C 0 dX7_account_100 rfl ?_
              refine gM_X7_0_0 C dX7_account_101 ?_
              obtain ⟨y7, u6b, hgu6, h⟩ := ob_p h
              obtain ⟨u6, eu6, h⟩ := ob_nm h
              refine cM_ship_i (As := []) (rest := []) C (mX5_allCups C.2.2.2.2.2.2.2.2.1 hgu6) 0 rfl tcX5_allCups tlX7_133 tiX5_allCups tsX5_allCups rfl tnX5 tdX5_allCups ⟨Nat.le_of_ble_eq_true rfl, Nat.le_of_ble_eq_true rfl⟩ eu6 rfl (Nat.le_of_ble_eq_true rfl) dX7_account_104 ?_
              exact vi_donei (W := wX q0 qs qo qt qv qr qx ql ad qh cI cF cC cS cO) RET h dX7_account_107
            · replace h := ob_f h hc8
              by_cases hc9 : x1 = 6
              · have h := ob_t h hc9
                refine vi_tswIn (off := 107) (tgt := 108) C dX7_account_1 (by rw [hc9]; decide) (by rw [hc9]; decide) (by rw [hc9]; rfl) (by decide) ?_
                refine vi_aload_n C 0 dX7_account_108 rfl ?_
                refine gM_X7_0_0 C dX7_account_109 ?_
                refine gM_X7_1_12 C dX7_account_112 ?_
                exact vi_donei (W := wX q0 qs qo qt qv qr qx ql ad qh cI cF cC cS cO) RET h dX7_account_115
              · replace h := ob_f h hc9
                by_cases hc10 : x1 = 7
                · have h := ob_t h hc10
                  refine vi_tswIn (off := 115) (tgt := 116) C dX7_account_1 (by rw [hc10]; decide) (by rw [hc10]; decide) (by rw [hc10]; rfl) (by decide) ?_
                  refine vi_aload_n C 0 dX7_account_116 rfl ?_
                  refine gM_X7_0_0 C dX7_account_117 ?_
                  refine gM_X7_1_13 C dX7_account_120 ?_
                  exact vi_donei (W := wX q0 qs qo qt qv qr qx ql ad qh cI cF cC cS cO) RET h dX7_account_123
                · replace h := ob_f h hc10
                  by_cases hc11 : x1 = 8
                  · have h := ob_t h hc11
                    refine vi_tswIn (off := 123) (tgt := 124) C dX7_account_1 (by rw [hc11]; decide) (by rw [hc11]; decide) (by rw [hc11]; rfl) (by decide) ?_
                    refine vi_aload_n C 0 dX7_account_124 rfl ?_
                    refine gM_X7_0_0 C dX7_account_125 ?_
                    refine gM_X7_1_14 C dX7_account_128 ?_
                    exact vi_donei (W := wX q0 qs qo qt qv qr qx ql ad qh cI cF cC cS cO) RET h dX7_account_131
                  · replace h := ob_f h hc11
                    by_cases hc12 : x1 = 9
                    · have h := ob_t h hc12
                      refine vi_tswIn (off := 131) (tgt := 132) C dX7_account_1 (by rw [hc12]; decide) (by rw [hc12]; decide) (by rw [hc12]; rfl) (by decide) ?_
                      refine vi_aload_n C 0 dX7_account_132 rfl ?_
                      refine gM_X7_0_5 C dX7_account_133 ?_
                      refine gM_X7_94_1 C dX7_account_136 ?_
                      exact vi_donei (W := wX q0 qs qo qt qv qr qx ql ad qh cI cF cC cS cO) RET h dX7_account_139
                    · replace h := ob_f h hc12
                      by_cases hc13 : x1 = 10
                      · have h := ob_t h hc13
                        refine vi_tswIn (off := 139) (tgt := 140) C dX7_account_1 (by rw [hc13]; decide) (by rw [hc13]; decide) (by rw [hc13]; rfl) (by decide) ?_
                        refine vi_aload_n C 0 dX7_account_140 rfl ?_
                        refine gM_X7_0_3 C dX7_account_141 ?_
                        refine gM_X7_9_2 C dX7_account_144 ?_
                        exact vi_donei (W := wX q0 qs qo qt qv qr qx ql ad qh cI cF cC cS cO) RET h dX7_account_147
                      · replace h := ob_f h hc13
                        refine vi_tswOut (tgt := 148) C dX7_account_1 (by have thc1 := lv_neT hc1 (a := 0) (by decide); have thc2 := lv_neT hc2 (a := 1) (by decide); have thc3 := lv_neT hc3 (a := 2) (by decide); have thc4 := lv_neT hc4 (a := 3) (by decide); have thc5 := lv_neT hc5 (a := 4) (by decide); have thc8 := lv_neT hc8 (a := 5) (by decide); have thc9 := lv_neT hc9 (a := 6) (by decide); have thc10 := lv_neT hc10 (a := 7) (by decide); have thc11 := lv_neT hc11 (a := 8) (by decide); have thc12 := lv_neT hc12 (a := 9) (by decide); have thc13 := lv_neT hc13 (a := 10) (by decide); omega) (by decide) ?_
                        refine vi_ldc (v := (-100002)) C dX7_account_148 tkX7_54 ?_
                        exact vi_donei (W := wX q0 qs qo qt qv qr qx ql ad qh cI cF cC cS cO) RET h dX7_account_150
theorem mX7_account {ad adK adV : Nat → Nat} {tS tF : Nat} {tX sK sV : Nat → Nat} (hE : vEok (vE ad adK adV tS tF tX sK sV)) {l : Launch} {D : va_G} {cI cF cC cS cO cB cZ : ClassId} {q0 qs qo qt qv qr qx ql : Nat → Nat} {qh : Nat → Nat → Nat} {r0 : Int32} {u0 : vZ}  {x1 : Int32} {u : vZ} (h : fX7_account x1 u = some (r0, u0)) : vM (vE ad adK adV tS tF tX sK sV) l yX7_account cX7_account 2 (some .int) 1 22 D (vT7 cI cF cC cS cO cB cZ) [.ref (q0 0), .int x1] (wX q0 qs qo qt qv qr qx ql ad qh cI cF cC cS cO u) (vQi D (wX q0 qs qo qt qv qr qx ql ad qh cI cF cC cS cO u0) r0) :=
  vM_of hE (by decide +kernel) (Nat.le_of_ble_eq_true rfl) (fun p e s m args below meth c A C hr => kX7_account_e C (vi_reti C hr) h)
-- ---- X7_write
def fX7_write_74 (x1 : Int32) (u : vZ) : Option (Int32 × vZ) := (fX3_put (64 : Int32) u.2.2.2.2.2.2).bind fun u1b => bd ((u.1, (u.2.1, (u.2.2.1, (u.2.2.2.1, (u.2.2.2.2.1, (u.2.2.2.2.2.1, u1b))))))) fun u1 => if x1 < 0 ∨ 8 ≤ Int32.toNatClampNeg x1 then none else (fX3_putNumber (u1.2.1.1.1 3 (Int32.toNatClampNeg x1)) u1.2.2.2.2.2.2).bind fun u3b => bd ((u1.1, (u1.2.1, (u1.2.2.1, (u1.2.2.2.1, (u1.2.2.2.2.1, (u1.2.2.2.2.2.1, u3b))))))) fun u3 => (fX3_put (62 : Int32) u3.2.2.2.2.2.2).bind fun u4b => bd ((u3.1, (u3.2.1, (u3.2.2.1, (u3.2.2.2.1, (u3.2.2.2.2.1, (u3.2.2.2.2.2.1, u4b))))))) fun u4 => obp (fX5_angleAfter x1 (0 : Int32) u4.2.1.1) fun y6 u5b => bd ((u4.1, ((u5b, u4.2.1.2), u4.2.2))) fun u5 => (fX3_putNumber y6 u5.2.2.2.2.2.2).bind fun u7b => bd ((u5.1, (u5.2.1, (u5.2.2.1, (u5.2.2.2.1, (u5.2.2.2.2.1, (u5.2.2.2.2.2.1, u7b))))))) fun u7 => some (u7.2.2.2.2.2.2 0 1, u7)
set_option maxRecDepth 100000 in
set_option maxHeartbeats 4000000 in
theorem kX7_write_74 {ad adK adV : Nat → Nat} {tS tF : Nat} {tX sK sV : Nat → Nat} {p : Program} {l : Launch} {e : Env} {s : State} {m : MethodId} {args : Array Value} {below : List Frame} {meth : Method} {c : Code} {A : Nat → Prop} {D : va_G} {cI cF cC cS cO cB cZ : ClassId} {Q : State → Prop} {q0 qs qo qt qv qr qx ql : Nat → Nat} {qh : Nat → Nat → Nat} (C : vC (vE ad adK adV tS tF tX sK sV) p l s m args meth c A D (vT7 cI cF cC cS cO cB cZ) cX7_write 2 RX7) {r0 : Int32} {u0 : vZ} (RET : ∀ (pc : Nat) (lv : List (Nat × Value)), decode cX7_write pc = .ok (.ireturn, 1) → vV p l e { frames := 3, cells := 0, slots := 0, locals := 70 } s m args below meth c A D 2 0 0 Q (wX q0 qs qo qt qv qr qx ql ad qh cI cF cC cS cO u0) pc lv [.int r0]) : ∀ (x1 : Int32) (u : vZ), fX7_write_74 x1 u = some (r0, u0) → vV p l e { frames := 3, cells := 0, slots := 0, locals := 70 } s m args below meth c A D 2 0 0 Q (wX q0 qs qo qt qv qr qx ql ad qh cI cF cC cS cO u) 74 [(0, .ref (q0 0)), (1, .int x1)] [] := by
  intro x1 u h
  rw [fX7_write_74] at h
  refine vi_aload_n C 0 dX7_write_74 rfl ?_
  refine gM_X7_0_6 C dX7_write_75 ?_
  refine vi_bipush (v := 64) C dX7_write_78 (by decide) ?_
  obtain ⟨u1b, hgu1, h⟩ := ob_bd h
  obtain ⟨u1, eu1, h⟩ := ob_nm h
  refine cM_line_v (As := [.int (64 : Int32)]) (rest := []) C (mX3_put C.2.2.2.2.2.2.2.2.1 hgu1) 1 rfl tcX3_put tlX7_266 tiX3_put tsX3_put rfl tnX3 tdX3_put ⟨Nat.le_of_ble_eq_true rfl, Nat.le_of_ble_eq_true rfl⟩ eu1 rfl (Nat.le_of_ble_eq_true rfl) dX7_write_80 ?_
  refine vi_aload_n C 0 dX7_write_83 rfl ?_
  refine gM_X7_0_6 C dX7_write_84 ?_
  refine vi_aload_n C 0 dX7_write_87 rfl ?_
  refine gM_X7_0_0 C dX7_write_88 ?_
  refine gM_X7_1_3 C dX7_write_91 ?_
  refine vi_iload_n C 1 dX7_write_94 rfl ?_
  obtain ⟨hz2, h⟩ := ob_if h
  refine lM_X7_4 (n := (Int32.toNatClampNeg x1)) C hz2 rfl dX7_write_95 ?_
  obtain ⟨u3b, hgu3, h⟩ := ob_bd h
  obtain ⟨u3, eu3, h⟩ := ob_nm h
  refine cM_line_v (As := [.int (u1.2.1.1.1 3 (Int32.toNatClampNeg x1))]) (rest := []) C (mX3_putNumber C.2.2.2.2.2.2.2.2.1 hgu3) 1 rfl tcX3_putNumber tlX7_270 tiX3_putNumber tsX3_putNumber rfl tnX3 tdX3_putNumber ⟨Nat.le_of_ble_eq_true rfl, Nat.le_of_ble_eq_true rfl⟩ eu3 rfl (Nat.le_of_ble_eq_true rfl) dX7_write_96 ?_
  refine vi_aload_n C 0 dX7_write_99 rfl ?_
  refine gM_X7_0_6 C dX7_write_100 ?_
  refine vi_bipush (v := 62) C dX7_write_103 (by decide) ?_
  obtain ⟨u4b, hgu4, h⟩ := ob_bd h
  obtain ⟨u4, eu4, h⟩ := ob_nm h
  refine cM_line_v (As := [.int (62 : Int32)]) (rest := []) C (mX3_put C.2.2.2.2.2.2.2.2.1 hgu4) 1 rfl tcX3_put tlX7_266 tiX3_put tsX3_put rfl tnX3 tdX3_put ⟨Nat.le_of_ble_eq_true rfl, Nat.le_of_ble_eq_true rfl⟩ eu4 rfl (Nat.le_of_ble_eq_true rfl) dX7_write_105 ?_
  refine vi_aload_n C 0 dX7_write_108 rfl ?_
  refine gM_X7_0_6 C dX7_write_109 ?_
  refine vi_aload_n C 0 dX7_write_112 rfl ?_
  refine gM_X7_0_0 C dX7_write_113 ?_
  refine vi_iload_n C 1 dX7_write_116 rfl ?_
  refine vi_iconst (v := 0) C dX7_write_117 (by decide) ?_
  obtain ⟨y6, u5b, hgu5, h⟩ := ob_p h
  obtain ⟨u5, eu5, h⟩ := ob_nm h
  refine cM_ship_i (As := [.int x1, .int (0 : Int32)]) (rest := [.ref (ql 0)]) C (mX5_angleAfter C.2.2.2.2.2.2.2.2.1 hgu5) 2 rfl tcX5_angleAfter tlX7_144 tiX5_angleAfter tsX5_angleAfter rfl tnX5 tdX5_angleAfter ⟨Nat.le_of_ble_eq_true rfl, Nat.le_of_ble_eq_true rfl⟩ eu5 rfl (Nat.le_of_ble_eq_true rfl) dX7_write_118 ?_
  obtain ⟨u7b, hgu7, h⟩ := ob_bd h
  obtain ⟨u7, eu7, h⟩ := ob_nm h
  refine cM_line_v (As := [.int y6]) (rest := []) C (mX3_putNumber C.2.2.2.2.2.2.2.2.1 hgu7) 1 rfl tcX3_putNumber tlX7_270 tiX3_putNumber tsX3_putNumber rfl tnX3 tdX3_putNumber ⟨Nat.le_of_ble_eq_true rfl, Nat.le_of_ble_eq_true rfl⟩ eu7 rfl (Nat.le_of_ble_eq_true rfl) dX7_write_121 ?_
  refine vi_aload_n C 0 dX7_write_124 rfl ?_
  refine gM_X7_0_6 C dX7_write_125 ?_
  refine gM_X7_99_1 C dX7_write_128 ?_
  exact vi_donei (W := wX q0 qs qo qt qv qr qx ql ad qh cI cF cC cS cO) RET h dX7_write_131
def fX7_write (x1 : Int32) (u : vZ) : Option (Int32 × vZ) := obp (fX5_hasSailor x1 u.2.1.1) fun y2 u1b => bd ((u.1, ((u1b, u.2.1.2), u.2.2))) fun u1 => (if y2 = 0 then some ((-100001 : Int32), u1) else (fX3_clear u1.2.2.2.2.2.2).bind fun u4b => bd ((u1.1, (u1.2.1, (u1.2.2.1, (u1.2.2.2.1, (u1.2.2.2.2.1, (u1.2.2.2.2.2.1, u4b))))))) fun u4 => if x1 < 0 ∨ 8 ≤ Int32.toNatClampNeg x1 then none else (fX3_putMood (u4.2.1.1.1 1 (Int32.toNatClampNeg x1)) u4.2.2.2.2.2.2).bind fun u6b => bd ((u4.1, (u4.2.1, (u4.2.2.1, (u4.2.2.2.1, (u4.2.2.2.2.1, (u4.2.2.2.2.2.1, u6b))))))) fun u6 => if x1 < 0 ∨ 8 ≤ Int32.toNatClampNeg x1 then none else (if u6.2.1.1.1 2 (Int32.toNatClampNeg x1) ≤ 0 then fX7_write_74 x1 u6 else (fX3_put (42 : Int32) u6.2.2.2.2.2.2).bind fun u9b => bd ((u6.1, (u6.2.1, (u6.2.2.1, (u6.2.2.2.1, (u6.2.2.2.2.1, (u6.2.2.2.2.2.1, u9b))))))) fun u9 => if x1 < 0 ∨ 8 ≤ Int32.toNatClampNeg x1 then none else (fX3_putNumber (u9.2.1.1.1 2 (Int32.toNatClampNeg x1)) u9.2.2.2.2.2.2).bind fun u11b => bd ((u9.1, (u9.2.1, (u9.2.2.1, (u9.2.2.2.1, (u9.2.2.2.2.1, (u9.2.2.2.2.2.1, u11b))))))) fun u11 => fX7_write_74 x1 u11))
set_option maxRecDepth 100000 in
set_option maxHeartbeats 4000000 in
theorem kX7_write_e {ad adK adV : Nat → Nat} {tS tF : Nat} {tX sK sV : Nat → Nat} {p : Program} {l : Launch} {e : Env} {s : State} {m : MethodId} {args : Array Value} {below : List Frame} {meth : Method} {c : Code} {A : Nat → Prop} {D : va_G} {cI cF cC cS cO cB cZ : ClassId} {Q : State → Prop} {q0 qs qo qt qv qr qx ql : Nat → Nat} {qh : Nat → Nat → Nat} (C : vC (vE ad adK adV tS tF tX sK sV) p l s m args meth c A D (vT7 cI cF cC cS cO cB cZ) cX7_write 2 RX7) {r0 : Int32} {u0 : vZ} (RET : ∀ (pc : Nat) (lv : List (Nat × Value)), decode cX7_write pc = .ok (.ireturn, 1) → vV p l e { frames := 3, cells := 0, slots := 0, locals := 70 } s m args below meth c A D 2 0 0 Q (wX q0 qs qo qt qv qr qx ql ad qh cI cF cC cS cO u0) pc lv [.int r0]) {x1 : Int32} {u : vZ} (h : fX7_write x1 u = some (r0, u0)) : vV p l e { frames := 3, cells := 0, slots := 0, locals := 70 } s m args below meth c A D 2 0 0 Q (wX q0 qs qo qt qv qr qx ql ad qh cI cF cC cS cO u) 0 [(0, .ref (q0 0)), (1, .int x1)] [] := by
  rw [fX7_write] at h
  refine vi_aload_n C 0 dX7_write_0 rfl ?_
  refine gM_X7_0_0 C dX7_write_1 ?_
  refine vi_iload_n C 1 dX7_write_4 rfl ?_
  obtain ⟨y2, u1b, hgu1, h⟩ := ob_p h
  obtain ⟨u1, eu1, h⟩ := ob_nm h
  refine cM_ship_i (As := [.int x1]) (rest := []) C (mX5_hasSailor C.2.2.2.2.2.2.2.2.1 hgu1) 1 rfl tcX5_hasSailor tlX7_74 tiX5_hasSailor tsX5_hasSailor rfl tnX5 tdX5_hasSailor ⟨Nat.le_of_ble_eq_true rfl, Nat.le_of_ble_eq_true rfl⟩ eu1 rfl (Nat.le_of_ble_eq_true rfl) dX7_write_5 ?_
  refine vi_if_ne (tgt := 14) C dX7_write_8 (by decide) (fun hc3 => ?_) (fun hc3 => ?_)
  · have h := ob_f h hc3
    refine vi_aload_n C 0 dX7_write_14 rfl ?_
    refine gM_X7_0_6 C dX7_write_15 ?_
    obtain ⟨u4b, hgu4, h⟩ := ob_bd h
    obtain ⟨u4, eu4, h⟩ := ob_nm h
    refine cM_line_v (As := []) (rest := []) C (mX3_clear C.2.2.2.2.2.2.2.2.1 hgu4) 0 rfl tcX3_clear tlX7_259 tiX3_clear tsX3_clear rfl tnX3 tdX3_clear ⟨Nat.le_of_ble_eq_true rfl, Nat.le_of_ble_eq_true rfl⟩ eu4 rfl (Nat.le_of_ble_eq_true rfl) dX7_write_18 ?_
    refine vi_aload_n C 0 dX7_write_21 rfl ?_
    refine gM_X7_0_6 C dX7_write_22 ?_
    refine vi_aload_n C 0 dX7_write_25 rfl ?_
    refine gM_X7_0_0 C dX7_write_26 ?_
    refine gM_X7_1_1 C dX7_write_29 ?_
    refine vi_iload_n C 1 dX7_write_32 rfl ?_
    obtain ⟨hz5, h⟩ := ob_if h
    refine lM_X7_2 (n := (Int32.toNatClampNeg x1)) C hz5 rfl dX7_write_33 ?_
    obtain ⟨u6b, hgu6, h⟩ := ob_bd h
    obtain ⟨u6, eu6, h⟩ := ob_nm h
    refine cM_line_v (As := [.int (u4.2.1.1.1 1 (Int32.toNatClampNeg x1))]) (rest := []) C (mX3_putMood C.2.2.2.2.2.2.2.2.1 hgu6) 1 rfl tcX3_putMood tlX7_262 tiX3_putMood tsX3_putMood rfl tnX3 tdX3_putMood ⟨Nat.le_of_ble_eq_true rfl, Nat.le_of_ble_eq_true rfl⟩ eu6 rfl (Nat.le_of_ble_eq_true rfl) dX7_write_34 ?_
    refine vi_aload_n C 0 dX7_write_37 rfl ?_
    refine gM_X7_0_0 C dX7_write_38 ?_
    refine gM_X7_1_2 C dX7_write_41 ?_
    refine vi_iload_n C 1 dX7_write_44 rfl ?_
    obtain ⟨hz7, h⟩ := ob_if h
    refine lM_X7_3 (n := (Int32.toNatClampNeg x1)) C hz7 rfl dX7_write_45 ?_
    refine vi_if_le (tgt := 74) C dX7_write_46 (by decide) (fun hc8 => ?_) (fun hc8 => ?_)
    · have h := ob_t h hc8
      refine vi_sub C [0, 1] rfl ?_
      exact kX7_write_74 C RET   _ _ h
    · have h := ob_f h hc8
      refine vi_aload_n C 0 dX7_write_49 rfl ?_
      refine gM_X7_0_6 C dX7_write_50 ?_
      refine vi_bipush (v := 42) C dX7_write_53 (by decide) ?_
      obtain ⟨u9b, hgu9, h⟩ := ob_bd h
      obtain ⟨u9, eu9, h⟩ := ob_nm h
      refine cM_line_v (As := [.int (42 : Int32)]) (rest := []) C (mX3_put C.2.2.2.2.2.2.2.2.1 hgu9) 1 rfl tcX3_put tlX7_266 tiX3_put tsX3_put rfl tnX3 tdX3_put ⟨Nat.le_of_ble_eq_true rfl, Nat.le_of_ble_eq_true rfl⟩ eu9 rfl (Nat.le_of_ble_eq_true rfl) dX7_write_55 ?_
      refine vi_aload_n C 0 dX7_write_58 rfl ?_
      refine gM_X7_0_6 C dX7_write_59 ?_
      refine vi_aload_n C 0 dX7_write_62 rfl ?_
      refine gM_X7_0_0 C dX7_write_63 ?_
      refine gM_X7_1_2 C dX7_write_66 ?_
      refine vi_iload_n C 1 dX7_write_69 rfl ?_
      obtain ⟨hz10, h⟩ := ob_if h
      refine lM_X7_3 (n := (Int32.toNatClampNeg x1)) C hz10 rfl dX7_write_70 ?_
      obtain ⟨u11b, hgu11, h⟩ := ob_bd h
      obtain ⟨u11, eu11, h⟩ := ob_nm h
      refine cM_line_v (As := [.int (u9.2.1.1.1 2 (Int32.toNatClampNeg x1))]) (rest := []) C (mX3_putNumber C.2.2.2.2.2.2.2.2.1 hgu11) 1 rfl tcX3_putNumber tlX7_270 tiX3_putNumber tsX3_putNumber rfl tnX3 tdX3_putNumber ⟨Nat.le_of_ble_eq_true rfl, Nat.le_of_ble_eq_true rfl⟩ eu11 rfl (Nat.le_of_ble_eq_true rfl) dX7_write_71 ?_
      refine vi_sub C [0, 1] rfl ?_
      exact kX7_write_74 C RET   _ _ h
  · have h := ob_t h hc3
    refine vi_ldc (v := (-100001)) C dX7_write_11 tkX7_77 ?_
    exact vi_donei (W := wX q0 qs qo qt qv qr qx ql ad qh cI cF cC cS cO) RET h dX7_write_13
theorem mX7_write {ad adK adV : Nat → Nat} {tS tF : Nat} {tX sK sV : Nat → Nat} (hE : vEok (vE ad adK adV tS tF tX sK sV)) {l : Launch} {D : va_G} {cI cF cC cS cO cB cZ : ClassId} {q0 qs qo qt qv qr qx ql : Nat → Nat} {qh : Nat → Nat → Nat} {r0 : Int32} {u0 : vZ}  {x1 : Int32} {u : vZ} (h : fX7_write x1 u = some (r0, u0)) : vM (vE ad adK adV tS tF tX sK sV) l yX7_write cX7_write 2 (some .int) 3 70 D (vT7 cI cF cC cS cO cB cZ) [.ref (q0 0), .int x1] (wX q0 qs qo qt qv qr qx ql ad qh cI cF cC cS cO u) (vQi D (wX q0 qs qo qt qv qr qx ql ad qh cI cF cC cS cO u0) r0) :=
  vM_of hE (by decide +kernel) (Nat.le_of_ble_eq_true rfl) (fun p e s m args below meth c A C hr => kX7_write_e C (vi_reti C hr) h)
-- ---- X7_writeLog
def fX7_writeLog_33 (rec_9 : Int32 → vZ → Option (Int32 × vZ)) (x1 : Int32) (u : vZ) : Option (Int32 × vZ) := if x1 < 0 ∨ 10 ≤ Int32.toNatClampNeg x1 then none else (fX3_putNumber (u.2.1.1.1 5 (Int32.toNatClampNeg x1)) u.2.2.2.2.2.2).bind fun u2b => bd ((u.1, (u.2.1, (u.2.2.1, (u.2.2.2.1, (u.2.2.2.2.1, (u.2.2.2.2.2.1, u2b))))))) fun u2 => (fX3_put (58 : Int32) u2.2.2.2.2.2.2).bind fun u3b => bd ((u2.1, (u2.2.1, (u2.2.2.1, (u2.2.2.2.1, (u2.2.2.2.2.1, (u2.2.2.2.2.2.1, u3b))))))) fun u3 => if x1 < 0 ∨ 10 ≤ Int32.toNatClampNeg x1 then none else (fX3_putNumber (u3.2.1.1.1 6 (Int32.toNatClampNeg x1)) u3.2.2.2.2.2.2).bind fun u5b => bd ((u3.1, (u3.2.1, (u3.2.2.1, (u3.2.2.2.1, (u3.2.2.2.2.1, (u3.2.2.2.2.2.1, u5b))))))) fun u5 => bd ((x1 + 1 : Int32)) fun y6 => rec_9 y6 u5
set_option maxRecDepth 100000 in
set_option maxHeartbeats 4000000 in
theorem kX7_writeLog_33 {ad adK adV : Nat → Nat} {tS tF : Nat} {tX sK sV : Nat → Nat} {p : Program} {l : Launch} {e : Env} {s : State} {m : MethodId} {args : Array Value} {below : List Frame} {meth : Method} {c : Code} {A : Nat → Prop} {D : va_G} {cI cF cC cS cO cB cZ : ClassId} {Q : State → Prop} {q0 qs qo qt qv qr qx ql : Nat → Nat} {qh : Nat → Nat → Nat} (C : vC (vE ad adK adV tS tF tX sK sV) p l s m args meth c A D (vT7 cI cF cC cS cO cB cZ) cX7_writeLog 2 RX7) {r0 : Int32} {u0 : vZ} (RET : ∀ (pc : Nat) (lv : List (Nat × Value)), decode cX7_writeLog pc = .ok (.ireturn, 1) → vV p l e { frames := 2, cells := 0, slots := 0, locals := 46 } s m args below meth c A D 2 0 0 Q (wX q0 qs qo qt qv qr qx ql ad qh cI cF cC cS cO u0) pc lv [.int r0]) {rec_9 : Int32 → vZ → Option (Int32 × vZ)} (REC_9 : ∀ (x1 : Int32) (u : vZ), rec_9 x1 u = some (r0, u0) → vV p l e { frames := 2, cells := 0, slots := 0, locals := 46 } s m args below meth c A D 2 0 0 Q (wX q0 qs qo qt qv qr qx ql ad qh cI cF cC cS cO u) 9 [(0, .ref (q0 0)), (1, .int x1)] []) : ∀ (x1 : Int32) (u : vZ), fX7_writeLog_33 rec_9 x1 u = some (r0, u0) → vV p l e { frames := 2, cells := 0, slots := 0, locals := 46 } s m args below meth c A D 2 0 0 Q (wX q0 qs qo qt qv qr qx ql ad qh cI cF cC cS cO u) 33 [(0, .ref (q0 0)), (1, .int x1)] [] := by
  intro x1 u h
  rw [fX7_writeLog_33] at h
  refine vi_aload_n C 0 dX7_writeLog_33 rfl ?_
  refine gM_X7_0_6 C dX7_writeLog_34 ?_
  refine vi_aload_n C 0 dX7_writeLog_37 rfl ?_
  refine gM_X7_0_0 C dX7_writeLog_38 ?_
  refine gM_X7_1_8 C dX7_writeLog_41 ?_
  refine vi_iload_n C 1 dX7_writeLog_44 rfl ?_
  obtain ⟨hz1, h⟩ := ob_if h
  refine lM_X7_6 (n := (Int32.toNatClampNeg x1)) C hz1 rfl dX7_writeLog_45 ?_
  obtain ⟨u2b, hgu2, h⟩ := ob_bd h
  obtain ⟨u2, eu2, h⟩ := ob_nm h
  refine cM_line_v (As := [.int (u.2.1.1.1 5 (Int32.toNatClampNeg x1))]) (rest := []) C (mX3_putNumber C.2.2.2.2.2.2.2.2.1 hgu2) 1 rfl tcX3_putNumber tlX7_270 tiX3_putNumber tsX3_putNumber rfl tnX3 tdX3_putNumber ⟨Nat.le_of_ble_eq_true rfl, Nat.le_of_ble_eq_true rfl⟩ eu2 rfl (Nat.le_of_ble_eq_true rfl) dX7_writeLog_46 ?_
  refine vi_aload_n C 0 dX7_writeLog_49 rfl ?_
  refine gM_X7_0_6 C dX7_writeLog_50 ?_
  refine vi_bipush (v := 58) C dX7_writeLog_53 (by decide) ?_
  obtain ⟨u3b, hgu3, h⟩ := ob_bd h
  obtain ⟨u3, eu3, h⟩ := ob_nm h
  refine cM_line_v (As := [.int (58 : Int32)]) (rest := []) C (mX3_put C.2.2.2.2.2.2.2.2.1 hgu3) 1 rfl tcX3_put tlX7_266 tiX3_put tsX3_put rfl tnX3 tdX3_put ⟨Nat.le_of_ble_eq_true rfl, Nat.le_of_ble_eq_true rfl⟩ eu3 rfl (Nat.le_of_ble_eq_true rfl) dX7_writeLog_55 ?_
  refine vi_aload_n C 0 dX7_writeLog_58 rfl ?_
  refine gM_X7_0_6 C dX7_writeLog_59 ?_
  refine vi_aload_n C 0 dX7_writeLog_62 rfl ?_
  refine gM_X7_0_0 C dX7_writeLog_63 ?_
  refine gM_X7_1_9 C dX7_writeLog_66 ?_
  refine vi_iload_n C 1 dX7_writeLog_69 rfl ?_
  obtain ⟨hz4, h⟩ := ob_if h
  refine lM_X7_7 (n := (Int32.toNatClampNeg x1)) C hz4 rfl dX7_writeLog_70 ?_
  obtain ⟨u5b, hgu5, h⟩ := ob_bd h
  obtain ⟨u5, eu5, h⟩ := ob_nm h
  refine cM_line_v (As := [.int (u3.2.1.1.1 6 (Int32.toNatClampNeg x1))]) (rest := []) C (mX3_putNumber C.2.2.2.2.2.2.2.2.1 hgu5) 1 rfl tcX3_putNumber tlX7_270 tiX3_putNumber tsX3_putNumber rfl tnX3 tdX3_putNumber ⟨Nat.le_of_ble_eq_true rfl, Nat.le_of_ble_eq_true rfl⟩ eu5 rfl (Nat.le_of_ble_eq_true rfl) dX7_writeLog_71 ?_
  obtain ⟨y6, ey6, h⟩ := ob_nm h
  refine vi_iinc (v := y6) (lv' := [(1, .int y6), (0, .ref (q0 0))]) C 1 dX7_writeLog_74 rfl (by rw [ey6]; rfl) (by decide) rfl ?_
  refine vi_goto (tgt := 9) C dX7_writeLog_77 (by decide) ?_
  refine vi_sub C [1, 0] rfl ?_
  exact REC_9 _ _ h
def fX7_writeLog_9 : Nat → Int32 → vZ → Option (Int32 × vZ)
  | 0, _, _ => none
  | n + 1, x1, u => (if u.2.1.1.1 0 7 ≤ x1 then some (u.2.2.2.2.2.2 0 1, u) else (if x1 ≤ 0 then fX7_writeLog_33 (fun a0 a1 => fX7_writeLog_9 n  a0 a1) x1 u else (fX3_put (32 : Int32) u.2.2.2.2.2.2).bind fun u3b => bd ((u.1, (u.2.1, (u.2.2.1, (u.2.2.2.1, (u.2.2.2.2.1, (u.2.2.2.2.2.1, u3b))))))) fun u3 => fX7_writeLog_33 (fun a0 a1 => fX7_writeLog_9 n  a0 a1) x1 u3))
set_option maxRecDepth 100000 in
set_option maxHeartbeats 4000000 in
theorem kX7_writeLog_9 {ad adK adV : Nat → Nat} {tS tF : Nat} {tX sK sV : Nat → Nat} {p : Program} {l : Launch} {e : Env} {s : State} {m : MethodId} {args : Array Value} {below : List Frame} {meth : Method} {c : Code} {A : Nat → Prop} {D : va_G} {cI cF cC cS cO cB cZ : ClassId} {Q : State → Prop} {q0 qs qo qt qv qr qx ql : Nat → Nat} {qh : Nat → Nat → Nat} (C : vC (vE ad adK adV tS tF tX sK sV) p l s m args meth c A D (vT7 cI cF cC cS cO cB cZ) cX7_writeLog 2 RX7) {r0 : Int32} {u0 : vZ} (RET : ∀ (pc : Nat) (lv : List (Nat × Value)), decode cX7_writeLog pc = .ok (.ireturn, 1) → vV p l e { frames := 2, cells := 0, slots := 0, locals := 46 } s m args below meth c A D 2 0 0 Q (wX q0 qs qo qt qv qr qx ql ad qh cI cF cC cS cO u0) pc lv [.int r0]) : ∀ (n : Nat) (x1 : Int32) (u : vZ), fX7_writeLog_9 n x1 u = some (r0, u0) → vV p l e { frames := 2, cells := 0, slots := 0, locals := 46 } s m args below meth c A D 2 0 0 Q (wX q0 qs qo qt qv qr qx ql ad qh cI cF cC cS cO u) 9 [(0, .ref (q0 0)), (1, .int x1)] [] := by
  intro n
  induction n with
  | zero => intro x1 u h; rw [fX7_writeLog_9] at h; cases h
  | succ n ih =>
    intro x1 u h
    rw [fX7_writeLog_9] at h
    refine vi_iload_n C 1 dX7_writeLog_9 rfl ?_
    refine vi_aload_n C 0 dX7_writeLog_10 rfl ?_
    refine gM_X7_0_0 C dX7_writeLog_11 ?_
    refine gM_X7_1_7 C dX7_writeLog_14 ?_
    refine vi_icmp_ge (tgt := 80) C dX7_writeLog_17 (by decide) (fun hc1 => ?_) (fun hc1 => ?_)
    · have h := ob_t h hc1
      refine vi_aload_n C 0 dX7_writeLog_80 rfl ?_
      refine gM_X7_0_6 C dX7_writeLog_81 ?_
      refine gM_X7_99_1 C dX7_writeLog_84 ?_
      exact vi_donei (W := wX q0 qs qo qt qv qr qx ql ad qh cI cF cC cS cO) RET h dX7_writeLog_87
    · have h := ob_f h hc1
      refine vi_iload_n C 1 dX7_writeLog_20 rfl ?_
      refine vi_if_le (tgt := 33) C dX7_writeLog_21 (by decide) (fun hc2 => ?_) (fun hc2 => ?_)
      · have h := ob_t h hc2
        refine vi_sub C [0, 1] rfl ?_
        exact kX7_writeLog_33 C RET ih  _ _ h
      · have h := ob_f h hc2
        refine vi_aload_n C 0 dX7_writeLog_24 rfl ?_
        refine gM_X7_0_6 C dX7_writeLog_25 ?_
        refine vi_bipush (v := 32) C dX7_writeLog_28 (by decide) ?_
        obtain ⟨u3b, hgu3, h⟩ := ob_bd h
        obtain ⟨u3, eu3, h⟩ := ob_nm h
        refine cM_line_v (As := [.int (32 : Int32)]) (rest := []) C (mX3_put C.2.2.2.2.2.2.2.2.1 hgu3) 1 rfl tcX3_put tlX7_266 tiX3_put tsX3_put rfl tnX3 tdX3_put ⟨Nat.le_of_ble_eq_true rfl, Nat.le_of_ble_eq_true rfl⟩ eu3 rfl (Nat.le_of_ble_eq_true rfl) dX7_writeLog_30 ?_
        refine vi_sub C [0, 1] rfl ?_
        exact kX7_writeLog_33 C RET ih  _ _ h
def fX7_writeLog (u : vZ) : Option (Int32 × vZ) := (fX3_clear u.2.2.2.2.2.2).bind fun u1b => bd ((u.1, (u.2.1, (u.2.2.1, (u.2.2.2.1, (u.2.2.2.2.1, (u.2.2.2.2.2.1, u1b))))))) fun u1 => fX7_writeLog_9 vF (0 : Int32) u1
set_option maxRecDepth 100000 in
set_option maxHeartbeats 4000000 in
theorem kX7_writeLog_e {ad adK adV : Nat → Nat} {tS tF : Nat} {tX sK sV : Nat → Nat} {p : Program} {l : Launch} {e : Env} {s : State} {m : MethodId} {args : Array Value} {below : List Frame} {meth : Method} {c : Code} {A : Nat → Prop} {D : va_G} {cI cF cC cS cO cB cZ : ClassId} {Q : State → Prop} {q0 qs qo qt qv qr qx ql : Nat → Nat} {qh : Nat → Nat → Nat} (C : vC (vE ad adK adV tS tF tX sK sV) p l s m args meth c A D (vT7 cI cF cC cS cO cB cZ) cX7_writeLog 2 RX7) {r0 : Int32} {u0 : vZ} (RET : ∀ (pc : Nat) (lv : List (Nat × Value)), decode cX7_writeLog pc = .ok (.ireturn, 1) → vV p l e { frames := 2, cells := 0, slots := 0, locals := 46 } s m args below meth c A D 2 0 0 Q (wX q0 qs qo qt qv qr qx ql ad qh cI cF cC cS cO u0) pc lv [.int r0]) {u : vZ} (h : fX7_writeLog u = some (r0, u0)) : vV p l e { frames := 2, cells := 0, slots := 0, locals := 46 } s m args below meth c A D 2 0 0 Q (wX q0 qs qo qt qv qr qx ql ad qh cI cF cC cS cO u) 0 [(0, .ref (q0 0))] [] := by
  rw [fX7_writeLog] at h
  refine vi_aload_n C 0 dX7_writeLog_0 rfl ?_
  refine gM_X7_0_6 C dX7_writeLog_1 ?_
  obtain ⟨u1b, hgu1, h⟩ := ob_bd h
  obtain ⟨u1, eu1, h⟩ := ob_nm h
  refine cM_line_v (As := []) (rest := []) C (mX3_clear C.2.2.2.2.2.2.2.2.1 hgu1) 0 rfl tcX3_clear tlX7_259 tiX3_clear tsX3_clear rfl tnX3 tdX3_clear ⟨Nat.le_of_ble_eq_true rfl, Nat.le_of_ble_eq_true rfl⟩ eu1 rfl (Nat.le_of_ble_eq_true rfl) dX7_writeLog_4 ?_
  refine vi_iconst (v := 0) C dX7_writeLog_7 (by decide) ?_
  refine vi_istore_n (lv' := [(1, .int (0 : Int32)), (0, .ref (q0 0))]) C dX7_writeLog_8 rfl (by decide) rfl ?_
  refine vi_sub C [1, 0] rfl ?_
  exact kX7_writeLog_9 C RET  vF _ _ h
theorem mX7_writeLog {ad adK adV : Nat → Nat} {tS tF : Nat} {tX sK sV : Nat → Nat} (hE : vEok (vE ad adK adV tS tF tX sK sV)) {l : Launch} {D : va_G} {cI cF cC cS cO cB cZ : ClassId} {q0 qs qo qt qv qr qx ql : Nat → Nat} {qh : Nat → Nat → Nat} {r0 : Int32} {u0 : vZ}  {u : vZ} (h : fX7_writeLog u = some (r0, u0)) : vM (vE ad adK adV tS tF tX sK sV) l yX7_writeLog cX7_writeLog 2 (some .int) 2 46 D (vT7 cI cF cC cS cO cB cZ) [.ref (q0 0)] (wX q0 qs qo qt qv qr qx ql ad qh cI cF cC cS cO u) (vQi D (wX q0 qs qo qt qv qr qx ql ad qh cI cF cC cS cO u0) r0) :=
  vM_of hE (by decide +kernel) (Nat.le_of_ble_eq_true rfl) (fun p e s m args below meth c A C hr => kX7_writeLog_e C (vi_reti C hr) h)
-- ---- X7_written
def fX7_written (x1 : Int32) (u : vZ) : Option (Int32 × vZ) := (if x1 < 0 then some ((-100001 : Int32), u) else (if u.2.2.2.2.2.2 0 1 ≤ x1 then some ((-100001 : Int32), u) else if x1 < 0 ∨ 140 ≤ Int32.toNatClampNeg x1 then none else some (u.2.2.2.2.2.2 1 (Int32.toNatClampNeg x1), u)))
set_option maxRecDepth 100000 in
set_option maxHeartbeats 4000000 in
theorem kX7_written_e {ad adK adV : Nat → Nat} {tS tF : Nat} {tX sK sV : Nat → Nat} {p : Program} {l : Launch} {e : Env} {s : State} {m : MethodId} {args : Array Value} {below : List Frame} {meth : Method} {c : Code} {A : Nat → Prop} {D : va_G} {cI cF cC cS cO cB cZ : ClassId} {Q : State → Prop} {q0 qs qo qt qv qr qx ql : Nat → Nat} {qh : Nat → Nat → Nat} (C : vC (vE ad adK adV tS tF tX sK sV) p l s m args meth c A D (vT7 cI cF cC cS cO cB cZ) cX7_written 2 RX7) {r0 : Int32} {u0 : vZ} (RET : ∀ (pc : Nat) (lv : List (Nat × Value)), decode cX7_written pc = .ok (.ireturn, 1) → vV p l e { frames := 0, cells := 0, slots := 0, locals := 0 } s m args below meth c A D 2 0 0 Q (wX q0 qs qo qt qv qr qx ql ad qh cI cF cC cS cO u0) pc lv [.int r0]) {x1 : Int32} {u : vZ} (h : fX7_written x1 u = some (r0, u0)) : vV p l e { frames := 0, cells := 0, slots := 0, locals := 0 } s m args below meth c A D 2 0 0 Q (wX q0 qs qo qt qv qr qx ql ad qh cI cF cC cS cO u) 0 [(0, .ref (q0 0)), (1, .int x1)] [] := by
  rw [fX7_written] at h
  refine vi_iload_n C 1 dX7_written_0 rfl ?_
  refine vi_if_lt (tgt := 27) C dX7_written_1 (by decide) (fun hc1 => ?_) (fun hc1 => ?_)
  · have h := ob_t h hc1
    refine vi_ldc (v := (-100001)) C dX7_written_27 tkX7_77 ?_
    exact vi_donei (W := wX q0 qs qo qt qv qr qx ql ad qh cI cF cC cS cO) RET h dX7_written_29
  · have h := ob_f h hc1
    refine vi_iload_n C 1 dX7_written_4 rfl ?_
    refine vi_aload_n C 0 dX7_written_5 rfl ?_
    refine gM_X7_0_6 C dX7_written_6 ?_
    refine gM_X7_99_1 C dX7_written_9 ?_
    refine vi_icmp_ge (tgt := 27) C dX7_written_12 (by decide) (fun hc2 => ?_) (fun hc2 => ?_)
    · have h := ob_t h hc2
      refine vi_ldc (v := (-100001)) C dX7_written_27 tkX7_77 ?_
      exact vi_donei (W := wX q0 qs qo qt qv qr qx ql ad qh cI cF cC cS cO) RET h dX7_written_29
    · have h := ob_f h hc2
      refine vi_aload_n C 0 dX7_written_15 rfl ?_
      refine gM_X7_0_6 C dX7_written_16 ?_
      refine gM_X7_99_0 C dX7_written_19 ?_
      refine vi_iload_n C 1 dX7_written_22 rfl ?_
      obtain ⟨hz3, h⟩ := ob_if h
      refine lM_X7_100 (n := (Int32.toNatClampNeg x1)) C hz3 rfl dX7_written_23 ?_
      refine vi_goto (tgt := 29) C dX7_written_24 (by decide) ?_
      exact vi_donei (W := wX q0 qs qo qt qv qr qx ql ad qh cI cF cC cS cO) RET h dX7_written_29
theorem mX7_written {ad adK adV : Nat → Nat} {tS tF : Nat} {tX sK sV : Nat → Nat} (hE : vEok (vE ad adK adV tS tF tX sK sV)) {l : Launch} {D : va_G} {cI cF cC cS cO cB cZ : ClassId} {q0 qs qo qt qv qr qx ql : Nat → Nat} {qh : Nat → Nat → Nat} {r0 : Int32} {u0 : vZ}  {x1 : Int32} {u : vZ} (h : fX7_written x1 u = some (r0, u0)) : vM (vE ad adK adV tS tF tX sK sV) l yX7_written cX7_written 2 (some .int) 0 0 D (vT7 cI cF cC cS cO cB cZ) [.ref (q0 0), .int x1] (wX q0 qs qo qt qv qr qx ql ad qh cI cF cC cS cO u) (vQi D (wX q0 qs qo qt qv qr qx ql ad qh cI cF cC cS cO u0) r0) :=
  vM_of hE (by decide +kernel) (Nat.le_of_ble_eq_true rfl) (fun p e s m args below meth c A C hr => kX7_written_e C (vi_reti C hr) h)
-- ---- X7_isTextDone
def fX7_isTextDone_13 : Nat → Int32 → vZ → Option (Int32 × vZ)
  | 0, _, _ => none
  | n + 1, x1, u => (if u.2.2.2.2.2.1.1 0 5 ≤ x1 then (fX2_remember u.2.1).bind fun u2b => bd ((u.1, (u2b, u.2.2))) fun u2 => (fX5_copyFrom (u2.2.1.1, u2.2.2.1)).bind fun u3b => bd ((u2.1, ((u3b.1, u2.2.1.2), (u3b.2, (u2.2.2.2.1, u2.2.2.2.2))))) fun u3 => some ((1 : Int32), u3) else if x1 < 0 ∨ 15 ≤ Int32.toNatClampNeg x1 then none else (u.2.2.2.2.2.1.2 (Int32.toNatClampNeg x1)).bind fun y5 => if x1 < 0 ∨ 15 ≤ Int32.toNatClampNeg x1 then none else bd ((u.2.2.2.2.2.1.1 3 (Int32.toNatClampNeg x1) : Int32)) fun y7 => if x1 < 0 ∨ 15 ≤ Int32.toNatClampNeg x1 then none else bd ((u.2.2.2.2.2.1.1 4 (Int32.toNatClampNeg x1) : Int32)) fun y9 => obp (fX5_isInRange y5 y7 y9 u.2.2.1) fun y11 u10b => bd ((u.1, (u.2.1, (u10b, u.2.2.2)))) fun u10 => (if y11 = 0 then (fX4_keep (5 : Int32) x1 u10.2.2.2.2.1).bind fun u22b => bd ((u10.1, (u10.2.1, (u10.2.2.1, (u10.2.2.2.1, (u22b, u10.2.2.2.2.2)))))) fun u22 => some ((0 : Int32), u22) else obp (fX5_reasonAgainst y5 y7 y9 u10.2.2.1) fun y14 u13b => bd ((u10.1, (u10.2.1, (u13b, u10.2.2.2)))) fun u13 => (if y14 = 0 then (fX5_carryOut y5 y7 y9 u13.2.2.1).bind fun u16b => bd ((u13.1, (u13.2.1, (u16b, u13.2.2.2)))) fun u16 => bd ((x1 + 1 : Int32)) fun y17 => fX7_isTextDone_13 n y17 u16 else (fX4_keep (5 : Int32) x1 u13.2.2.2.2.1).bind fun u18b => bd ((u13.1, (u13.2.1, (u13.2.2.1, (u13.2.2.2.1, (u18b, u13.2.2.2.2.2)))))) fun u18 => obp (fX5_detailOf y14 y7 y9 u18.2.2.1) fun y20 u19b => bd ((u18.1, (u18.2.1, (u19b, u18.2.2.2)))) fun u19 => (fX4_keepBehind y14 y20 u19.2.2.2.2.1).bind fun u21b => bd ((u19.1, (u19.2.1, (u19.2.2.1, (u19.2.2.2.1, (u21b, u19.2.2.2.2.2)))))) fun u21 => some ((0 : Int32), u21))))
set_option maxRecDepth 100000 in
set_option maxHeartbeats 4000000 in
theorem kX7_isTextDone_13 {ad adK adV : Nat → Nat} {tS tF : Nat} {tX sK sV : Nat → Nat} {p : Program} {l : Launch} {e : Env} {s : State} {m : MethodId} {args : Array Value} {below : List Frame} {meth : Method} {c : Code} {A : Nat → Prop} {D : va_G} {cI cF cC cS cO cB cZ : ClassId} {Q : State → Prop} {q0 qs qo qt qv qr qx ql : Nat → Nat} {qh : Nat → Nat → Nat} (C : vC (vE ad adK adV tS tF tX sK sV) p l s m args meth c A D (vT7 cI cF cC cS cO cB cZ) cX7_isTextDone 6 RX7) {r0 : Int32} {u0 : vZ} (RET : ∀ (pc : Nat) (lv : List (Nat × Value)), decode cX7_isTextDone pc = .ok (.ireturn, 1) → (r0 = 0 ∨ r0 = 1) → vV p l e { frames := 6, cells := 0, slots := 0, locals := 137 } s m args below meth c A D 6 0 0 Q (wX q0 qs qo qt qv qr qx ql ad qh cI cF cC cS cO u0) pc lv [.int r0]) : ∀ (n : Nat) (x1 : Int32) (u : vZ), fX7_isTextDone_13 n x1 u = some (r0, u0) → vV p l e { frames := 6, cells := 0, slots := 0, locals := 137 } s m args below meth c A D 6 0 0 Q (wX q0 qs qo qt qv qr qx ql ad qh cI cF cC cS cO u) 13 [(0, .ref (q0 0)), (1, .int x1)] [] := by
  intro n
  induction n with
  | zero => intro x1 u h; rw [fX7_isTextDone_13] at h; cases h
  | succ n ih =>
    intro x1 u h
    rw [fX7_isTextDone_13] at h
    refine vi_iload_n C 1 dX7_isTextDone_13 rfl ?_
    refine vi_aload_n C 0 dX7_isTextDone_14 rfl ?_
    refine gM_X7_0_5 C dX7_isTextDone_15 ?_
    refine gM_X7_94_5 C dX7_isTextDone_18 ?_
    refine vi_icmp_ge (tgt := 147) C dX7_isTextDone_21 (by decide) (fun hc1 => ?_) (fun hc1 => ?_)
    · have h := ob_t h hc1
      refine vi_aload_n C 0 dX7_isTextDone_147 rfl ?_
      refine gM_X7_0_3 C dX7_isTextDone_148 ?_
      refine vi_aload_n C 0 dX7_isTextDone_151 rfl ?_
      refine gM_X7_0_0 C dX7_isTextDone_152 ?_
      obtain ⟨u2b, hgu2, h⟩ := ob_bd h
      obtain ⟨u2, eu2, h⟩ := ob_nm h
      refine cM_hi_v (As := [.ref (qs 0)]) (rest := []) C (mX2_remember C.2.2.2.2.2.2.2.2.1 hgu2) 1 rfl tcX2_remember tlX7_336 tiX2_remember tsX2_remember rfl tnX2 tdX2_remember ⟨Nat.le_of_ble_eq_true rfl, Nat.le_of_ble_eq_true rfl⟩ eu2 rfl (Nat.le_of_ble_eq_true rfl) dX7_isTextDone_155 ?_
      refine vi_aload_n C 0 dX7_isTextDone_158 rfl ?_
      refine gM_X7_0_0 C dX7_isTextDone_159 ?_
      refine vi_aload_n C 0 dX7_isTextDone_162 rfl ?_
      refine gM_X7_0_1 C dX7_isTextDone_163 ?_
      obtain ⟨u3b, hgu3, h⟩ := ob_bd h
      obtain ⟨u3, eu3, h⟩ := ob_nm h
      refine cM_copy_ship_trial C (mX5_copyFrom C.2.2.2.2.2.2.2.2.1 hgu3) eu3 ⟨Nat.le_of_ble_eq_true rfl, Nat.le_of_ble_eq_true rfl⟩ (Nat.le_of_ble_eq_true rfl) dX7_isTextDone_166 ?_
      refine vi_iconst (v := 1) C dX7_isTextDone_169 (by decide) ?_
      exact vi_donez (W := wX q0 qs qo qt qv qr qx ql ad qh cI cF cC cS cO) RET h (by decide) dX7_isTextDone_170
    · have h := ob_f h hc1
      refine vi_aload_n C 0 dX7_isTextDone_24 rfl ?_
      refine gM_X7_0_5 C dX7_isTextDone_25 ?_
      refine gM_X7_94_2 C dX7_isTextDone_28 ?_
      refine vi_iload_n C 1 dX7_isTextDone_31 rfl ?_
      obtain ⟨hz4, h⟩ := ob_if h
      obtain ⟨y5, hfy5, h⟩ := ob_bd h
      refine lM_X7_96 (n := (Int32.toNatClampNeg x1)) C hz4 rfl hfy5 dX7_isTextDone_32 ?_
      refine vi_astore_n (lv' := [(2, .ref (ad y5)), (0, .ref (q0 0)), (1, .int x1)]) C dX7_isTextDone_33 rfl (by decide) rfl ?_
      refine vi_aload_n C 1 dX7_isTextDone_34 rfl ?_
      refine gM_X7_0_5 C dX7_isTextDone_35 ?_
      refine gM_X7_94_3 C dX7_isTextDone_38 ?_
      refine vi_iload_n C 2 dX7_isTextDone_41 rfl ?_
      obtain ⟨hz6, h⟩ := ob_if h
      refine lM_X7_97 (n := (Int32.toNatClampNeg x1)) C hz6 rfl dX7_isTextDone_42 ?_
      obtain ⟨y7, ey7, h⟩ := ob_nm h
      refine vi_nmi ey7 ?_
      refine vi_istore_n (lv' := [(3, .int y7), (2, .ref (ad y5)), (0, .ref (q0 0)), (1, .int x1)]) C dX7_isTextDone_43 rfl (by decide) rfl ?_
      refine vi_aload_n C 2 dX7_isTextDone_44 rfl ?_
      refine gM_X7_0_5 C dX7_isTextDone_45 ?_
      refine gM_X7_94_4 C dX7_isTextDone_48 ?_
      refine vi_iload_n C 3 dX7_isTextDone_51 rfl ?_
      obtain ⟨hz8, h⟩ := ob_if h
      refine lM_X7_98 (n := (Int32.toNatClampNeg x1)) C hz8 rfl dX7_isTextDone_52 ?_
      obtain ⟨y9, ey9, h⟩ := ob_nm h
      refine vi_nmi ey9 ?_
      refine vi_istore (lv' := [(4, .int y9), (3, .int y7), (2, .ref (ad y5)), (0, .ref (q0 0)), (1, .int x1)]) C dX7_isTextDone_53 (by decide) rfl ?_
      refine vi_aload_n C 3 dX7_isTextDone_55 rfl ?_
      refine gM_X7_0_1 C dX7_isTextDone_56 ?_
      refine vi_aload_n C 2 dX7_isTextDone_59 rfl ?_
      refine vi_iload_n C 1 dX7_isTextDone_60 rfl ?_
      refine vi_iload C 0 dX7_isTextDone_61 rfl ?_
      obtain ⟨y11, u10b, hgu10, h⟩ := ob_p h
      obtain ⟨u10, eu10, h⟩ := ob_nm h
      refine cM_trial_i (As := [.ref (ad y5), .int y7, .int y9]) (rest := []) C (mX5_isInRange C.2.2.2.2.2.2.2.2.1 hgu10) 3 rfl tcX5_isInRange tlX7_352 tiX5_isInRange tsX5_isInRange rfl tnX5 tdX5_isInRange ⟨Nat.le_of_ble_eq_true rfl, Nat.le_of_ble_eq_true rfl⟩ eu10 rfl (Nat.le_of_ble_eq_true rfl) dX7_isTextDone_63 ?_
      refine vi_if_ne (tgt := 80) C dX7_isTextDone_66 (by decide) (fun hc12 => ?_) (fun hc12 => ?_)
      · have h := ob_f h hc12
        refine vi_aload_n C 3 dX7_isTextDone_80 rfl ?_
        refine gM_X7_0_1 C dX7_isTextDone_81 ?_
        refine vi_aload_n C 2 dX7_isTextDone_84 rfl ?_
        refine vi_iload_n C 1 dX7_isTextDone_85 rfl ?_
        refine vi_iload C 0 dX7_isTextDone_86 rfl ?_
        obtain ⟨y14, u13b, hgu13, h⟩ := ob_p h
        obtain ⟨u13, eu13, h⟩ := ob_nm h
        refine cM_trial_i (As := [.ref (ad y5), .int y7, .int y9]) (rest := []) C (mX5_reasonAgainst C.2.2.2.2.2.2.2.2.1 hgu13) 3 rfl tcX5_reasonAgainst tlX7_324 tiX5_reasonAgainst tsX5_reasonAgainst rfl tnX5 tdX5_reasonAgainst ⟨Nat.le_of_ble_eq_true rfl, Nat.le_of_ble_eq_true rfl⟩ eu13 rfl (Nat.le_of_ble_eq_true rfl) dX7_isTextDone_88 ?_
        refine vi_istore (lv' := [(5, .int y14), (4, .int y9), (3, .int y7), (2, .ref (ad y5)), (0, .ref (q0 0)), (1, .int x1)]) C dX7_isTextDone_91 (by decide) rfl ?_
        refine vi_iload C 0 dX7_isTextDone_93 rfl ?_
        refine vi_if_eq (tgt := 130) C dX7_isTextDone_95 (by decide) (fun hc15 => ?_) (fun hc15 => ?_)
        · have h := ob_t h hc15
          refine vi_aload_n C 4 dX7_isTextDone_130 rfl ?_
          refine gM_X7_0_1 C dX7_isTextDone_131 ?_
          refine vi_aload_n C 3 dX7_isTextDone_134 rfl ?_
          refine vi_iload_n C 2 dX7_isTextDone_135 rfl ?_
          refine vi_iload C 1 dX7_isTextDone_136 rfl ?_
          obtain ⟨u16b, hgu16, h⟩ := ob_bd h
          obtain ⟨u16, eu16, h⟩ := ob_nm h
          refine cM_trial_v (As := [.ref (ad y5), .int y7, .int y9]) (rest := []) C (mX5_carryOut C.2.2.2.2.2.2.2.2.1 hgu16) 3 rfl tcX5_carryOut tlX7_339 tiX5_carryOut tsX5_carryOut rfl tnX5 tdX5_carryOut ⟨Nat.le_of_ble_eq_true rfl, Nat.le_of_ble_eq_true rfl⟩ eu16 rfl (Nat.le_of_ble_eq_true rfl) dX7_isTextDone_138 ?_
          obtain ⟨y17, ey17, h⟩ := ob_nm h
          refine vi_iinc (v := y17) (lv' := [(1, .int y17), (5, .int y14), (4, .int y9), (3, .int y7), (2, .ref (ad y5)), (0, .ref (q0 0))]) C 5 dX7_isTextDone_141 rfl (by rw [ey17]; rfl) (by decide) rfl ?_
          refine vi_goto (tgt := 13) C dX7_isTextDone_144 (by decide) ?_
          refine vi_sub C [5, 0] rfl ?_
          exact ih _ _ h
        · have h := ob_f h hc15
          refine vi_aload_n C 4 dX7_isTextDone_98 rfl ?_
          refine gM_X7_0_4 C dX7_isTextDone_99 ?_
          refine vi_iconst (v := 5) C dX7_isTextDone_102 (by decide) ?_
          refine vi_iload_n C 5 dX7_isTextDone_103 rfl ?_
          obtain ⟨u18b, hgu18, h⟩ := ob_bd h
          obtain ⟨u18, eu18, h⟩ := ob_nm h
          refine cM_reasons_v (As := [.int (5 : Int32), .int x1]) (rest := []) C (mX4_keep C.2.2.2.2.2.2.2.2.1 hgu18) 2 rfl tcX4_keep tlX7_332 tiX4_keep tsX4_keep rfl tnX4 tdX4_keep ⟨Nat.le_of_ble_eq_true rfl, Nat.le_of_ble_eq_true rfl⟩ eu18 rfl (Nat.le_of_ble_eq_true rfl) dX7_isTextDone_104 ?_
          refine vi_aload_n C 4 dX7_isTextDone_107 rfl ?_
          refine gM_X7_0_4 C dX7_isTextDone_108 ?_
          refine vi_iload C 0 dX7_isTextDone_111 rfl ?_
          refine vi_aload_n C 4 dX7_isTextDone_113 rfl ?_
          refine gM_X7_0_1 C dX7_isTextDone_114 ?_
          refine vi_iload C 0 dX7_isTextDone_117 rfl ?_
          refine vi_iload_n C 2 dX7_isTextDone_119 rfl ?_
          refine vi_iload C 1 dX7_isTextDone_120 rfl ?_
          obtain ⟨y20, u19b, hgu19, h⟩ := ob_p h
          obtain ⟨u19, eu19, h⟩ := ob_nm h
          refine cM_trial_i (As := [.int y14, .int y7, .int y9]) (rest := [.int y14, .ref (qr 0)]) C (mX5_detailOf C.2.2.2.2.2.2.2.2.1 hgu19) 3 rfl tcX5_detailOf tlX7_328 tiX5_detailOf tsX5_detailOf rfl tnX5 tdX5_detailOf ⟨Nat.le_of_ble_eq_true rfl, Nat.le_of_ble_eq_true rfl⟩ eu19 rfl (Nat.le_of_ble_eq_true rfl) dX7_isTextDone_122 ?_
          obtain ⟨u21b, hgu21, h⟩ := ob_bd h
          obtain ⟨u21, eu21, h⟩ := ob_nm h
          refine cM_reasons_v (As := [.int y14, .int y20]) (rest := []) C (mX4_keepBehind C.2.2.2.2.2.2.2.2.1 hgu21) 2 rfl tcX4_keepBehind tlX7_355 tiX4_keepBehind tsX4_keepBehind rfl tnX4 tdX4_keepBehind ⟨Nat.le_of_ble_eq_true rfl, Nat.le_of_ble_eq_true rfl⟩ eu21 rfl (Nat.le_of_ble_eq_true rfl) dX7_isTextDone_125 ?_
          refine vi_iconst (v := 0) C dX7_isTextDone_128 (by decide) ?_
          exact vi_donez (W := wX q0 qs qo qt qv qr qx ql ad qh cI cF cC cS cO) RET h (by decide) dX7_isTextDone_129
      · have h := ob_t h hc12
        refine vi_aload_n C 3 dX7_isTextDone_69 rfl ?_
        refine gM_X7_0_4 C dX7_isTextDone_70 ?_
        refine vi_iconst (v := 5) C dX7_isTextDone_73 (by decide) ?_
        refine vi_iload_n C 4 dX7_isTextDone_74 rfl ?_
        obtain ⟨u22b, hgu22, h⟩ := ob_bd h
        obtain ⟨u22, eu22, h⟩ := ob_nm h
        refine cM_reasons_v (As := [.int (5 : Int32), .int x1]) (rest := []) C (mX4_keep C.2.2.2.2.2.2.2.2.1 hgu22) 2 rfl tcX4_keep tlX7_332 tiX4_keep tsX4_keep rfl tnX4 tdX4_keep ⟨Nat.le_of_ble_eq_true rfl, Nat.le_of_ble_eq_true rfl⟩ eu22 rfl (Nat.le_of_ble_eq_true rfl) dX7_isTextDone_75 ?_
        refine vi_iconst (v := 0) C dX7_isTextDone_78 (by decide) ?_
        exact vi_donez (W := wX q0 qs qo qt qv qr qx ql ad qh cI cF cC cS cO) RET h (by decide) dX7_isTextDone_79
def fX7_isTextDone (u : vZ) : Option (Int32 × vZ) := (fX5_copyFrom (u.2.2.1, u.2.1.1)).bind fun u1b => bd ((u.1, ((u1b.2, u.2.1.2), (u1b.1, (u.2.2.2.1, u.2.2.2.2))))) fun u1 => fX7_isTextDone_13 vF (0 : Int32) u1
set_option maxRecDepth 100000 in
set_option maxHeartbeats 4000000 in
theorem kX7_isTextDone_e {ad adK adV : Nat → Nat} {tS tF : Nat} {tX sK sV : Nat → Nat} {p : Program} {l : Launch} {e : Env} {s : State} {m : MethodId} {args : Array Value} {below : List Frame} {meth : Method} {c : Code} {A : Nat → Prop} {D : va_G} {cI cF cC cS cO cB cZ : ClassId} {Q : State → Prop} {q0 qs qo qt qv qr qx ql : Nat → Nat} {qh : Nat → Nat → Nat} (C : vC (vE ad adK adV tS tF tX sK sV) p l s m args meth c A D (vT7 cI cF cC cS cO cB cZ) cX7_isTextDone 6 RX7) {r0 : Int32} {u0 : vZ} (RET : ∀ (pc : Nat) (lv : List (Nat × Value)), decode cX7_isTextDone pc = .ok (.ireturn, 1) → (r0 = 0 ∨ r0 = 1) → vV p l e { frames := 6, cells := 0, slots := 0, locals := 137 } s m args below meth c A D 6 0 0 Q (wX q0 qs qo qt qv qr qx ql ad qh cI cF cC cS cO u0) pc lv [.int r0]) {u : vZ} (h : fX7_isTextDone u = some (r0, u0)) : vV p l e { frames := 6, cells := 0, slots := 0, locals := 137 } s m args below meth c A D 6 0 0 Q (wX q0 qs qo qt qv qr qx ql ad qh cI cF cC cS cO u) 0 [(0, .ref (q0 0))] [] := by
  rw [fX7_isTextDone] at h
  refine vi_aload_n C 0 dX7_isTextDone_0 rfl ?_
  refine gM_X7_0_1 C dX7_isTextDone_1 ?_
  refine vi_aload_n C 0 dX7_isTextDone_4 rfl ?_
  refine gM_X7_0_0 C dX7_isTextDone_5 ?_
  obtain ⟨u1b, hgu1, h⟩ := ob_bd h
  obtain ⟨u1, eu1, h⟩ := ob_nm h
  refine cM_copy_trial_ship C (mX5_copyFrom C.2.2.2.2.2.2.2.2.1 hgu1) eu1 ⟨Nat.le_of_ble_eq_true rfl, Nat.le_of_ble_eq_true rfl⟩ (Nat.le_of_ble_eq_true rfl) dX7_isTextDone_8 ?_
  refine vi_iconst (v := 0) C dX7_isTextDone_11 (by decide) ?_
  refine vi_istore_n (lv' := [(1, .int (0 : Int32)), (0, .ref (q0 0))]) C dX7_isTextDone_12 rfl (by decide) rfl ?_
  refine vi_sub C [1, 0] rfl ?_
  exact kX7_isTextDone_13 C RET  vF _ _ h
theorem mX7_isTextDone {ad adK adV : Nat → Nat} {tS tF : Nat} {tX sK sV : Nat → Nat} (hE : vEok (vE ad adK adV tS tF tX sK sV)) {l : Launch} {D : va_G} {cI cF cC cS cO cB cZ : ClassId} {q0 qs qo qt qv qr qx ql : Nat → Nat} {qh : Nat → Nat → Nat} {r0 : Int32} {u0 : vZ}  {u : vZ} (h : fX7_isTextDone u = some (r0, u0)) : vM (vE ad adK adV tS tF tX sK sV) l yX7_isTextDone cX7_isTextDone 6 (some .boolean) 6 137 D (vT7 cI cF cC cS cO cB cZ) [.ref (q0 0)] (wX q0 qs qo qt qv qr qx ql ad qh cI cF cC cS cO u) (vQi D (wX q0 qs qo qt qv qr qx ql ad qh cI cF cC cS cO u0) r0) :=
  vM_of hE (by decide +kernel) (Nat.le_of_ble_eq_true rfl) (fun p e s m args below meth c A C hr => kX7_isTextDone_e C (vi_retzz C hr) h)
-- ---- X7_read
def fX7_read (u : vZ) : Option (Int32 × vZ) := obp (fX6_parse u.2.2.2.2.2.1) fun y2 u1b => bd ((u.1, (u.2.1, (u.2.2.1, (u.2.2.2.1, (u.2.2.2.2.1, (u1b, u.2.2.2.2.2.2))))))) fun u1 => (fX6_clear u1.2.2.2.2.2.1).bind fun u3b => bd ((u1.1, (u1.2.1, (u1.2.2.1, (u1.2.2.2.1, (u1.2.2.2.2.1, (u3b, u1.2.2.2.2.2.2))))))) fun u3 => (if y2 = (-1 : Int32) then obp (fX7_isTextDone u3) fun y6 u5 => (if y6 = 0 then some ((-100005 : Int32), u5) else some (u5.2.2.2.2.2.1.1 0 5, u5)) else bd ((upd u3.1 8 (1 : Int32), u3.2)) fun u8 => bd ((upd u8.1 9 y2, u8.2)) fun u9 => some ((-100002 : Int32), u9))
set_option maxRecDepth 100000 in
set_option maxHeartbeats 4000000 in
theorem kX7_read_e {ad adK adV : Nat → Nat} {tS tF : Nat} {tX sK sV : Nat → Nat} {p : Program} {l : Launch} {e : Env} {s : State} {m : MethodId} {args : Array Value} {below : List Frame} {meth : Method} {c : Code} {A : Nat → Prop} {D : va_G} {cI cF cC cS cO cB cZ : ClassId} {Q : State → Prop} {q0 qs qo qt qv qr qx ql : Nat → Nat} {qh : Nat → Nat → Nat} (C : vC (vE ad adK adV tS tF tX sK sV) p l s m args meth c A D (vT7 cI cF cC cS cO cB cZ) cX7_read 2 RX7) {r0 : Int32} {u0 : vZ} (RET : ∀ (pc : Nat) (lv : List (Nat × Value)), decode cX7_read pc = .ok (.ireturn, 1) → vV p l e { frames := 7, cells := 0, slots := 0, locals := 162 } s m args below meth c A D 2 0 0 Q (wX q0 qs qo qt qv qr qx ql ad qh cI cF cC cS cO u0) pc lv [.int r0]) {u : vZ} (h : fX7_read u = some (r0, u0)) : vV p l e { frames := 7, cells := 0, slots := 0, locals := 162 } s m args below meth c A D 2 0 0 Q (wX q0 qs qo qt qv qr qx ql ad qh cI cF cC cS cO u) 0 [(0, .ref (q0 0))] [] := by
  rw [fX7_read] at h
  refine vi_aload_n C 0 dX7_read_0 rfl ?_
  refine gM_X7_0_5 C dX7_read_1 ?_
  obtain ⟨y2, u1b, hgu1, h⟩ := ob_p h
  obtain ⟨u1, eu1, h⟩ := ob_nm h
  refine cM_text_i (As := []) (rest := []) C (mX6_parse C.2.2.2.2.2.2.2.2.1 hgu1) 0 rfl tcX6_parse tlX7_283 tiX6_parse tsX6_parse rfl tnX6 tdX6_parse ⟨Nat.le_of_ble_eq_true rfl, Nat.le_of_ble_eq_true rfl⟩ eu1 rfl (Nat.le_of_ble_eq_true rfl) dX7_read_4 ?_
  refine vi_istore_n (lv' := [(1, .int y2), (0, .ref (q0 0))]) C dX7_read_7 rfl (by decide) rfl ?_
  refine vi_aload_n C 1 dX7_read_8 rfl ?_
  refine gM_X7_0_5 C dX7_read_9 ?_
  obtain ⟨u3b, hgu3, h⟩ := ob_bd h
  obtain ⟨u3, eu3, h⟩ := ob_nm h
  refine cM_text_v (As := []) (rest := []) C (mX6_clear C.2.2.2.2.2.2.2.2.1 hgu3) 0 rfl tcX6_clear tlX7_286 tiX6_clear tsX6_clear rfl tnX6 tdX6_clear ⟨Nat.le_of_ble_eq_true rfl, Nat.le_of_ble_eq_true rfl⟩ eu3 rfl (Nat.le_of_ble_eq_true rfl) dX7_read_12 ?_
  refine vi_iload_n C 0 dX7_read_15 rfl ?_
  refine vi_iconst (v := (-1)) C dX7_read_16 (by decide) ?_
  refine vi_icmp_eq (tgt := 33) C dX7_read_17 (by decide) (fun hc4 => ?_) (fun hc4 => ?_)
  · have h := ob_t h hc4
    refine vi_aload_n C 1 dX7_read_33 rfl ?_
    obtain ⟨y6, u5, hgu5, h⟩ := ob_p h
    refine cM_X7_i (As := []) (rest := []) C (mX7_isTextDone C.2.2.2.2.2.2.2.2.1 hgu5) 0 rfl tcX7_isTextDone tlX7_294 tiX7_isTextDone tsX7_isTextDone rfl tnX7 tdX7_isTextDone ⟨Nat.le_of_ble_eq_true rfl, Nat.le_of_ble_eq_true rfl⟩ rfl (Nat.le_of_ble_eq_true rfl) dX7_read_34 ?_
    refine vi_if_eq (tgt := 50) C dX7_read_37 (by decide) (fun hc7 => ?_) (fun hc7 => ?_)
    · have h := ob_t h hc7
      refine vi_ldc (v := (-100005)) C dX7_read_50 tkX7_65 ?_
      exact vi_donei (W := wX q0 qs qo qt qv qr qx ql ad qh cI cF cC cS cO) RET h dX7_read_52
    · have h := ob_f h hc7
      refine vi_aload_n C 1 dX7_read_40 rfl ?_
      refine gM_X7_0_5 C dX7_read_41 ?_
      refine gM_X7_94_5 C dX7_read_44 ?_
      refine vi_goto (tgt := 52) C dX7_read_47 (by decide) ?_
      exact vi_donei (W := wX q0 qs qo qt qv qr qx ql ad qh cI cF cC cS cO) RET h dX7_read_52
  · have h := ob_f h hc4
    refine vi_aload_n C 1 dX7_read_20 rfl ?_
    refine vi_iconst (v := 1) C dX7_read_21 (by decide) ?_
    obtain ⟨u8, eu8, h⟩ := ob_nm h
    refine pM_X7_0_8 C dX7_read_22 (by decide) eu8.symm ?_
    refine vi_aload_n C 1 dX7_read_25 rfl ?_
    refine vi_iload_n C 0 dX7_read_26 rfl ?_
    obtain ⟨u9, eu9, h⟩ := ob_nm h
    refine pM_X7_0_9 C dX7_read_27 eu9.symm ?_
    refine vi_ldc (v := (-100002)) C dX7_read_30 tkX7_54 ?_
    exact vi_donei (W := wX q0 qs qo qt qv qr qx ql ad qh cI cF cC cS cO) RET h dX7_read_32
theorem mX7_read {ad adK adV : Nat → Nat} {tS tF : Nat} {tX sK sV : Nat → Nat} (hE : vEok (vE ad adK adV tS tF tX sK sV)) {l : Launch} {D : va_G} {cI cF cC cS cO cB cZ : ClassId} {q0 qs qo qt qv qr qx ql : Nat → Nat} {qh : Nat → Nat → Nat} {r0 : Int32} {u0 : vZ}  {u : vZ} (h : fX7_read u = some (r0, u0)) : vM (vE ad adK adV tS tF tX sK sV) l yX7_read cX7_read 2 (some .int) 7 162 D (vT7 cI cF cC cS cO cB cZ) [.ref (q0 0)] (wX q0 qs qo qt qv qr qx ql ad qh cI cF cC cS cO u) (vQi D (wX q0 qs qo qt qv qr qx ql ad qh cI cF cC cS cO u0) r0) :=
  vM_of hE (by decide +kernel) (Nat.le_of_ble_eq_true rfl) (fun p e s m args below meth c A C hr => kX7_read_e C (vi_reti C hr) h)
-- ---- X7_fault
def fX7_fault (u : vZ) : Option (Int32 × vZ) := (if u.1 8 = 0 then some ((-100003 : Int32), u) else some (u.1 9, u))
set_option maxRecDepth 100000 in
set_option maxHeartbeats 4000000 in
theorem kX7_fault_e {ad adK adV : Nat → Nat} {tS tF : Nat} {tX sK sV : Nat → Nat} {p : Program} {l : Launch} {e : Env} {s : State} {m : MethodId} {args : Array Value} {below : List Frame} {meth : Method} {c : Code} {A : Nat → Prop} {D : va_G} {cI cF cC cS cO cB cZ : ClassId} {Q : State → Prop} {q0 qs qo qt qv qr qx ql : Nat → Nat} {qh : Nat → Nat → Nat} (C : vC (vE ad adK adV tS tF tX sK sV) p l s m args meth c A D (vT7 cI cF cC cS cO cB cZ) cX7_fault 1 RX7) {r0 : Int32} {u0 : vZ} (RET : ∀ (pc : Nat) (lv : List (Nat × Value)), decode cX7_fault pc = .ok (.ireturn, 1) → vV p l e { frames := 0, cells := 0, slots := 0, locals := 0 } s m args below meth c A D 1 0 0 Q (wX q0 qs qo qt qv qr qx ql ad qh cI cF cC cS cO u0) pc lv [.int r0]) {u : vZ} (h : fX7_fault u = some (r0, u0)) : vV p l e { frames := 0, cells := 0, slots := 0, locals := 0 } s m args below meth c A D 1 0 0 Q (wX q0 qs qo qt qv qr qx ql ad qh cI cF cC cS cO u) 0 [(0, .ref (q0 0))] [] := by
  rw [fX7_fault] at h
  refine vi_aload_n C 0 dX7_fault_0 rfl ?_
  refine gM_X7_0_8 C dX7_fault_1 ?_
  refine vi_if_eq (tgt := 14) C dX7_fault_4 (by decide) (fun hc1 => ?_) (fun hc1 => ?_)
  · have h := ob_t h hc1
    refine vi_ldcw (v := (-100003)) C dX7_fault_14 tkX7_300 ?_
    exact vi_donei (W := wX q0 qs qo qt qv qr qx ql ad qh cI cF cC cS cO) RET h dX7_fault_17
  · have h := ob_f h hc1
    refine vi_aload_n C 0 dX7_fault_7 rfl ?_
    refine gM_X7_0_9 C dX7_fault_8 ?_
    refine vi_goto (tgt := 17) C dX7_fault_11 (by decide) ?_
    exact vi_donei (W := wX q0 qs qo qt qv qr qx ql ad qh cI cF cC cS cO) RET h dX7_fault_17
theorem mX7_fault {ad adK adV : Nat → Nat} {tS tF : Nat} {tX sK sV : Nat → Nat} (hE : vEok (vE ad adK adV tS tF tX sK sV)) {l : Launch} {D : va_G} {cI cF cC cS cO cB cZ : ClassId} {q0 qs qo qt qv qr qx ql : Nat → Nat} {qh : Nat → Nat → Nat} {r0 : Int32} {u0 : vZ}  {u : vZ} (h : fX7_fault u = some (r0, u0)) : vM (vE ad adK adV tS tF tX sK sV) l yX7_fault cX7_fault 1 (some .int) 0 0 D (vT7 cI cF cC cS cO cB cZ) [.ref (q0 0)] (wX q0 qs qo qt qv qr qx ql ad qh cI cF cC cS cO u) (vQi D (wX q0 qs qo qt qv qr qx ql ad qh cI cF cC cS cO u0) r0) :=
  vM_of hE (by decide +kernel) (Nat.le_of_ble_eq_true rfl) (fun p e s m args below meth c A C hr => kX7_fault_e C (vi_reti C hr) h)
-- ---- X7_reason
def fX7_reason (x1 : Int32) (x2 : Int32) (u : vZ) : Option (Int32 × vZ) := (if x1 < 0 then some ((-100002 : Int32), u) else (if x1 ≤ (1 : Int32) then (if u.2.2.2.2.1 0 2 = 0 then some ((-100003 : Int32), u) else (if x1 < u.2.2.2.2.1 0 2 then (if x2 = 0 then if x1 < 0 ∨ 2 ≤ Int32.toNatClampNeg x1 then none else some (u.2.2.2.2.1 1 (Int32.toNatClampNeg x1), u) else if x1 < 0 ∨ 2 ≤ Int32.toNatClampNeg x1 then none else some (u.2.2.2.2.1 2 (Int32.toNatClampNeg x1), u)) else some ((-100006 : Int32), u))) else some ((-100002 : Int32), u)))
set_option maxRecDepth 100000 in
set_option maxHeartbeats 4000000 in
theorem kX7_reason_e {ad adK adV : Nat → Nat} {tS tF : Nat} {tX sK sV : Nat → Nat} {p : Program} {l : Launch} {e : Env} {s : State} {m : MethodId} {args : Array Value} {below : List Frame} {meth : Method} {c : Code} {A : Nat → Prop} {D : va_G} {cI cF cC cS cO cB cZ : ClassId} {Q : State → Prop} {q0 qs qo qt qv qr qx ql : Nat → Nat} {qh : Nat → Nat → Nat} (C : vC (vE ad adK adV tS tF tX sK sV) p l s m args meth c A D (vT7 cI cF cC cS cO cB cZ) cX7_reason 3 RX7) {r0 : Int32} {u0 : vZ} (RET : ∀ (pc : Nat) (lv : List (Nat × Value)), decode cX7_reason pc = .ok (.ireturn, 1) → vV p l e { frames := 0, cells := 0, slots := 0, locals := 0 } s m args below meth c A D 3 0 0 Q (wX q0 qs qo qt qv qr qx ql ad qh cI cF cC cS cO u0) pc lv [.int r0]) {x1 : Int32} {x2 : Int32} {u : vZ} (h : fX7_reason x1 x2 u = some (r0, u0)) : vV p l e { frames := 0, cells := 0, slots := 0, locals := 0 } s m args below meth c A D 3 0 0 Q (wX q0 qs qo qt qv qr qx ql ad qh cI cF cC cS cO u) 0 [(0, .ref (q0 0)), (1, .int x1), (2, .int x2)] [] := by
  rw [fX7_reason] at h
  refine vi_iload_n C 1 dX7_reason_0 rfl ?_
  refine vi_if_lt (tgt := 9) C dX7_reason_1 (by decide) (fun hc1 => ?_) (fun hc1 => ?_)
  · have h := ob_t h hc1
    refine vi_ldc (v := (-100002)) C dX7_reason_9 tkX7_54 ?_
    exact vi_donei (W := wX q0 qs qo qt qv qr qx ql ad qh cI cF cC cS cO) RET h dX7_reason_11
  · have h := ob_f h hc1
    refine vi_iload_n C 1 dX7_reason_4 rfl ?_
    refine vi_iconst (v := 1) C dX7_reason_5 (by decide) ?_
    refine vi_icmp_le (tgt := 12) C dX7_reason_6 (by decide) (fun hc2 => ?_) (fun hc2 => ?_)
    · have h := ob_t h hc2
      refine vi_aload_n C 0 dX7_reason_12 rfl ?_
      refine gM_X7_0_4 C dX7_reason_13 ?_
      refine gM_X7_91_2 C dX7_reason_16 ?_
      refine vi_if_ne (tgt := 26) C dX7_reason_19 (by decide) (fun hc3 => ?_) (fun hc3 => ?_)
      · have h := ob_f h hc3
        refine vi_iload_n C 1 dX7_reason_26 rfl ?_
        refine vi_aload_n C 0 dX7_reason_27 rfl ?_
        refine gM_X7_0_4 C dX7_reason_28 ?_
        refine gM_X7_91_2 C dX7_reason_31 ?_
        refine vi_icmp_lt (tgt := 40) C dX7_reason_34 (by decide) (fun hc4 => ?_) (fun hc4 => ?_)
        · have h := ob_t h hc4
          refine vi_iload_n C 2 dX7_reason_40 rfl ?_
          refine vi_if_eq (tgt := 56) C dX7_reason_41 (by decide) (fun hc5 => ?_) (fun hc5 => ?_)
          · have h := ob_t h hc5
            refine vi_aload_n C 0 dX7_reason_56 rfl ?_
            refine gM_X7_0_4 C dX7_reason_57 ?_
            refine gM_X7_91_0 C dX7_reason_60 ?_
            refine vi_iload_n C 1 dX7_reason_63 rfl ?_
            obtain ⟨hz6, h⟩ := ob_if h
            refine lM_X7_92 (n := (Int32.toNatClampNeg x1)) C hz6 rfl dX7_reason_64 ?_
            exact vi_donei (W := wX q0 qs qo qt qv qr qx ql ad qh cI cF cC cS cO) RET h dX7_reason_65
          · have h := ob_f h hc5
            refine vi_aload_n C 0 dX7_reason_44 rfl ?_
            refine gM_X7_0_4 C dX7_reason_45 ?_
            refine gM_X7_91_1 C dX7_reason_48 ?_
            refine vi_iload_n C 1 dX7_reason_51 rfl ?_
            obtain ⟨hz7, h⟩ := ob_if h
            refine lM_X7_93 (n := (Int32.toNatClampNeg x1)) C hz7 rfl dX7_reason_52 ?_
            refine vi_goto (tgt := 65) C dX7_reason_53 (by decide) ?_
            exact vi_donei (W := wX q0 qs qo qt qv qr qx ql ad qh cI cF cC cS cO) RET h dX7_reason_65
        · have h := ob_f h hc4
          refine vi_ldc (v := (-100006)) C dX7_reason_37 tkX7_194 ?_
          exact vi_donei (W := wX q0 qs qo qt qv qr qx ql ad qh cI cF cC cS cO) RET h dX7_reason_39
      · have h := ob_t h hc3
        refine vi_ldcw (v := (-100003)) C dX7_reason_22 tkX7_300 ?_
        exact vi_donei (W := wX q0 qs qo qt qv qr qx ql ad qh cI cF cC cS cO) RET h dX7_reason_25
    · have h := ob_f h hc2
      refine vi_ldc (v := (-100002)) C dX7_reason_9 tkX7_54 ?_
      exact vi_donei (W := wX q0 qs qo qt qv qr qx ql ad qh cI cF cC cS cO) RET h dX7_reason_11
theorem mX7_reason {ad adK adV : Nat → Nat} {tS tF : Nat} {tX sK sV : Nat → Nat} (hE : vEok (vE ad adK adV tS tF tX sK sV)) {l : Launch} {D : va_G} {cI cF cC cS cO cB cZ : ClassId} {q0 qs qo qt qv qr qx ql : Nat → Nat} {qh : Nat → Nat → Nat} {r0 : Int32} {u0 : vZ}  {x1 : Int32} {x2 : Int32} {u : vZ} (h : fX7_reason x1 x2 u = some (r0, u0)) : vM (vE ad adK adV tS tF tX sK sV) l yX7_reason cX7_reason 3 (some .int) 0 0 D (vT7 cI cF cC cS cO cB cZ) [.ref (q0 0), .int x1, .int x2] (wX q0 qs qo qt qv qr qx ql ad qh cI cF cC cS cO u) (vQi D (wX q0 qs qo qt qv qr qx ql ad qh cI cF cC cS cO u0) r0) :=
  vM_of hE (by decide +kernel) (Nat.le_of_ble_eq_true rfl) (fun p e s m args below meth c A C hr => kX7_reason_e C (vi_reti C hr) h)
-- ---- X7_undo
def fX7_undo (u : vZ) : Option (Int32 × vZ) := obp (fX2_takeBack u.2.1) fun y2 u1b => bd ((u.1, (u1b, u.2.2))) fun u1 => (if y2 = 0 then some ((-100003 : Int32), u1) else some (u1.2.1.2.1 2, u1))
set_option maxRecDepth 100000 in
set_option maxHeartbeats 4000000 in
theorem kX7_undo_e {ad adK adV : Nat → Nat} {tS tF : Nat} {tX sK sV : Nat → Nat} {p : Program} {l : Launch} {e : Env} {s : State} {m : MethodId} {args : Array Value} {below : List Frame} {meth : Method} {c : Code} {A : Nat → Prop} {D : va_G} {cI cF cC cS cO cB cZ : ClassId} {Q : State → Prop} {q0 qs qo qt qv qr qx ql : Nat → Nat} {qh : Nat → Nat → Nat} (C : vC (vE ad adK adV tS tF tX sK sV) p l s m args meth c A D (vT7 cI cF cC cS cO cB cZ) cX7_undo 1 RX7) {r0 : Int32} {u0 : vZ} (RET : ∀ (pc : Nat) (lv : List (Nat × Value)), decode cX7_undo pc = .ok (.ireturn, 1) → vV p l e { frames := 3, cells := 0, slots := 0, locals := 102 } s m args below meth c A D 1 0 0 Q (wX q0 qs qo qt qv qr qx ql ad qh cI cF cC cS cO u0) pc lv [.int r0]) {u : vZ} (h : fX7_undo u = some (r0, u0)) : vV p l e { frames := 3, cells := 0, slots := 0, locals := 102 } s m args below meth c A D 1 0 0 Q (wX q0 qs qo qt qv qr qx ql ad qh cI cF cC cS cO u) 0 [(0, .ref (q0 0))] [] := by
  rw [fX7_undo] at h
  refine vi_aload_n C 0 dX7_undo_0 rfl ?_
  refine gM_X7_0_3 C dX7_undo_1 ?_
  refine vi_aload_n C 0 dX7_undo_4 rfl ?_
  refine gM_X7_0_0 C dX7_undo_5 ?_
  obtain ⟨y2, u1b, hgu1, h⟩ := ob_p h
  obtain ⟨u1, eu1, h⟩ := ob_nm h
  refine cM_hi_i (As := [.ref (qs 0)]) (rest := []) C (mX2_takeBack C.2.2.2.2.2.2.2.2.1 hgu1) 1 rfl tcX2_takeBack tlX7_310 tiX2_takeBack tsX2_takeBack rfl tnX2 tdX2_takeBack ⟨Nat.le_of_ble_eq_true rfl, Nat.le_of_ble_eq_true rfl⟩ eu1 rfl (Nat.le_of_ble_eq_true rfl) dX7_undo_8 ?_
  refine vi_if_eq (tgt := 24) C dX7_undo_11 (by decide) (fun hc3 => ?_) (fun hc3 => ?_)
  · have h := ob_t h hc3
    refine vi_ldcw (v := (-100003)) C dX7_undo_24 tkX7_300 ?_
    exact vi_donei (W := wX q0 qs qo qt qv qr qx ql ad qh cI cF cC cS cO) RET h dX7_undo_27
  · have h := ob_f h hc3
    refine vi_aload_n C 0 dX7_undo_14 rfl ?_
    refine gM_X7_0_3 C dX7_undo_15 ?_
    refine gM_X7_9_2 C dX7_undo_18 ?_
    refine vi_goto (tgt := 27) C dX7_undo_21 (by decide) ?_
    exact vi_donei (W := wX q0 qs qo qt qv qr qx ql ad qh cI cF cC cS cO) RET h dX7_undo_27
theorem mX7_undo {ad adK adV : Nat → Nat} {tS tF : Nat} {tX sK sV : Nat → Nat} (hE : vEok (vE ad adK adV tS tF tX sK sV)) {l : Launch} {D : va_G} {cI cF cC cS cO cB cZ : ClassId} {q0 qs qo qt qv qr qx ql : Nat → Nat} {qh : Nat → Nat → Nat} {r0 : Int32} {u0 : vZ}  {u : vZ} (h : fX7_undo u = some (r0, u0)) : vM (vE ad adK adV tS tF tX sK sV) l yX7_undo cX7_undo 1 (some .int) 3 102 D (vT7 cI cF cC cS cO cB cZ) [.ref (q0 0)] (wX q0 qs qo qt qv qr qx ql ad qh cI cF cC cS cO u) (vQi D (wX q0 qs qo qt qv qr qx ql ad qh cI cF cC cS cO u0) r0) :=
  vM_of hE (by decide +kernel) (Nat.le_of_ble_eq_true rfl) (fun p e s m args below meth c A C hr => kX7_undo_e C (vi_reti C hr) h)
-- ---- X7_save
def fX7_save (u : vZ) : Option (Int32 × vZ) := (fX5_copyFrom (u.2.2.2.1, u.2.1.1)).bind fun u1b => bd ((u.1, ((u1b.2, u.2.1.2), (u.2.2.1, (u1b.1, u.2.2.2.2))))) fun u1 => bd ((upd u1.1 7 (1 : Int32), u1.2)) fun u2 => some (u2.2.1.1.1 0 0, u2)
set_option maxRecDepth 100000 in
set_option maxHeartbeats 4000000 in
theorem kX7_save_e {ad adK adV : Nat → Nat} {tS tF : Nat} {tX sK sV : Nat → Nat} {p : Program} {l : Launch} {e : Env} {s : State} {m : MethodId} {args : Array Value} {below : List Frame} {meth : Method} {c : Code} {A : Nat → Prop} {D : va_G} {cI cF cC cS cO cB cZ : ClassId} {Q : State → Prop} {q0 qs qo qt qv qr qx ql : Nat → Nat} {qh : Nat → Nat → Nat} (C : vC (vE ad adK adV tS tF tX sK sV) p l s m args meth c A D (vT7 cI cF cC cS cO cB cZ) cX7_save 1 RX7) {r0 : Int32} {u0 : vZ} (RET : ∀ (pc : Nat) (lv : List (Nat × Value)), decode cX7_save pc = .ok (.ireturn, 1) → vV p l e { frames := 2, cells := 0, slots := 0, locals := 81 } s m args below meth c A D 1 0 0 Q (wX q0 qs qo qt qv qr qx ql ad qh cI cF cC cS cO u0) pc lv [.int r0]) {u : vZ} (h : fX7_save u = some (r0, u0)) : vV p l e { frames := 2, cells := 0, slots := 0, locals := 81 } s m args below meth c A D 1 0 0 Q (wX q0 qs qo qt qv qr qx ql ad qh cI cF cC cS cO u) 0 [(0, .ref (q0 0))] [] := by
  rw [fX7_save] at h
  refine vi_aload_n C 0 dX7_save_0 rfl ?_
  refine gM_X7_0_2 C dX7_save_1 ?_
  refine vi_aload_n C 0 dX7_save_4 rfl ?_
  refine gM_X7_0_0 C dX7_save_5 ?_
  obtain ⟨u1b, hgu1, h⟩ := ob_bd h
  obtain ⟨u1, eu1, h⟩ := ob_nm h
  refine cM_copy_saved_ship C (mX5_copyFrom C.2.2.2.2.2.2.2.2.1 hgu1) eu1 ⟨Nat.le_of_ble_eq_true rfl, Nat.le_of_ble_eq_true rfl⟩ (Nat.le_of_ble_eq_true rfl) dX7_save_8 ?_
  refine vi_aload_n C 0 dX7_save_11 rfl ?_
  refine vi_iconst (v := 1) C dX7_save_12 (by decide) ?_
  obtain ⟨u2, eu2, h⟩ := ob_nm h
  refine pM_X7_0_7 C dX7_save_13 (by decide) eu2.symm ?_
  refine vi_aload_n C 0 dX7_save_16 rfl ?_
  refine gM_X7_0_0 C dX7_save_17 ?_
  refine gM_X7_1_0 C dX7_save_20 ?_
  exact vi_donei (W := wX q0 qs qo qt qv qr qx ql ad qh cI cF cC cS cO) RET h dX7_save_23
theorem mX7_save {ad adK adV : Nat → Nat} {tS tF : Nat} {tX sK sV : Nat → Nat} (hE : vEok (vE ad adK adV tS tF tX sK sV)) {l : Launch} {D : va_G} {cI cF cC cS cO cB cZ : ClassId} {q0 qs qo qt qv qr qx ql : Nat → Nat} {qh : Nat → Nat → Nat} {r0 : Int32} {u0 : vZ}  {u : vZ} (h : fX7_save u = some (r0, u0)) : vM (vE ad adK adV tS tF tX sK sV) l yX7_save cX7_save 1 (some .int) 2 81 D (vT7 cI cF cC cS cO cB cZ) [.ref (q0 0)] (wX q0 qs qo qt qv qr qx ql ad qh cI cF cC cS cO u) (vQi D (wX q0 qs qo qt qv qr qx ql ad qh cI cF cC cS cO u0) r0) :=
  vM_of hE (by decide +kernel) (Nat.le_of_ble_eq_true rfl) (fun p e s m args below meth c A C hr => kX7_save_e C (vi_reti C hr) h)
-- ---- X7_restore
def fX7_restore (u : vZ) : Option (Int32 × vZ) := (if u.1 7 = 0 then some ((-100003 : Int32), u) else (fX5_copyFrom (u.2.1.1, u.2.2.2.1)).bind fun u2b => bd ((u.1, ((u2b.1, u.2.1.2), (u.2.2.1, (u2b.2, u.2.2.2.2))))) fun u2 => (fX2_forget u2.2.1).bind fun u3b => bd ((u2.1, (u3b, u2.2.2))) fun u3 => some (u3.2.1.1.1 0 0, u3))
set_option maxRecDepth 100000 in
set_option maxHeartbeats 4000000 in
theorem kX7_restore_e {ad adK adV : Nat → Nat} {tS tF : Nat} {tX sK sV : Nat → Nat} {p : Program} {l : Launch} {e : Env} {s : State} {m : MethodId} {args : Array Value} {below : List Frame} {meth : Method} {c : Code} {A : Nat → Prop} {D : va_G} {cI cF cC cS cO cB cZ : ClassId} {Q : State → Prop} {q0 qs qo qt qv qr qx ql : Nat → Nat} {qh : Nat → Nat → Nat} (C : vC (vE ad adK adV tS tF tX sK sV) p l s m args meth c A D (vT7 cI cF cC cS cO cB cZ) cX7_restore 1 RX7) {r0 : Int32} {u0 : vZ} (RET : ∀ (pc : Nat) (lv : List (Nat × Value)), decode cX7_restore pc = .ok (.ireturn, 1) → vV p l e { frames := 2, cells := 0, slots := 0, locals := 81 } s m args below meth c A D 1 0 0 Q (wX q0 qs qo qt qv qr qx ql ad qh cI cF cC cS cO u0) pc lv [.int r0]) {u : vZ} (h : fX7_restore u = some (r0, u0)) : vV p l e { frames := 2, cells := 0, slots := 0, locals := 81 } s m args below meth c A D 1 0 0 Q (wX q0 qs qo qt qv qr qx ql ad qh cI cF cC cS cO u) 0 [(0, .ref (q0 0))] [] := by
  rw [fX7_restore] at h
  refine vi_aload_n C 0 dX7_restore_0 rfl ?_
  refine gM_X7_0_7 C dX7_restore_1 ?_
  refine vi_if_ne (tgt := 11) C dX7_restore_4 (by decide) (fun hc1 => ?_) (fun hc1 => ?_)
  · have h := ob_f h hc1
    refine vi_aload_n C 0 dX7_restore_11 rfl ?_
    refine gM_X7_0_0 C dX7_restore_12 ?_
    refine vi_aload_n C 0 dX7_restore_15 rfl ?_
    refine gM_X7_0_2 C dX7_restore_16 ?_
    obtain ⟨u2b, hgu2, h⟩ := ob_bd h
    obtain ⟨u2, eu2, h⟩ := ob_nm h
    refine cM_copy_ship_saved C (mX5_copyFrom C.2.2.2.2.2.2.2.2.1 hgu2) eu2 ⟨Nat.le_of_ble_eq_true rfl, Nat.le_of_ble_eq_true rfl⟩ (Nat.le_of_ble_eq_true rfl) dX7_restore_19 ?_
    refine vi_aload_n C 0 dX7_restore_22 rfl ?_
    refine gM_X7_0_3 C dX7_restore_23 ?_
    obtain ⟨u3b, hgu3, h⟩ := ob_bd h
    obtain ⟨u3, eu3, h⟩ := ob_nm h
    refine cM_hi_v (As := []) (rest := []) C (mX2_forget C.2.2.2.2.2.2.2.2.1 hgu3) 0 rfl tcX2_forget tlX7_321 tiX2_forget tsX2_forget rfl tnX2 tdX2_forget ⟨Nat.le_of_ble_eq_true rfl, Nat.le_of_ble_eq_true rfl⟩ eu3 rfl (Nat.le_of_ble_eq_true rfl) dX7_restore_26 ?_
    refine vi_aload_n C 0 dX7_restore_29 rfl ?_
    refine gM_X7_0_0 C dX7_restore_30 ?_
    refine gM_X7_1_0 C dX7_restore_33 ?_
    exact vi_donei (W := wX q0 qs qo qt qv qr qx ql ad qh cI cF cC cS cO) RET h dX7_restore_36
  · have h := ob_t h hc1
    refine vi_ldcw (v := (-100003)) C dX7_restore_7 tkX7_300 ?_
    exact vi_donei (W := wX q0 qs qo qt qv qr qx ql ad qh cI cF cC cS cO) RET h dX7_restore_10
theorem mX7_restore {ad adK adV : Nat → Nat} {tS tF : Nat} {tX sK sV : Nat → Nat} (hE : vEok (vE ad adK adV tS tF tX sK sV)) {l : Launch} {D : va_G} {cI cF cC cS cO cB cZ : ClassId} {q0 qs qo qt qv qr qx ql : Nat → Nat} {qh : Nat → Nat → Nat} {r0 : Int32} {u0 : vZ}  {u : vZ} (h : fX7_restore u = some (r0, u0)) : vM (vE ad adK adV tS tF tX sK sV) l yX7_restore cX7_restore 1 (some .int) 2 81 D (vT7 cI cF cC cS cO cB cZ) [.ref (q0 0)] (wX q0 qs qo qt qv qr qx ql ad qh cI cF cC cS cO u) (vQi D (wX q0 qs qo qt qv qr qx ql ad qh cI cF cC cS cO u0) r0) :=
  vM_of hE (by decide +kernel) (Nat.le_of_ble_eq_true rfl) (fun p e s m args below meth c A C hr => kX7_restore_e C (vi_reti C hr) h)
