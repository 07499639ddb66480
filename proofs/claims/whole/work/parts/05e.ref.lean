-- ---- X8_highest
def fX8_highest_64 (rec_2 : Int32 → Int32 → vS → Option (Int32 × vS)) (rec_17 : Int32 → Int32 → Int32 → Int32 → vS → Option (Int32 × vS)) (x1 : Int32) (x2 : Int32) (x3 : Int32) (x4 : Int32) (x5 : Int32) (u : vS) : Option (Int32 × vS) := (if x4 = x2 then bd ((x3 + (0 : Int32) : Int32)) fun y2 => bd ((x4 + 1 : Int32)) fun y3 => rec_17 x1 x2 y2 y3 u else (if 0 < x5 then bd ((x3 + (1 : Int32) : Int32)) fun y5 => bd ((x4 + 1 : Int32)) fun y6 => rec_17 x1 x2 y5 y6 u else (if x5 = 0 then (if x2 ≤ x4 then bd ((x3 + (0 : Int32) : Int32)) fun y11 => bd ((x4 + 1 : Int32)) fun y12 => rec_17 x1 x2 y11 y12 u else bd ((x3 + (1 : Int32) : Int32)) fun y13 => bd ((x4 + 1 : Int32)) fun y14 => rec_17 x1 x2 y13 y14 u) else bd ((x3 + (0 : Int32) : Int32)) fun y8 => bd ((x4 + 1 : Int32)) fun y9 => rec_17 x1 x2 y8 y9 u)))
set_option maxRecDepth 100000 in
set_option maxHeartbeats 4000000 in
theorem kX8_highest_64 {E : (Nat → Prop) → State → Heap → Prop} {p : Program} {l : Launch} {e : Env} {s : State} {m : MethodId} {args : Array Value} {below : List Frame} {meth : Method} {c : Code} {A : Nat → Prop} {D : va_G} {cI cF cC cS cO : ClassId} {Q : State → Prop} {q : Nat → Nat} (C : vC E p l s m args meth c A D (vT5 cI cF cC cS cO) cX8_highest 6 RX8) {r0 : Int32} {u0 : vS} (RET : ∀ (pc : Nat) (lv : List (Nat × Value)), decode cX8_highest pc = .ok (.ireturn, 1) → vV p l e { frames := 3, cells := 0, slots := 0, locals := 64 } s m args below meth c A D 6 0 0 Q (wR q cI u0) pc lv [.int r0]) {rec_2 : Int32 → Int32 → vS → Option (Int32 × vS)} (REC_2 : ∀ (x1 : Int32) (x2 : Int32) (u : vS), rec_2 x1 x2 u = some (r0, u0) → vV p l e { frames := 3, cells := 0, slots := 0, locals := 64 } s m args below meth c A D 6 0 0 Q (wR q cI u) 2 [(0, .ref (q 0)), (1, .int x1), (2, .int x2)] []) {rec_17 : Int32 → Int32 → Int32 → Int32 → vS → Option (Int32 × vS)} (REC_17 : ∀ (x1 : Int32) (x2 : Int32) (x3 : Int32) (x4 : Int32) (u : vS), rec_17 x1 x2 x3 x4 u = some (r0, u0) → vV p l e { frames := 3, cells := 0, slots := 0, locals := 64 } s m args below meth c A D 6 0 0 Q (wR q cI u) 17 [(0, .ref (q 0)), (1, .int x1), (2, .int x2), (3, .int x3), (4, .int x4)] []) : ∀ (x1 : Int32) (x2 : Int32) (x3 : Int32) (x4 : Int32) (x5 : Int32) (u : vS), fX8_highest_64 rec_2 rec_17 x1 x2 x3 x4 x5 u = some (r0, u0) → vV p l e { frames := 3, cells := 0, slots := 0, locals := 64 } s m args below meth c A D 6 0 0 Q (wR q cI u) 64 [(0, .ref (q 0)), (1, .int x1), (2, .int x2), (3, .int x3), (4, .int x4)] [.int x5] := by
  intro x1 x2 x3 x4 x5 u h
  rw [fX8_highest_64] at h
  refine vi_istore (lv' := [(5, .int x5), (0, .ref (q 0)), (1, .int x1), (2, .int x2), (3, .int x3), (4, .int x4)]) C dX8_highest_64 (by decide) rfl ?_
  refine vi_iload_n C 4 dX8_highest_66 rfl ?_
  refine vi_iload C 5 dX8_highest_67 rfl ?_
  refine vi_iload_n C 3 dX8_highest_69 rfl ?_
  refine vi_icmp_eq (tgt := 93) C dX8_highest_70 (by decide) (fun hc1 => ?_) (fun hc1 => ?_)
  · have h := ob_t h hc1
    refine vi_iconst (v := 0) C dX8_highest_93 (by decide) ?_
    refine vi_iadd C dX8_highest_94 ?_
    obtain ⟨y2, ey2, h⟩ := ob_nm h
    refine vi_nmi ey2 ?_
    refine vi_istore_n (lv' := [(3, .int y2), (5, .int x5), (0, .ref (q 0)), (1, .int x1), (2, .int x2), (4, .int x4)]) C dX8_highest_95 rfl (by decide) rfl ?_
    obtain ⟨y3, ey3, h⟩ := ob_nm h
    refine vi_iinc (v := y3) (lv' := [(4, .int y3), (3, .int y2), (5, .int x5), (0, .ref (q 0)), (1, .int x1), (2, .int x2)]) C 5 dX8_highest_96 rfl (by rw [ey3]; rfl) (by decide) rfl ?_
    refine vi_goto (tgt := 17) C dX8_highest_99 (by decide) ?_
    refine vi_sub C [3, 4, 5, 1, 0] rfl ?_
    exact REC_17 _ _ _ _ _ h
  · have h := ob_f h hc1
    refine vi_iload C 0 dX8_highest_73 rfl ?_
    refine vi_if_gt (tgt := 89) C dX8_highest_75 (by decide) (fun hc4 => ?_) (fun hc4 => ?_)
    · have h := ob_t h hc4
      refine vi_iconst (v := 1) C dX8_highest_89 (by decide) ?_
      refine vi_goto (tgt := 94) C dX8_highest_90 (by decide) ?_
      refine vi_iadd C dX8_highest_94 ?_
      obtain ⟨y5, ey5, h⟩ := ob_nm h
      refine vi_nmi ey5 ?_
      refine vi_istore_n (lv' := [(3, .int y5), (5, .int x5), (0, .ref (q 0)), (1, .int x1), (2, .int x2), (4, .int x4)]) C dX8_highest_95 rfl (by decide) rfl ?_
      obtain ⟨y6, ey6, h⟩ := ob_nm h
      refine vi_iinc (v := y6) (lv' := [(4, .int y6), (3, .int y5), (5, .int x5), (0, .ref (q 0)), (1, .int x1), (2, .int x2)]) C 5 dX8_highest_96 rfl (by rw [ey6]; rfl) (by decide) rfl ?_
      refine vi_goto (tgt := 17) C dX8_highest_99 (by decide) ?_
      refine vi_sub C [3, 4, 5, 1, 0] rfl ?_
      exact REC_17 _ _ _ _ _ h
    · have h := ob_f h hc4
      refine vi_iload C 0 dX8_highest_78 rfl ?_
      refine vi_if_ne (tgt := 93) C dX8_highest_80 (by decide) (fun hc7 => ?_) (fun hc7 => ?_)
      · have h := ob_f h hc7
        refine vi_iconst (v := 0) C dX8_highest_93 (by decide) ?_
        refine vi_iadd C dX8_highest_94 ?_
        obtain ⟨y8, ey8, h⟩ := ob_nm h
        refine vi_nmi ey8 ?_
        refine vi_istore_n (lv' := [(3, .int y8), (5, .int x5), (0, .ref (q 0)), (1, .int x1), (2, .int x2), (4, .int x4)]) C dX8_highest_95 rfl (by decide) rfl ?_
        obtain ⟨y9, ey9, h⟩ := ob_nm h
        refine vi_iinc (v := y9) (lv' := [(4, .int y9), (3, .int y8), (5, .int x5), (0, .ref (q 0)), (1, .int x1), (2, .int x2)]) C 5 dX8_highest_96 rfl (by rw [ey9]; rfl) (by decide) rfl ?_
        refine vi_goto (tgt := 17) C dX8_highest_99 (by decide) ?_
        refine vi_sub C [3, 4, 5, 1, 0] rfl ?_
        exact REC_17 _ _ _ _ _ h
      · have h := ob_t h hc7
        refine vi_iload C 5 dX8_highest_83 rfl ?_
        refine vi_iload_n C 3 dX8_highest_85 rfl ?_
        refine vi_icmp_ge (tgt := 93) C dX8_highest_86 (by decide) (fun hc10 => ?_) (fun hc10 => ?_)
        · have h := ob_t h hc10
          refine vi_iconst (v := 0) C dX8_highest_93 (by decide) ?_
          refine vi_iadd C dX8_highest_94 ?_
          obtain ⟨y11, ey11, h⟩ := ob_nm h
          refine vi_nmi ey11 ?_
          refine vi_istore_n (lv' := [(3, .int y11), (5, .int x5), (0, .ref (q 0)), (1, .int x1), (2, .int x2), (4, .int x4)]) C dX8_highest_95 rfl (by decide) rfl ?_
          obtain ⟨y12, ey12, h⟩ := ob_nm h
          refine vi_iinc (v := y12) (lv' := [(4, .int y12), (3, .int y11), (5, .int x5), (0, .ref (q 0)), (1, .int x1), (2, .int x2)]) C 5 dX8_highest_96 rfl (by rw [ey12]; rfl) (by decide) rfl ?_
          refine vi_goto (tgt := 17) C dX8_highest_99 (by decide) ?_
          refine vi_sub C [3, 4, 5, 1, 0] rfl ?_
          exact REC_17 _ _ _ _ _ h
        · have h := ob_f h hc10
          refine vi_iconst (v := 1) C dX8_highest_89 (by decide) ?_
          refine vi_goto (tgt := 94) C dX8_highest_90 (by decide) ?_
          refine vi_iadd C dX8_highest_94 ?_
          obtain ⟨y13, ey13, h⟩ := ob_nm h
          refine vi_nmi ey13 ?_
          refine vi_istore_n (lv' := [(3, .int y13), (5, .int x5), (0, .ref (q 0)), (1, .int x1), (2, .int x2), (4, .int x4)]) C dX8_highest_95 rfl (by decide) rfl ?_
          obtain ⟨y14, ey14, h⟩ := ob_nm h
          refine vi_iinc (v := y14) (lv' := [(4, .int y14), (3, .int y13), (5, .int x5), (0, .ref (q 0)), (1, .int x1), (2, .int x2)]) C 5 dX8_highest_96 rfl (by rw [ey14]; rfl) (by decide) rfl ?_
          refine vi_goto (tgt := 17) C dX8_highest_99 (by decide) ?_
          refine vi_sub C [3, 4, 5, 1, 0] rfl ?_
          exact REC_17 _ _ _ _ _ h
def fX8_highest_17 : Nat → (Int32 → Int32 → vS → Option (Int32 × vS)) → Int32 → Int32 → Int32 → Int32 → vS → Option (Int32 × vS)
  | 0, _, _, _, _, _, _ => none
  | n + 1, rec_2, x1, x2, x3, x4, u => (if u 1 0 ≤ x4 then (if x3 = x1 then some (x2, u) else bd ((x2 + 1 : Int32)) fun y3 => rec_2 x1 y3 u) else obp (fX8_angled x4 u) fun y5 u4 => obp (fX8_angled x2 u4) fun y7 u6 => bd ((y5 - y7 : Int32)) fun y8 => (if y8 = 0 then obp (fX8_cheer x4 u6) fun y11 u10 => obp (fX8_cheer x2 u10) fun y13 u12 => fX8_highest_64 rec_2 (fun a0 a1 a2 a3 a4 => fX8_highest_17 n rec_2 a0 a1 a2 a3 a4) x1 x2 x3 x4 (y11 - y13) u12 else fX8_highest_64 rec_2 (fun a0 a1 a2 a3 a4 => fX8_highest_17 n rec_2 a0 a1 a2 a3 a4) x1 x2 x3 x4 y8 u6))
set_option maxRecDepth 100000 in
set_option maxHeartbeats 4000000 in
theorem kX8_highest_17 {E : (Nat → Prop) → State → Heap → Prop} {p : Program} {l : Launch} {e : Env} {s : State} {m : MethodId} {args : Array Value} {below : List Frame} {meth : Method} {c : Code} {A : Nat → Prop} {D : va_G} {cI cF cC cS cO : ClassId} {Q : State → Prop} {q : Nat → Nat} (C : vC E p l s m args meth c A D (vT5 cI cF cC cS cO) cX8_highest 6 RX8) {r0 : Int32} {u0 : vS} (RET : ∀ (pc : Nat) (lv : List (Nat × Value)), decode cX8_highest pc = .ok (.ireturn, 1) → vV p l e { frames := 3, cells := 0, slots := 0, locals := 64 } s m args below meth c A D 6 0 0 Q (wR q cI u0) pc lv [.int r0]) {rec_2 : Int32 → Int32 → vS → Option (Int32 × vS)} (REC_2 : ∀ (x1 : Int32) (x2 : Int32) (u : vS), rec_2 x1 x2 u = some (r0, u0) → vV p l e { frames := 3, cells := 0, slots := 0, locals := 64 } s m args below meth c A D 6 0 0 Q (wR q cI u) 2 [(0, .ref (q 0)), (1, .int x1), (2, .int x2)] []) : ∀ (n : Nat) (x1 : Int32) (x2 : Int32) (x3 : Int32) (x4 : Int32) (u : vS), fX8_highest_17 n rec_2 x1 x2 x3 x4 u = some (r0, u0) → vV p l e { frames := 3, cells := 0, slots := 0, locals := 64 } s m args below meth c A D 6 0 0 Q (wR q cI u) 17 [(0, .ref (q 0)), (1, .int x1), (2, .int x2), (3, .int x3), (4, .int x4)] [] := by
  intro n
  induction n with
  | zero => intro x1 x2 x3 x4 u h; rw [fX8_highest_17] at h; cases h
  | succ n ih =>
    intro x1 x2 x3 x4 u h
    rw [fX8_highest_17] at h
    refine vi_iload C 4 dX8_highest_17 rfl ?_
    refine vi_aload_n C 0 dX8_highest_19 rfl ?_
    refine gR_8 C dX8_highest_20 ?_
    refine vi_iconst (v := 0) C dX8_highest_23 (by decide) ?_
    refine lR_1 (n := 0) C (by decide) rfl dX8_highest_24 ?_
    refine vi_icmp_ge (tgt := 102) C dX8_highest_25 (by decide) (fun hc1 => ?_) (fun hc1 => ?_)
    · have h := ob_t h hc1
      refine vi_iload_n C 3 dX8_highest_102 rfl ?_
      refine vi_iload_n C 1 dX8_highest_103 rfl ?_
      refine vi_icmp_ne (tgt := 109) C dX8_highest_104 (by decide) (fun hc2 => ?_) (fun hc2 => ?_)
      · have h := ob_f h hc2
        obtain ⟨y3, ey3, h⟩ := ob_nm h
        refine vi_iinc (v := y3) (lv' := [(2, .int y3), (0, .ref (q 0)), (1, .int x1), (3, .int x3), (4, .int x4)]) C 2 dX8_highest_109 rfl (by rw [ey3]; rfl) (by decide) rfl ?_
        refine vi_goto (tgt := 2) C dX8_highest_112 (by decide) ?_
        refine vi_sub C [1, 2, 0] rfl ?_
        exact REC_2 _ _ _ h
      · have h := ob_t h hc2
        refine vi_iload_n C 2 dX8_highest_107 rfl ?_
        exact vi_donei (W := wR q cI) RET h dX8_highest_108
    · have h := ob_f h hc1
      refine vi_aload_n C 0 dX8_highest_28 rfl ?_
      refine vi_iload C 4 dX8_highest_29 rfl ?_
      obtain ⟨y5, u4, hgu4, h⟩ := ob_p h
      refine vR_calli (As := [.int x4]) (rest := []) C (mX8_angled C.2.2.2.2.2.2.2.2.1 hgu4) 1 rfl tcX8_angled tlX8_86 tiX8_angled tsX8_angled rfl tnX8 tdX8_angled ⟨Nat.le_of_ble_eq_true rfl, Nat.le_of_ble_eq_true rfl⟩ rfl (Nat.le_of_ble_eq_true rfl) dX8_highest_31 ?_
      refine vi_aload_n C 0 dX8_highest_34 rfl ?_
      refine vi_iload_n C 2 dX8_highest_35 rfl ?_
      obtain ⟨y7, u6, hgu6, h⟩ := ob_p h
      refine vR_calli (As := [.int x2]) (rest := [.int y5]) C (mX8_angled C.2.2.2.2.2.2.2.2.1 hgu6) 1 rfl tcX8_angled tlX8_86 tiX8_angled tsX8_angled rfl tnX8 tdX8_angled ⟨Nat.le_of_ble_eq_true rfl, Nat.le_of_ble_eq_true rfl⟩ rfl (Nat.le_of_ble_eq_true rfl) dX8_highest_36 ?_
      refine vi_isub C dX8_highest_39 ?_
      obtain ⟨y8, ey8, h⟩ := ob_nm h
      refine vi_nmi ey8 ?_
      refine vi_istore (lv' := [(5, .int y8), (0, .ref (q 0)), (1, .int x1), (2, .int x2), (3, .int x3), (4, .int x4)]) C dX8_highest_40 (by decide) rfl ?_
      refine vi_iload C 0 dX8_highest_42 rfl ?_
      refine vi_if_eq (tgt := 52) C dX8_highest_44 (by decide) (fun hc9 => ?_) (fun hc9 => ?_)
      · have h := ob_t h hc9
        refine vi_aload_n C 1 dX8_highest_52 rfl ?_
        refine vi_iload C 5 dX8_highest_53 rfl ?_
        obtain ⟨y11, u10, hgu10, h⟩ := ob_p h
        refine vR_calli (As := [.int x4]) (rest := []) C (mX8_cheer C.2.2.2.2.2.2.2.2.1 hgu10) 1 rfl tcX8_cheer tlX8_80 tiX8_cheer tsX8_cheer rfl tnX8 tdX8_cheer ⟨Nat.le_of_ble_eq_true rfl, Nat.le_of_ble_eq_true rfl⟩ rfl (Nat.le_of_ble_eq_true rfl) dX8_highest_55 ?_
        refine vi_aload_n C 1 dX8_highest_58 rfl ?_
        refine vi_iload_n C 3 dX8_highest_59 rfl ?_
        obtain ⟨y13, u12, hgu12, h⟩ := ob_p h
        refine vR_calli (As := [.int x2]) (rest := [.int y11]) C (mX8_cheer C.2.2.2.2.2.2.2.2.1 hgu12) 1 rfl tcX8_cheer tlX8_80 tiX8_cheer tsX8_cheer rfl tnX8 tdX8_cheer ⟨Nat.le_of_ble_eq_true rfl, Nat.le_of_ble_eq_true rfl⟩ rfl (Nat.le_of_ble_eq_true rfl) dX8_highest_60 ?_
        refine vi_isub C dX8_highest_63 ?_
        refine vi_sub C [1, 2, 3, 4, 5] rfl ?_
        exact kX8_highest_64 C RET REC_2 ih  _ _ _ _ _ _ h
      · have h := ob_f h hc9
        refine vi_iload C 0 dX8_highest_47 rfl ?_
        refine vi_goto (tgt := 64) C dX8_highest_49 (by decide) ?_
        refine vi_sub C [1, 2, 3, 4, 5] rfl ?_
        exact kX8_highest_64 C RET REC_2 ih  _ _ _ _ _ _ h
def fX8_highest_2 : Nat → Int32 → Int32 → vS → Option (Int32 × vS)
  | 0, _, _, _ => none
  | n + 1, x1, x2, u => (if u 1 0 ≤ x2 then some ((-100001 : Int32), u) else fX8_highest_17 vF (fun a0 a1 a2 => fX8_highest_2 n  a0 a1 a2) x1 x2 (0 : Int32) (0 : Int32) u)
set_option maxRecDepth 100000 in
set_option maxHeartbeats 4000000 in
theorem kX8_highest_2 {E : (Nat → Prop) → State → Heap → Prop} {p : Program} {l : Launch} {e : Env} {s : State} {m : MethodId} {args : Array Value} {below : List Frame} {meth : Method} {c : Code} {A : Nat → Prop} {D : va_G} {cI cF cC cS cO : ClassId} {Q : State → Prop} {q : Nat → Nat} (C : vC E p l s m args meth c A D (vT5 cI cF cC cS cO) cX8_highest 6 RX8) {r0 : Int32} {u0 : vS} (RET : ∀ (pc : Nat) (lv : List (Nat × Value)), decode cX8_highest pc = .ok (.ireturn, 1) → vV p l e { frames := 3, cells := 0, slots := 0, locals := 64 } s m args below meth c A D 6 0 0 Q (wR q cI u0) pc lv [.int r0]) : ∀ (n : Nat) (x1 : Int32) (x2 : Int32) (u : vS), fX8_highest_2 n x1 x2 u = some (r0, u0) → vV p l e { frames := 3, cells := 0, slots := 0, locals := 64 } s m args below meth c A D 6 0 0 Q (wR q cI u) 2 [(0, .ref (q 0)), (1, .int x1), (2, .int x2)] [] := by
  intro n
  induction n with
  | zero => intro x1 x2 u h; rw [fX8_highest_2] at h; cases h
  | succ n ih =>
    intro x1 x2 u h
    rw [fX8_highest_2] at h
    refine vi_iload_n C 2 dX8_highest_2 rfl ?_
    refine vi_aload_n C 0 dX8_highest_3 rfl ?_
    refine gR_8 C dX8_highest_4 ?_
    refine vi_iconst (v := 0) C dX8_highest_7 (by decide) ?_
    refine lR_1 (n := 0) C (by decide) rfl dX8_highest_8 ?_
    refine vi_icmp_ge (tgt := 115) C dX8_highest_9 (by decide) (fun hc1 => ?_) (fun hc1 => ?_)
    · have h := ob_t h hc1
      refine vi_ldc (v := (-100001)) C dX8_highest_115 tkX8_111 ?_
      exact vi_donei (W := wR q cI) RET h dX8_highest_117
    · have h := ob_f h hc1
      refine vi_iconst (v := 0) C dX8_highest_12 (by decide) ?_
      refine vi_istore_n (lv' := [(3, .int (0 : Int32)), (0, .ref (q 0)), (1, .int x1), (2, .int x2)]) C dX8_highest_13 rfl (by decide) rfl ?_
      refine vi_iconst (v := 0) C dX8_highest_14 (by decide) ?_
      refine vi_istore (lv' := [(4, .int (0 : Int32)), (3, .int (0 : Int32)), (0, .ref (q 0)), (1, .int x1), (2, .int x2)]) C dX8_highest_15 (by decide) rfl ?_
      refine vi_sub C [2, 3, 4, 1, 0] rfl ?_
      exact kX8_highest_17 C RET ih vF _ _ _ _ _ h
def fX8_highest (x1 : Int32) (u : vS) : Option (Int32 × vS) := fX8_highest_2 vF x1 (0 : Int32) u
set_option maxRecDepth 100000 in
set_option maxHeartbeats 4000000 in
theorem kX8_highest_e {E : (Nat → Prop) → State → Heap → Prop} {p : Program} {l : Launch} {e : Env} {s : State} {m : MethodId} {args : Array Value} {below : List Frame} {meth : Method} {c : Code} {A : Nat → Prop} {D : va_G} {cI cF cC cS cO : ClassId} {Q : State → Prop} {q : Nat → Nat} (C : vC E p l s m args meth c A D (vT5 cI cF cC cS cO) cX8_highest 6 RX8) {r0 : Int32} {u0 : vS} (RET : ∀ (pc : Nat) (lv : List (Nat × Value)), decode cX8_highest pc = .ok (.ireturn, 1) → vV p l e { frames := 3, cells := 0, slots := 0, locals := 64 } s m args below meth c A D 6 0 0 Q (wR q cI u0) pc lv [.int r0]) {x1 : Int32} {u : vS} (h : fX8_highest x1 u = some (r0, u0)) : vV p l e { frames := 3, cells := 0, slots := 0, locals := 64 } s m args below meth c A D 6 0 0 Q (wR q cI u) 0 [(0, .ref (q 0)), (1, .int x1)] [] := by
  rw [fX8_highest] at h
  refine vi_iconst (v := 0) C dX8_highest_0 (by decide) ?_
  refine vi_istore_n (lv' := [(2, .int (0 : Int32)), (0, .ref (q 0)), (1, .int x1)]) C dX8_highest_1 rfl (by decide) rfl ?_
  refine vi_sub C [1, 2, 0] rfl ?_
  exact kX8_highest_2 C RET  vF _ _ _ h
theorem mX8_highest {E : (Nat → Prop) → State → Heap → Prop} (hE : vEok E) {l : Launch} {D : va_G} {cI cF cC cS cO : ClassId} {q : Nat → Nat} {r0 : Int32} {u0 : vS}  {x1 : Int32} {u : vS} (h : fX8_highest x1 u = some (r0, u0)) : vM E l yX8_highest cX8_highest 6 (some .int) 3 64 D (vT5 cI cF cC cS cO) [.ref (q 0), .int x1] (wR q cI u) (vQi D (wR q cI u0) r0) :=
  vM_of hE (by decide +kernel) (Nat.le_of_ble_eq_true rfl) (fun p e s m args below meth c A C hr => kX8_highest_e C (vi_reti C hr) h)
-- ---- X8_ranked
def fX8_ranked_17 : Nat → (Int32 → Int32 → vS → Option (Int32 × vS)) → Int32 → Int32 → Int32 → Int32 → vS → Option (Int32 × vS)
  | 0, _, _, _, _, _, _ => none
  | n + 1, rec_2, x1, x2, x3, x4, u => (if u 1 3 ≤ x4 then (if x3 = x1 then some (x2, u) else bd ((x2 + 1 : Int32)) fun y3 => rec_2 x1 y3 u) else obp (fX8_value x4 u) fun y5 u4 => obp (fX8_value x2 u4) fun y7 u6 => (if 0 < Op.cmpValue (FP.fcmp y5 y7) CmpOp.l then bd ((x3 + (1 : Int32) : Int32)) fun y9 => bd ((x4 + 1 : Int32)) fun y10 => fX8_ranked_17 n rec_2 x1 x2 y9 y10 u6 else obp (fX8_value x4 u6) fun y12 u11 => obp (fX8_value x2 u11) fun y14 u13 => (if Op.cmpValue (FP.fcmp y12 y14) CmpOp.l = 0 then (if x2 ≤ x4 then bd ((x3 + (0 : Int32) : Int32)) fun y19 => bd ((x4 + 1 : Int32)) fun y20 => fX8_ranked_17 n rec_2 x1 x2 y19 y20 u13 else bd ((x3 + (1 : Int32) : Int32)) fun y21 => bd ((x4 + 1 : Int32)) fun y22 => fX8_ranked_17 n rec_2 x1 x2 y21 y22 u13) else bd ((x3 + (0 : Int32) : Int32)) fun y16 => bd ((x4 + 1 : Int32)) fun y17 => fX8_ranked_17 n rec_2 x1 x2 y16 y17 u13)))
set_option maxRecDepth 100000 in
set_option maxHeartbeats 4000000 in
theorem kX8_ranked_17 {E : (Nat → Prop) → State → Heap → Prop} {p : Program} {l : Launch} {e : Env} {s : State} {m : MethodId} {args : Array Value} {below : List Frame} {meth : Method} {c : Code} {A : Nat → Prop} {D : va_G} {cI cF cC cS cO : ClassId} {Q : State → Prop} {q : Nat → Nat} (C : vC E p l s m args meth c A D (vT5 cI cF cC cS cO) cX8_ranked 5 RX8) {r0 : Int32} {u0 : vS} (RET : ∀ (pc : Nat) (lv : List (Nat × Value)), decode cX8_ranked pc = .ok (.ireturn, 1) → vV p l e { frames := 2, cells := 0, slots := 0, locals := 36 } s m args below meth c A D 5 0 0 Q (wR q cI u0) pc lv [.int r0]) {rec_2 : Int32 → Int32 → vS → Option (Int32 × vS)} (REC_2 : ∀ (x1 : Int32) (x2 : Int32) (u : vS), rec_2 x1 x2 u = some (r0, u0) → vV p l e { frames := 2, cells := 0, slots := 0, locals := 36 } s m args below meth c A D 5 0 0 Q (wR q cI u) 2 [(0, .ref (q 0)), (1, .int x1), (2, .int x2)] []) : ∀ (n : Nat) (x1 : Int32) (x2 : Int32) (x3 : Int32) (x4 : Int32) (u : vS), fX8_ranked_17 n rec_2 x1 x2 x3 x4 u = some (r0, u0) → vV p l e { frames := 2, cells := 0, slots := 0, locals := 36 } s m args below meth c A D 5 0 0 Q (wR q cI u) 17 [(0, .ref (q 0)), (1, .int x1), (2, .int x2), (3, .int x3), (4, .int x4)] [] := by
  intro n
  induction n with
  | zero => intro x1 x2 x3 x4 u h; rw [fX8_ranked_17] at h; cases h
  | succ n ih =>
    intro x1 x2 x3 x4 u h
    rw [fX8_ranked_17] at h
    refine vi_iload C 4 dX8_ranked_17 rfl ?_
    refine vi_aload_n C 0 dX8_ranked_19 rfl ?_
    refine gR_8 C dX8_ranked_20 ?_
    refine vi_iconst (v := 3) C dX8_ranked_23 (by decide) ?_
    refine lR_1 (n := 3) C (by decide) rfl dX8_ranked_24 ?_
    refine vi_icmp_ge (tgt := 78) C dX8_ranked_25 (by decide) (fun hc1 => ?_) (fun hc1 => ?_)
    · have h := ob_t h hc1
      refine vi_iload_n C 3 dX8_ranked_78 rfl ?_
      refine vi_iload_n C 1 dX8_ranked_79 rfl ?_
      refine vi_icmp_ne (tgt := 85) C dX8_ranked_80 (by decide) (fun hc2 => ?_) (fun hc2 => ?_)
      · have h := ob_f h hc2
        obtain ⟨y3, ey3, h⟩ := ob_nm h
        refine vi_iinc (v := y3) (lv' := [(2, .int y3), (0, .ref (q 0)), (1, .int x1), (3, .int x3), (4, .int x4)]) C 2 dX8_ranked_85 rfl (by rw [ey3]; rfl) (by decide) rfl ?_
        refine vi_goto (tgt := 2) C dX8_ranked_88 (by decide) ?_
        refine vi_sub C [1, 2, 0] rfl ?_
        exact REC_2 _ _ _ h
      · have h := ob_t h hc2
        refine vi_iload_n C 2 dX8_ranked_83 rfl ?_
        exact vi_donei (W := wR q cI) RET h dX8_ranked_84
    · have h := ob_f h hc1
      refine vi_iload_n C 3 dX8_ranked_28 rfl ?_
      refine vi_aload_n C 0 dX8_ranked_29 rfl ?_
      refine vi_iload C 4 dX8_ranked_30 rfl ?_
      obtain ⟨y5, u4, hgu4, h⟩ := ob_p h
      refine vR_callf (As := [.int x4]) (rest := [.int x3]) C (mX8_value C.2.2.2.2.2.2.2.2.1 hgu4) 1 rfl tcX8_value tlX8_178 tiX8_value tsX8_value rfl tnX8 tdX8_value ⟨Nat.le_of_ble_eq_true rfl, Nat.le_of_ble_eq_true rfl⟩ rfl (Nat.le_of_ble_eq_true rfl) dX8_ranked_32 ?_
      refine vi_aload_n C 0 dX8_ranked_35 rfl ?_
      refine vi_iload_n C 2 dX8_ranked_36 rfl ?_
      obtain ⟨y7, u6, hgu6, h⟩ := ob_p h
      refine vR_callf (As := [.int x2]) (rest := [.float y5, .int x3]) C (mX8_value C.2.2.2.2.2.2.2.2.1 hgu6) 1 rfl tcX8_value tlX8_178 tiX8_value tsX8_value rfl tnX8 tdX8_value ⟨Nat.le_of_ble_eq_true rfl, Nat.le_of_ble_eq_true rfl⟩ rfl (Nat.le_of_ble_eq_true rfl) dX8_ranked_37 ?_
      refine vi_fcmp C dX8_ranked_40 ?_
      refine vi_if_gt (tgt := 65) C dX8_ranked_41 (by decide) (fun hc8 => ?_) (fun hc8 => ?_)
      · have h := ob_t h hc8
        refine vi_iconst (v := 1) C dX8_ranked_65 (by decide) ?_
        refine vi_goto (tgt := 70) C dX8_ranked_66 (by decide) ?_
        refine vi_iadd C dX8_ranked_70 ?_
        obtain ⟨y9, ey9, h⟩ := ob_nm h
        refine vi_nmi ey9 ?_
        refine vi_istore_n (lv' := [(3, .int y9), (0, .ref (q 0)), (1, .int x1), (2, .int x2), (4, .int x4)]) C dX8_ranked_71 rfl (by decide) rfl ?_
        obtain ⟨y10, ey10, h⟩ := ob_nm h
        refine vi_iinc (v := y10) (lv' := [(4, .int y10), (3, .int y9), (0, .ref (q 0)), (1, .int x1), (2, .int x2)]) C 4 dX8_ranked_72 rfl (by rw [ey10]; rfl) (by decide) rfl ?_
        refine vi_goto (tgt := 17) C dX8_ranked_75 (by decide) ?_
        refine vi_sub C [2, 3, 4, 1, 0] rfl ?_
        exact ih _ _ _ _ _ h
      · have h := ob_f h hc8
        refine vi_aload_n C 0 dX8_ranked_44 rfl ?_
        refine vi_iload C 4 dX8_ranked_45 rfl ?_
        obtain ⟨y12, u11, hgu11, h⟩ := ob_p h
        refine vR_callf (As := [.int x4]) (rest := [.int x3]) C (mX8_value C.2.2.2.2.2.2.2.2.1 hgu11) 1 rfl tcX8_value tlX8_178 tiX8_value tsX8_value rfl tnX8 tdX8_value ⟨Nat.le_of_ble_eq_true rfl, Nat.le_of_ble_eq_true rfl⟩ rfl (Nat.le_of_ble_eq_true rfl) dX8_ranked_47 ?_
        refine vi_aload_n C 0 dX8_ranked_50 rfl ?_
        refine vi_iload_n C 2 dX8_ranked_51 rfl ?_
        obtain ⟨y14, u13, hgu13, h⟩ := ob_p h
        refine vR_callf (As := [.int x2]) (rest := [.float y12, .int x3]) C (mX8_value C.2.2.2.2.2.2.2.2.1 hgu13) 1 rfl tcX8_value tlX8_178 tiX8_value tsX8_value rfl tnX8 tdX8_value ⟨Nat.le_of_ble_eq_true rfl, Nat.le_of_ble_eq_true rfl⟩ rfl (Nat.le_of_ble_eq_true rfl) dX8_ranked_52 ?_
        refine vi_fcmp C dX8_ranked_55 ?_
        refine vi_if_ne (tgt := 69) C dX8_ranked_56 (by decide) (fun hc15 => ?_) (fun hc15 => ?_)
        · have h := ob_f h hc15
          refine vi_iconst (v := 0) C dX8_ranked_69 (by decide) ?_
          refine vi_iadd C dX8_ranked_70 ?_
          obtain ⟨y16, ey16, h⟩ := ob_nm h
          refine vi_nmi ey16 ?_
          refine vi_istore_n (lv' := [(3, .int y16), (0, .ref (q 0)), (1, .int x1), (2, .int x2), (4, .int x4)]) C dX8_ranked_71 rfl (by decide) rfl ?_
          obtain ⟨y17, ey17, h⟩ := ob_nm h
          refine vi_iinc (v := y17) (lv' := [(4, .int y17), (3, .int y16), (0, .ref (q 0)), (1, .int x1), (2, .int x2)]) C 4 dX8_ranked_72 rfl (by rw [ey17]; rfl) (by decide) rfl ?_
          refine vi_goto (tgt := 17) C dX8_ranked_75 (by decide) ?_
          refine vi_sub C [2, 3, 4, 1, 0] rfl ?_
          exact ih _ _ _ _ _ h
        · have h := ob_t h hc15
          refine vi_iload C 4 dX8_ranked_59 rfl ?_
          refine vi_iload_n C 2 dX8_ranked_61 rfl ?_
          refine vi_icmp_ge (tgt := 69) C dX8_ranked_62 (by decide) (fun hc18 => ?_) (fun hc18 => ?_)
          · have h := ob_t h hc18
            refine vi_iconst (v := 0) C dX8_ranked_69 (by decide) ?_
            refine vi_iadd C dX8_ranked_70 ?_
            obtain ⟨y19, ey19, h⟩ := ob_nm h
            refine vi_nmi ey19 ?_
            refine vi_istore_n (lv' := [(3, .int y19), (0, .ref (q 0)), (1, .int x1), (2, .int x2), (4, .int x4)]) C dX8_ranked_71 rfl (by decide) rfl ?_
            obtain ⟨y20, ey20, h⟩ := ob_nm h
            refine vi_iinc (v := y20) (lv' := [(4, .int y20), (3, .int y19), (0, .ref (q 0)), (1, .int x1), (2, .int x2)]) C 4 dX8_ranked_72 rfl (by rw [ey20]; rfl) (by decide) rfl ?_
            refine vi_goto (tgt := 17) C dX8_ranked_75 (by decide) ?_
            refine vi_sub C [2, 3, 4, 1, 0] rfl ?_
            exact ih _ _ _ _ _ h
          · have h := ob_f h hc18
            refine vi_iconst (v := 1) C dX8_ranked_65 (by decide) ?_
            refine vi_goto (tgt := 70) C dX8_ranked_66 (by decide) ?_
            refine vi_iadd C dX8_ranked_70 ?_
            obtain ⟨y21, ey21, h⟩ := ob_nm h
            refine vi_nmi ey21 ?_
            refine vi_istore_n (lv' := [(3, .int y21), (0, .ref (q 0)), (1, .int x1), (2, .int x2), (4, .int x4)]) C dX8_ranked_71 rfl (by decide) rfl ?_
            obtain ⟨y22, ey22, h⟩ := ob_nm h
            refine vi_iinc (v := y22) (lv' := [(4, .int y22), (3, .int y21), (0, .ref (q 0)), (1, .int x1), (2, .int x2)]) C 4 dX8_ranked_72 rfl (by rw [ey22]; rfl) (by decide) rfl ?_
            refine vi_goto (tgt := 17) C dX8_ranked_75 (by decide) ?_
            refine vi_sub C [2, 3, 4, 1, 0] rfl ?_
            exact ih _ _ _ _ _ h
def fX8_ranked_2 : Nat → Int32 → Int32 → vS → Option (Int32 × vS)
  | 0, _, _, _ => none
  | n + 1, x1, x2, u => (if u 1 3 ≤ x2 then some ((-100001 : Int32), u) else fX8_ranked_17 vF (fun a0 a1 a2 => fX8_ranked_2 n  a0 a1 a2) x1 x2 (0 : Int32) (0 : Int32) u)
set_option maxRecDepth 100000 in
set_option maxHeartbeats 4000000 in
theorem kX8_ranked_2 {E : (Nat → Prop) → State → Heap → Prop} {p : Program} {l : Launch} {e : Env} {s : State} {m : MethodId} {args : Array Value} {below : List Frame} {meth : Method} {c : Code} {A : Nat → Prop} {D : va_G} {cI cF cC cS cO : ClassId} {Q : State → Prop} {q : Nat → Nat} (C : vC E p l s m args meth c A D (vT5 cI cF cC cS cO) cX8_ranked 5 RX8) {r0 : Int32} {u0 : vS} (RET : ∀ (pc : Nat) (lv : List (Nat × Value)), decode cX8_ranked pc = .ok (.ireturn, 1) → vV p l e { frames := 2, cells := 0, slots := 0, locals := 36 } s m args below meth c A D 5 0 0 Q (wR q cI u0) pc lv [.int r0]) : ∀ (n : Nat) (x1 : Int32) (x2 : Int32) (u : vS), fX8_ranked_2 n x1 x2 u = some (r0, u0) → vV p l e { frames := 2, cells := 0, slots := 0, locals := 36 } s m args below meth c A D 5 0 0 Q (wR q cI u) 2 [(0, .ref (q 0)), (1, .int x1), (2, .int x2)] [] := by
  intro n
  induction n with
  | zero => intro x1 x2 u h; rw [fX8_ranked_2] at h; cases h
  | succ n ih =>
    intro x1 x2 u h
    rw [fX8_ranked_2] at h
    refine vi_iload_n C 2 dX8_ranked_2 rfl ?_
    refine vi_aload_n C 0 dX8_ranked_3 rfl ?_
    refine gR_8 C dX8_ranked_4 ?_
    refine vi_iconst (v := 3) C dX8_ranked_7 (by decide) ?_
    refine lR_1 (n := 3) C (by decide) rfl dX8_ranked_8 ?_
    refine vi_icmp_ge (tgt := 91) C dX8_ranked_9 (by decide) (fun hc1 => ?_) (fun hc1 => ?_)
    · have h := ob_t h hc1
      refine vi_ldc (v := (-100001)) C dX8_ranked_91 tkX8_111 ?_
      exact vi_donei (W := wR q cI) RET h dX8_ranked_93
    · have h := ob_f h hc1
      refine vi_iconst (v := 0) C dX8_ranked_12 (by decide) ?_
      refine vi_istore_n (lv' := [(3, .int (0 : Int32)), (0, .ref (q 0)), (1, .int x1), (2, .int x2)]) C dX8_ranked_13 rfl (by decide) rfl ?_
      refine vi_iconst (v := 0) C dX8_ranked_14 (by decide) ?_
      refine vi_istore (lv' := [(4, .int (0 : Int32)), (3, .int (0 : Int32)), (0, .ref (q 0)), (1, .int x1), (2, .int x2)]) C dX8_ranked_15 (by decide) rfl ?_
      refine vi_sub C [2, 3, 4, 1, 0] rfl ?_
      exact kX8_ranked_17 C RET ih vF _ _ _ _ _ h
def fX8_ranked (x1 : Int32) (u : vS) : Option (Int32 × vS) := fX8_ranked_2 vF x1 (0 : Int32) u
set_option maxRecDepth 100000 in
set_option maxHeartbeats 4000000 in
theorem kX8_ranked_e {E : (Nat → Prop) → State → Heap → Prop} {p : Program} {l : Launch} {e : Env} {s : State} {m : MethodId} {args : Array Value} {below : List Frame} {meth : Method} {c : Code} {A : Nat → Prop} {D : va_G} {cI cF cC cS cO : ClassId} {Q : State → Prop} {q : Nat → Nat} (C : vC E p l s m args meth c A D (vT5 cI cF cC cS cO) cX8_ranked 5 RX8) {r0 : Int32} {u0 : vS} (RET : ∀ (pc : Nat) (lv : List (Nat × Value)), decode cX8_ranked pc = .ok (.ireturn, 1) → vV p l e { frames := 2, cells := 0, slots := 0, locals := 36 } s m args below meth c A D 5 0 0 Q (wR q cI u0) pc lv [.int r0]) {x1 : Int32} {u : vS} (h : fX8_ranked x1 u = some (r0, u0)) : vV p l e { frames := 2, cells := 0, slots := 0, locals := 36 } s m args below meth c A D 5 0 0 Q (wR q cI u) 0 [(0, .ref (q 0)), (1, .int x1)] [] := by
  rw [fX8_ranked] at h
  refine vi_iconst (v := 0) C dX8_ranked_0 (by decide) ?_
  refine vi_istore_n (lv' := [(2, .int (0 : Int32)), (0, .ref (q 0)), (1, .int x1)]) C dX8_ranked_1 rfl (by decide) rfl ?_
  refine vi_sub C [1, 2, 0] rfl ?_
  exact kX8_ranked_2 C RET  vF _ _ _ h
theorem mX8_ranked {E : (Nat → Prop) → State → Heap → Prop} (hE : vEok E) {l : Launch} {D : va_G} {cI cF cC cS cO : ClassId} {q : Nat → Nat} {r0 : Int32} {u0 : vS}  {x1 : Int32} {u : vS} (h : fX8_ranked x1 u = some (r0, u0)) : vM E l yX8_ranked cX8_ranked 5 (some .int) 2 36 D (vT5 cI cF cC cS cO) [.ref (q 0), .int x1] (wR q cI u) (vQi D (wR q cI u0) r0) :=
  vM_of hE (by decide +kernel) (Nat.le_of_ble_eq_true rfl) (fun p e s m args below meth c A C hr => kX8_ranked_e C (vi_reti C hr) h)
-- ---- X8_packed
def fX8_packed_4 : Nat → Int64 → Int32 → vS → Option (Int64 × vS)
  | 0, _, _, _ => none
  | n + 1, x1, x2, u => (if x2 < 0 then some (x1, u) else (if u 1 0 ≤ x2 then bd (((x1 <<< (Int32.toInt64 (16 : Int32) &&& 63)) ||| (Int32.toInt64 (0 : Int32)) : Int64)) fun y3 => bd ((x2 + (-1) : Int32)) fun y4 => fX8_packed_4 n y3 y4 u else (fX8_at x2 (0 : Int32)).bind fun y5 => if y5 < 0 ∨ 66 ≤ Int32.toNatClampNeg y5 then none else bd (((x1 <<< (Int32.toInt64 (16 : Int32) &&& 63)) ||| (Int32.toInt64 (u 1 (Int32.toNatClampNeg y5))) : Int64)) fun y7 => bd ((x2 + (-1) : Int32)) fun y8 => fX8_packed_4 n y7 y8 u))
set_option maxRecDepth 100000 in
set_option maxHeartbeats 4000000 in
theorem kX8_packed_4 {E : (Nat → Prop) → State → Heap → Prop} {p : Program} {l : Launch} {e : Env} {s : State} {m : MethodId} {args : Array Value} {below : List Frame} {meth : Method} {c : Code} {A : Nat → Prop} {D : va_G} {cI cF cC cS cO : ClassId} {Q : State → Prop} {q : Nat → Nat} (C : vC E p l s m args meth c A D (vT5 cI cF cC cS cO) cX8_packed 4 RX8) {r0 : Int64} {u0 : vS} (RET : ∀ (pc : Nat) (lv : List (Nat × Value)), decode cX8_packed pc = .ok (.lreturn, 1) → vV p l e { frames := 1, cells := 0, slots := 0, locals := 21 } s m args below meth c A D 4 0 0 Q (wR q cI u0) pc lv [.long r0]) : ∀ (n : Nat) (x1 : Int64) (x2 : Int32) (u : vS), fX8_packed_4 n x1 x2 u = some (r0, u0) → vV p l e { frames := 1, cells := 0, slots := 0, locals := 21 } s m args below meth c A D 4 0 0 Q (wR q cI u) 4 [(0, .ref (q 0)), (1, .long x1), (3, .int x2)] [] := by
  intro n
  induction n with
  | zero => intro x1 x2 u h; rw [fX8_packed_4] at h; cases h
  | succ n ih =>
    intro x1 x2 u h
    rw [fX8_packed_4] at h
    refine vi_iload_n C 2 dX8_packed_4 rfl ?_
    refine vi_if_lt (tgt := 45) C dX8_packed_5 (by decide) (fun hc1 => ?_) (fun hc1 => ?_)
    · have h := ob_t h hc1
      refine vi_lload_n C 1 dX8_packed_45 rfl ?_
      exact vi_donel (W := wR q cI) RET h dX8_packed_46
    · have h := ob_f h hc1
      refine vi_lload_n C 1 dX8_packed_8 rfl ?_
      refine vi_bipush (v := 16) C dX8_packed_9 (by decide) ?_
      refine vi_lshl C dX8_packed_11 ?_
      refine vi_iload_n C 2 dX8_packed_12 rfl ?_
      refine vi_aload_n C 0 dX8_packed_13 rfl ?_
      refine gR_8 C dX8_packed_14 ?_
      refine vi_iconst (v := 0) C dX8_packed_17 (by decide) ?_
      refine lR_1 (n := 0) C (by decide) rfl dX8_packed_18 ?_
      refine vi_icmp_ge (tgt := 35) C dX8_packed_19 (by decide) (fun hc2 => ?_) (fun hc2 => ?_)
      · have h := ob_t h hc2
        refine vi_iconst (v := 0) C dX8_packed_35 (by decide) ?_
        refine vi_i2l C dX8_packed_36 ?_
        refine vi_lor C dX8_packed_37 ?_
        obtain ⟨y3, ey3, h⟩ := ob_nm h
        refine vi_nml ey3 ?_
        refine vi_lstore_n (lv' := [(1, .long y3), (0, .ref (q 0)), (3, .int x2)]) C dX8_packed_38 rfl (by decide) rfl ?_
        obtain ⟨y4, ey4, h⟩ := ob_nm h
        refine vi_iinc (v := y4) (lv' := [(3, .int y4), (1, .long y3), (0, .ref (q 0))]) C 2 dX8_packed_39 rfl (by rw [ey4]; rfl) (by decide) rfl ?_
        refine vi_goto (tgt := 4) C dX8_packed_42 (by decide) ?_
        refine vi_sub C [2, 1, 0] rfl ?_
        exact ih _ _ _ h
      · have h := ob_f h hc2
        refine vi_aload_n C 0 dX8_packed_22 rfl ?_
        refine gR_8 C dX8_packed_23 ?_
        refine vi_iload_n C 2 dX8_packed_26 rfl ?_
        refine vi_iconst (v := 0) C dX8_packed_27 (by decide) ?_
        obtain ⟨y5, hgy5, h⟩ := ob_bd h
        refine vi_callS0i (As := [.int x2, .int (0 : Int32)]) (rest := [.ref (q 1), .long (x1 <<< (Int32.toInt64 (16 : Int32) &&& 63))]) C (mX8_at C.2.2.2.2.2.2.2.2.1 hgy5) 2 rfl tcX8_at tlX8_73 ttX8_at tnX8 tdX8_at ⟨Nat.le_of_ble_eq_true rfl, Nat.le_of_ble_eq_true rfl⟩ rfl (Nat.le_of_ble_eq_true rfl) dX8_packed_28 ?_
        obtain ⟨hz6, h⟩ := ob_if h
        refine lR_1 (n := (Int32.toNatClampNeg y5)) C hz6 rfl dX8_packed_31 ?_
        refine vi_goto (tgt := 36) C dX8_packed_32 (by decide) ?_
        refine vi_i2l C dX8_packed_36 ?_
        refine vi_lor C dX8_packed_37 ?_
        obtain ⟨y7, ey7, h⟩ := ob_nm h
        refine vi_nml ey7 ?_
        refine vi_lstore_n (lv' := [(1, .long y7), (0, .ref (q 0)), (3, .int x2)]) C dX8_packed_38 rfl (by decide) rfl ?_
        obtain ⟨y8, ey8, h⟩ := ob_nm h
        refine vi_iinc (v := y8) (lv' := [(3, .int y8), (1, .long y7), (0, .ref (q 0))]) C 2 dX8_packed_39 rfl (by rw [ey8]; rfl) (by decide) rfl ?_
        refine vi_goto (tgt := 4) C dX8_packed_42 (by decide) ?_
        refine vi_sub C [2, 1, 0] rfl ?_
        exact ih _ _ _ h
def fX8_packed (u : vS) : Option (Int64 × vS) := fX8_packed_4 vF (0 : Int64) (3 : Int32) u
set_option maxRecDepth 100000 in
set_option maxHeartbeats 4000000 in
theorem kX8_packed_e {E : (Nat → Prop) → State → Heap → Prop} {p : Program} {l : Launch} {e : Env} {s : State} {m : MethodId} {args : Array Value} {below : List Frame} {meth : Method} {c : Code} {A : Nat → Prop} {D : va_G} {cI cF cC cS cO : ClassId} {Q : State → Prop} {q : Nat → Nat} (C : vC E p l s m args meth c A D (vT5 cI cF cC cS cO) cX8_packed 4 RX8) {r0 : Int64} {u0 : vS} (RET : ∀ (pc : Nat) (lv : List (Nat × Value)), decode cX8_packed pc = .ok (.lreturn, 1) → vV p l e { frames := 1, cells := 0, slots := 0, locals := 21 } s m args below meth c A D 4 0 0 Q (wR q cI u0) pc lv [.long r0]) {u : vS} (h : fX8_packed u = some (r0, u0)) : vV p l e { frames := 1, cells := 0, slots := 0, locals := 21 } s m args below meth c A D 4 0 0 Q (wR q cI u) 0 [(0, .ref (q 0))] [] := by
  rw [fX8_packed] at h
  refine vi_lconst (v := 0) C dX8_packed_0 (by decide) ?_
  refine vi_lstore_n (lv' := [(1, .long (0 : Int64)), (0, .ref (q 0))]) C dX8_packed_1 rfl (by decide) rfl ?_
  refine vi_iconst (v := 3) C dX8_packed_2 (by decide) ?_
  refine vi_istore_n (lv' := [(3, .int (3 : Int32)), (1, .long (0 : Int64)), (0, .ref (q 0))]) C dX8_packed_3 rfl (by decide) rfl ?_
  refine vi_sub C [2, 1, 0] rfl ?_
  exact kX8_packed_4 C RET  vF _ _ _ h
theorem mX8_packed {E : (Nat → Prop) → State → Heap → Prop} (hE : vEok E) {l : Launch} {D : va_G} {cI cF cC cS cO : ClassId} {q : Nat → Nat} {r0 : Int64} {u0 : vS}  {u : vS} (h : fX8_packed u = some (r0, u0)) : vM E l yX8_packed cX8_packed 4 (some .long) 1 21 D (vT5 cI cF cC cS cO) [.ref (q 0)] (wR q cI u) (vQl D (wR q cI u0) r0) :=
  vM_of hE (by decide +kernel) (Nat.le_of_ble_eq_true rfl) (fun p e s m args below meth c A C hr => kX8_packed_e C (vi_retl C hr) h)
-- ---- X8_isCounted
def fX8_isCounted (u : vS) : Option (Int32 × vS) := obp (fX8_allRum u) fun y2 u1 => (if u 1 5 = (y2 + (u1 1 6)) + (u1 1 7) then some ((1 : Int32), u1) else some ((0 : Int32), u1))
set_option maxRecDepth 100000 in
set_option maxHeartbeats 4000000 in
theorem kX8_isCounted_e {E : (Nat → Prop) → State → Heap → Prop} {p : Program} {l : Launch} {e : Env} {s : State} {m : MethodId} {args : Array Value} {below : List Frame} {meth : Method} {c : Code} {A : Nat → Prop} {D : va_G} {cI cF cC cS cO : ClassId} {Q : State → Prop} {q : Nat → Nat} (C : vC E p l s m args meth c A D (vT5 cI cF cC cS cO) cX8_isCounted 1 RX8) {r0 : Int32} {u0 : vS} (RET : ∀ (pc : Nat) (lv : List (Nat × Value)), decode cX8_isCounted pc = .ok (.ireturn, 1) → (r0 = 0 ∨ r0 = 1) → vV p l e { frames := 2, cells := 0, slots := 0, locals := 43 } s m args below meth c A D 1 0 0 Q (wR q cI u0) pc lv [.int r0]) {u : vS} (h : fX8_isCounted u = some (r0, u0)) : vV p l e { frames := 2, cells := 0, slots := 0, locals := 43 } s m args below meth c A D 1 0 0 Q (wR q cI u) 0 [(0, .ref (q 0))] [] := by
  rw [fX8_isCounted] at h
  refine vi_aload_n C 0 dX8_isCounted_0 rfl ?_
  refine gR_8 C dX8_isCounted_1 ?_
  refine vi_iconst (v := 5) C dX8_isCounted_4 (by decide) ?_
  refine lR_1 (n := 5) C (by decide) rfl dX8_isCounted_5 ?_
  refine vi_aload_n C 0 dX8_isCounted_6 rfl ?_
  obtain ⟨y2, u1, hgu1, h⟩ := ob_p h
  refine vR_calli (As := []) (rest := [.int (u 1 5)]) C (mX8_allRum C.2.2.2.2.2.2.2.2.1 hgu1) 0 rfl tcX8_allRum tlX8_156 tiX8_allRum tsX8_allRum rfl tnX8 tdX8_allRum ⟨Nat.le_of_ble_eq_true rfl, Nat.le_of_ble_eq_true rfl⟩ rfl (Nat.le_of_ble_eq_true rfl) dX8_isCounted_7 ?_
  refine vi_aload_n C 0 dX8_isCounted_10 rfl ?_
  refine gR_8 C dX8_isCounted_11 ?_
  refine vi_bipush (v := 6) C dX8_isCounted_14 (by decide) ?_
  refine lR_1 (n := 6) C (by decide) rfl dX8_isCounted_16 ?_
  refine vi_iadd C dX8_isCounted_17 ?_
  refine vi_aload_n C 0 dX8_isCounted_18 rfl ?_
  refine gR_8 C dX8_isCounted_19 ?_
  refine vi_bipush (v := 7) C dX8_isCounted_22 (by decide) ?_
  refine lR_1 (n := 7) C (by decide) rfl dX8_isCounted_24 ?_
  refine vi_iadd C dX8_isCounted_25 ?_
  refine vi_icmp_ne (tgt := 33) C dX8_isCounted_26 (by decide) (fun hc3 => ?_) (fun hc3 => ?_)
  · have h := ob_f h hc3
    refine vi_iconst (v := 0) C dX8_isCounted_33 (by decide) ?_
    exact vi_donez (W := wR q cI) RET h (by decide) dX8_isCounted_34
  · have h := ob_t h hc3
    refine vi_iconst (v := 1) C dX8_isCounted_29 (by decide) ?_
    refine vi_goto (tgt := 34) C dX8_isCounted_30 (by decide) ?_
    exact vi_donez (W := wR q cI) RET h (by decide) dX8_isCounted_34
theorem mX8_isCounted {E : (Nat → Prop) → State → Heap → Prop} (hE : vEok E) {l : Launch} {D : va_G} {cI cF cC cS cO : ClassId} {q : Nat → Nat} {r0 : Int32} {u0 : vS}  {u : vS} (h : fX8_isCounted u = some (r0, u0)) : vM E l yX8_isCounted cX8_isCounted 1 (some .boolean) 2 43 D (vT5 cI cF cC cS cO) [.ref (q 0)] (wR q cI u) (vQi D (wR q cI u0) r0) :=
  vM_of hE (by decide +kernel) (Nat.le_of_ble_eq_true rfl) (fun p e s m args below meth c A C hr => kX8_isCounted_e C (vi_retzz C hr) h)
-- ---- X8_meanAngle
def fX8_meanAngle_4 : Nat → Int32 → Int32 → vS → Option (UInt64 × vS)
  | 0, _, _, _ => none
  | n + 1, x1, x2, u => (if u 1 0 ≤ x2 then (if u 1 0 = 0 then some (FP.dconst0, u) else if (FP.ddiv (FP.i2d x1) (FP.i2d (u 1 0))) &&& 0x7fffffffffffffff ≤ 0x7ff0000000000000 then some (FP.ddiv (FP.i2d x1) (FP.i2d (u 1 0)), u) else none) else obp (fX8_angled x2 u) fun y5 u4 => bd ((x1 + y5 : Int32)) fun y6 => bd ((x2 + 1 : Int32)) fun y7 => fX8_meanAngle_4 n y6 y7 u4)
set_option maxRecDepth 100000 in
set_option maxHeartbeats 4000000 in
theorem kX8_meanAngle_4 {E : (Nat → Prop) → State → Heap → Prop} {p : Program} {l : Launch} {e : Env} {s : State} {m : MethodId} {args : Array Value} {below : List Frame} {meth : Method} {c : Code} {A : Nat → Prop} {D : va_G} {cI cF cC cS cO : ClassId} {Q : State → Prop} {q : Nat → Nat} (C : vC E p l s m args meth c A D (vT5 cI cF cC cS cO) cX8_meanAngle 3 RX8) {r0 : UInt64} {u0 : vS} (RET : ∀ (pc : Nat) (lv : List (Nat × Value)), decode cX8_meanAngle pc = .ok (.dreturn, 1) → vV p l e { frames := 3, cells := 0, slots := 0, locals := 64 } s m args below meth c A D 3 0 0 Q (wR q cI u0) pc lv [.double r0]) : ∀ (n : Nat) (x1 : Int32) (x2 : Int32) (u : vS), fX8_meanAngle_4 n x1 x2 u = some (r0, u0) → vV p l e { frames := 3, cells := 0, slots := 0, locals := 64 } s m args below meth c A D 3 0 0 Q (wR q cI u) 4 [(0, .ref (q 0)), (1, .int x1), (2, .int x2)] [] := by
  intro n
  induction n with
  | zero => intro x1 x2 u h; rw [fX8_meanAngle_4] at h; cases h
  | succ n ih =>
    intro x1 x2 u h
    rw [fX8_meanAngle_4] at h
    refine vi_iload_n C 2 dX8_meanAngle_4 rfl ?_
    refine vi_aload_n C 0 dX8_meanAngle_5 rfl ?_
    refine gR_8 C dX8_meanAngle_6 ?_
    refine vi_iconst (v := 0) C dX8_meanAngle_9 (by decide) ?_
    refine lR_1 (n := 0) C (by decide) rfl dX8_meanAngle_10 ?_
    refine vi_icmp_ge (tgt := 28) C dX8_meanAngle_11 (by decide) (fun hc1 => ?_) (fun hc1 => ?_)
    · have h := ob_t h hc1
      refine vi_aload_n C 0 dX8_meanAngle_28 rfl ?_
      refine gR_8 C dX8_meanAngle_29 ?_
      refine vi_iconst (v := 0) C dX8_meanAngle_32 (by decide) ?_
      refine lR_1 (n := 0) C (by decide) rfl dX8_meanAngle_33 ?_
      refine vi_if_ne (tgt := 41) C dX8_meanAngle_34 (by decide) (fun hc2 => ?_) (fun hc2 => ?_)
      · have h := ob_f h hc2
        refine vi_iload_n C 1 dX8_meanAngle_41 rfl ?_
        refine vi_i2d C dX8_meanAngle_42 ?_
        refine vi_aload_n C 0 dX8_meanAngle_43 rfl ?_
        refine gR_8 C dX8_meanAngle_44 ?_
        refine vi_iconst (v := 0) C dX8_meanAngle_47 (by decide) ?_
        refine lR_1 (n := 0) C (by decide) rfl dX8_meanAngle_48 ?_
        refine vi_i2d C dX8_meanAngle_49 ?_
        obtain ⟨hz3, h⟩ := ob_ok h
        refine vi_ddiv C dX8_meanAngle_50 hz3 ?_
        exact vi_doned (W := wR q cI) RET h dX8_meanAngle_51
      · have h := ob_t h hc2
        refine vi_dconst0 C dX8_meanAngle_37 ?_
        refine vi_goto (tgt := 51) C dX8_meanAngle_38 (by decide) ?_
        exact vi_doned (W := wR q cI) RET h dX8_meanAngle_51
    · have h := ob_f h hc1
      refine vi_iload_n C 1 dX8_meanAngle_14 rfl ?_
      refine vi_aload_n C 0 dX8_meanAngle_15 rfl ?_
      refine vi_iload_n C 2 dX8_meanAngle_16 rfl ?_
      obtain ⟨y5, u4, hgu4, h⟩ := ob_p h
      refine vR_calli (As := [.int x2]) (rest := [.int x1]) C (mX8_angled C.2.2.2.2.2.2.2.2.1 hgu4) 1 rfl tcX8_angled tlX8_86 tiX8_angled tsX8_angled rfl tnX8 tdX8_angled ⟨Nat.le_of_ble_eq_true rfl, Nat.le_of_ble_eq_true rfl⟩ rfl (Nat.le_of_ble_eq_true rfl) dX8_meanAngle_17 ?_
      refine vi_iadd C dX8_meanAngle_20 ?_
      obtain ⟨y6, ey6, h⟩ := ob_nm h
      refine vi_nmi ey6 ?_
      refine vi_istore_n (lv' := [(1, .int y6), (0, .ref (q 0)), (2, .int x2)]) C dX8_meanAngle_21 rfl (by decide) rfl ?_
      obtain ⟨y7, ey7, h⟩ := ob_nm h
      refine vi_iinc (v := y7) (lv' := [(2, .int y7), (1, .int y6), (0, .ref (q 0))]) C 2 dX8_meanAngle_22 rfl (by rw [ey7]; rfl) (by decide) rfl ?_
      refine vi_goto (tgt := 4) C dX8_meanAngle_25 (by decide) ?_
      refine vi_sub C [2, 1, 0] rfl ?_
      exact ih _ _ _ h
def fX8_meanAngle (u : vS) : Option (UInt64 × vS) := fX8_meanAngle_4 vF (0 : Int32) (0 : Int32) u
set_option maxRecDepth 100000 in
set_option maxHeartbeats 4000000 in
theorem kX8_meanAngle_e {E : (Nat → Prop) → State → Heap → Prop} {p : Program} {l : Launch} {e : Env} {s : State} {m : MethodId} {args : Array Value} {below : List Frame} {meth : Method} {c : Code} {A : Nat → Prop} {D : va_G} {cI cF cC cS cO : ClassId} {Q : State → Prop} {q : Nat → Nat} (C : vC E p l s m args meth c A D (vT5 cI cF cC cS cO) cX8_meanAngle 3 RX8) {r0 : UInt64} {u0 : vS} (RET : ∀ (pc : Nat) (lv : List (Nat × Value)), decode cX8_meanAngle pc = .ok (.dreturn, 1) → vV p l e { frames := 3, cells := 0, slots := 0, locals := 64 } s m args below meth c A D 3 0 0 Q (wR q cI u0) pc lv [.double r0]) {u : vS} (h : fX8_meanAngle u = some (r0, u0)) : vV p l e { frames := 3, cells := 0, slots := 0, locals := 64 } s m args below meth c A D 3 0 0 Q (wR q cI u) 0 [(0, .ref (q 0))] [] := by
  rw [fX8_meanAngle] at h
  refine vi_iconst (v := 0) C dX8_meanAngle_0 (by decide) ?_
  refine vi_istore_n (lv' := [(1, .int (0 : Int32)), (0, .ref (q 0))]) C dX8_meanAngle_1 rfl (by decide) rfl ?_
  refine vi_iconst (v := 0) C dX8_meanAngle_2 (by decide) ?_
  refine vi_istore_n (lv' := [(2, .int (0 : Int32)), (1, .int (0 : Int32)), (0, .ref (q 0))]) C dX8_meanAngle_3 rfl (by decide) rfl ?_
  refine vi_sub C [2, 1, 0] rfl ?_
  exact kX8_meanAngle_4 C RET  vF _ _ _ h
theorem mX8_meanAngle {E : (Nat → Prop) → State → Heap → Prop} (hE : vEok E) {l : Launch} {D : va_G} {cI cF cC cS cO : ClassId} {q : Nat → Nat} {r0 : UInt64} {u0 : vS}  {u : vS} (h : fX8_meanAngle u = some (r0, u0)) : vM E l yX8_meanAngle cX8_meanAngle 3 (some .double) 3 64 D (vT5 cI cF cC cS cO) [.ref (q 0)] (wR q cI u) (vQd D (wR q cI u0) r0) :=
  vM_of hE (by decide +kernel) (Nat.le_of_ble_eq_true rfl) (fun p e s m args below meth c A C hr => kX8_meanAngle_e C (vi_retd C hr) h)
-- ---- X8_account
def fX8_account (x1 : Int32) (u : vS) : Option (Int32 × vS) := (if x1 = 0 then if x1 < 0 ∨ 66 ≤ Int32.toNatClampNeg x1 then none else some (u 1 (Int32.toNatClampNeg x1), u) else (if x1 = 1 then if x1 < 0 ∨ 66 ≤ Int32.toNatClampNeg x1 then none else some (u 1 (Int32.toNatClampNeg x1), u) else (if x1 = 2 then if x1 < 0 ∨ 66 ≤ Int32.toNatClampNeg x1 then none else some (u 1 (Int32.toNatClampNeg x1), u) else (if x1 = 3 then if x1 < 0 ∨ 66 ≤ Int32.toNatClampNeg x1 then none else some (u 1 (Int32.toNatClampNeg x1), u) else (if x1 = 4 then if x1 < 0 ∨ 66 ≤ Int32.toNatClampNeg x1 then none else some (u 1 (Int32.toNatClampNeg x1), u) else (if x1 = 5 then obp (fX8_allRum u) fun y12 u11 => some (y12, u11) else (if x1 = 6 then if x1 - (1 : Int32) < 0 ∨ 66 ≤ Int32.toNatClampNeg (x1 - (1 : Int32)) then none else some (u 1 (Int32.toNatClampNeg (x1 - (1 : Int32))), u) else (if x1 = 7 then if x1 - (1 : Int32) < 0 ∨ 66 ≤ Int32.toNatClampNeg (x1 - (1 : Int32)) then none else some (u 1 (Int32.toNatClampNeg (x1 - (1 : Int32))), u) else (if x1 = 8 then if x1 - (1 : Int32) < 0 ∨ 66 ≤ Int32.toNatClampNeg (x1 - (1 : Int32)) then none else some (u 1 (Int32.toNatClampNeg (x1 - (1 : Int32))), u) else (if x1 = 9 then some (u 0 18, u) else (if x1 = 10 then some (u 0 1, u) else some ((-100002 : Int32), u))))))))))))
set_option maxRecDepth 100000 in
set_option maxHeartbeats 4000000 in
theorem kX8_account_e {E : (Nat → Prop) → State → Heap → Prop} {p : Program} {l : Launch} {e : Env} {s : State} {m : MethodId} {args : Array Value} {below : List Frame} {meth : Method} {c : Code} {A : Nat → Prop} {D : va_G} {cI cF cC cS cO : ClassId} {Q : State → Prop} {q : Nat → Nat} (C : vC E p l s m args meth c A D (vT5 cI cF cC cS cO) cX8_account 2 RX8) {r0 : Int32} {u0 : vS} (RET : ∀ (pc : Nat) (lv : List (Nat × Value)), decode cX8_account pc = .ok (.ireturn, 1) → vV p l e { frames := 2, cells := 0, slots := 0, locals := 43 } s m args below meth c A D 2 0 0 Q (wR q cI u0) pc lv [.int r0]) {x1 : Int32} {u : vS} (h : fX8_account x1 u = some (r0, u0)) : vV p l e { frames := 2, cells := 0, slots := 0, locals := 43 } s m args below meth c A D 2 0 0 Q (wR q cI u) 0 [(0, .ref (q 0)), (1, .int x1)] [] := by
  rw [fX8_account] at h
  refine vi_iload_n C 1 dX8_account_0 rfl ?_
  by_cases hc2 : x1 = 0
  · have h := ob_t h hc2
    refine vi_tswIn (off := 59) (tgt := 60) C dX8_account_1 (by rw [hc2]; decide) (by rw [hc2]; decide) (by rw [hc2]; rfl) (by decide) ?_
    refine vi_aload_n C 0 dX8_account_60 rfl ?_
    refine gR_8 C dX8_account_61 ?_
    refine vi_iload_n C 1 dX8_account_64 rfl ?_
    obtain ⟨hz1, h⟩ := ob_if h
    refine lR_1 (n := (Int32.toNatClampNeg x1)) C hz1 rfl dX8_account_65 ?_
    exact vi_donei (W := wR q cI) RET h dX8_account_66
  · replace h := ob_f h hc2
    by_cases hc4 : x1 = 1
    · have h := ob_t h hc4
      refine vi_tswIn (off := 59) (tgt := 60) C dX8_account_1 (by rw [hc4]; decide) (by rw [hc4]; decide) (by rw [hc4]; rfl) (by decide) ?_
      refine vi_aload_n C 0 dX8_account_60 rfl ?_
      refine gR_8 C dX8_account_61 ?_
      refine vi_iload_n C 1 dX8_account_64 rfl ?_
      obtain ⟨hz3, h⟩ := ob_if h
      refine lR_1 (n := (Int32.toNatClampNeg x1)) C hz3 rfl dX8_account_65 ?_
      exact vi_donei (W := wR q cI) RET h dX8_account_66
    · replace h := ob_f h hc4
      by_cases hc6 : x1 = 2
      · have h := ob_t h hc6
        refine vi_tswIn (off := 59) (tgt := 60) C dX8_account_1 (by rw [hc6]; decide) (by rw [hc6]; decide) (by rw [hc6]; rfl) (by decide) ?_
        refine vi_aload_n C 0 dX8_account_60 rfl ?_
        refine gR_8 C dX8_account_61 ?_
        refine vi_iload_n C 1 dX8_account_64 rfl ?_
        obtain ⟨hz5, h⟩ := ob_if h
        refine lR_1 (n := (Int32.toNatClampNeg x1)) C hz5 rfl dX8_account_65 ?_
        exact vi_donei (W := wR q cI) RET h dX8_account_66
      · replace h := ob_f h hc6
        by_cases hc8 : x1 = 3
        · have h := ob_t h hc8
          refine vi_tswIn (off := 59) (tgt := 60) C dX8_account_1 (by rw [hc8]; decide) (by rw [hc8]; decide) (by rw [hc8]; rfl) (by decide) ?_
          refine vi_aload_n C 0 dX8_account_60 rfl ?_
          refine gR_8 C dX8_account_61 ?_
          refine vi_iload_n C 1 dX8_account_64 rfl ?_
          obtain ⟨hz7, h⟩ := ob_if h
          refine lR_1 (n := (Int32.toNatClampNeg x1)) C hz7 rfl dX8_account_65 ?_
          exact vi_donei (W := wR q cI) RET h dX8_account_66
        · replace h := ob_f h hc8
          by_cases hc10 : x1 = 4
          · have h := ob_t h hc10
            refine vi_tswIn (off := 59) (tgt := 60) C dX8_account_1 (by rw [hc10]; decide) (by rw [hc10]; decide) (by rw [hc10]; rfl) (by decide) ?_
            refine vi_aload_n C 0 dX8_account_60 rfl ?_
            refine gR_8 C dX8_account_61 ?_
            refine vi_iload_n C 1 dX8_account_64 rfl ?_
            obtain ⟨hz9, h⟩ := ob_if h
            refine lR_1 (n := (Int32.toNatClampNeg x1)) C hz9 rfl dX8_account_65 ?_
            exact vi_donei (W := wR q cI) RET h dX8_account_66
          · replace h := ob_f h hc10
            by_cases hc13 : x1 = 5
            · have h := ob_t h hc13
              refine vi_tswIn (off := 66) (tgt := 67) C dX8_account_1 (by rw [hc13]; decide) (by rw [hc13]; decide) (by rw [hc13]; rfl) (by decide) ?_
              refine vi_aload_n C 0 dX8_account_67 rfl ?_
              obtain ⟨y12, u11, hgu11, h⟩ := ob_p h
              refine vR_calli (As := []) (rest := []) C (mX8_allRum C.2.2.2.2.2.2.2.2.1 hgu11) 0 rfl tcX8_allRum tlX8_156 tiX8_allRum tsX8_allRum rfl tnX8 tdX8_allRum ⟨Nat.le_of_ble_eq_true rfl, Nat.le_of_ble_eq_true rfl⟩ rfl (Nat.le_of_ble_eq_true rfl) dX8_account_68 ?_
              exact vi_donei (W := wR q cI) RET h dX8_account_71
            · replace h := ob_f h hc13
              by_cases hc15 : x1 = 6
              · have h := ob_t h hc15
                refine vi_tswIn (off := 71) (tgt := 72) C dX8_account_1 (by rw [hc15]; decide) (by rw [hc15]; decide) (by rw [hc15]; rfl) (by decide) ?_
                refine vi_aload_n C 0 dX8_account_72 rfl ?_
                refine gR_8 C dX8_account_73 ?_
                refine vi_iload_n C 1 dX8_account_76 rfl ?_
                refine vi_iconst (v := 1) C dX8_account_77 (by decide) ?_
                refine vi_isub C dX8_account_78 ?_
                obtain ⟨hz14, h⟩ := ob_if h
                refine lR_1 (n := (Int32.toNatClampNeg (x1 - (1 : Int32)))) C hz14 rfl dX8_account_79 ?_
                exact vi_donei (W := wR q cI) RET h dX8_account_80
              · replace h := ob_f h hc15
                by_cases hc17 : x1 = 7
                · have h := ob_t h hc17
                  refine vi_tswIn (off := 71) (tgt := 72) C dX8_account_1 (by rw [hc17]; decide) (by rw [hc17]; decide) (by rw [hc17]; rfl) (by decide) ?_
                  refine vi_aload_n C 0 dX8_account_72 rfl ?_
                  refine gR_8 C dX8_account_73 ?_
                  refine vi_iload_n C 1 dX8_account_76 rfl ?_
                  refine vi_iconst (v := 1) C dX8_account_77 (by decide) ?_
                  refine vi_isub C dX8_account_78 ?_
                  obtain ⟨hz16, h⟩ := ob_if h
                  refine lR_1 (n := (Int32.toNatClampNeg (x1 - (1 : Int32)))) C hz16 rfl dX8_account_79 ?_
                  exact vi_donei (W := wR q cI) RET h dX8_account_80
                · replace h := ob_f h hc17
                  by_cases hc19 : x1 = 8
                  · have h := ob_t h hc19
                    refine vi_tswIn (off := 71) (tgt := 72) C dX8_account_1 (by rw [hc19]; decide) (by rw [hc19]; decide) (by rw [hc19]; rfl) (by decide) ?_
                    refine vi_aload_n C 0 dX8_account_72 rfl ?_
                    refine gR_8 C dX8_account_73 ?_
                    refine vi_iload_n C 1 dX8_account_76 rfl ?_
                    refine vi_iconst (v := 1) C dX8_account_77 (by decide) ?_
                    refine vi_isub C dX8_account_78 ?_
                    obtain ⟨hz18, h⟩ := ob_if h
                    refine lR_1 (n := (Int32.toNatClampNeg (x1 - (1 : Int32)))) C hz18 rfl dX8_account_79 ?_
                    exact vi_donei (W := wR q cI) RET h dX8_account_80
                  · replace h := ob_f h hc19
                    by_cases hc20 : x1 = 9
                    · have h := ob_t h hc20
                      refine vi_tswIn (off := 80) (tgt := 81) C dX8_account_1 (by rw [hc20]; decide) (by rw [hc20]; decide) (by rw [hc20]; rfl) (by decide) ?_
                      refine vi_aload_n C 0 dX8_account_81 rfl ?_
                      refine gR_18 C dX8_account_82 ?_
                      exact vi_donei (W := wR q cI) RET h dX8_account_85
                    · replace h := ob_f h hc20
                      by_cases hc21 : x1 = 10
                      · have h := ob_t h hc21
                        refine vi_tswIn (off := 85) (tgt := 86) C dX8_account_1 (by rw [hc21]; decide) (by rw [hc21]; decide) (by rw [hc21]; rfl) (by decide) ?_
                        refine vi_aload_n C 0 dX8_account_86 rfl ?_
                        refine gR_1 C dX8_account_87 ?_
                        exact vi_donei (W := wR q cI) RET h dX8_account_90
                      · replace h := ob_f h hc21
                        refine vi_tswOut (tgt := 91) C dX8_account_1 (by have thc2 := lv_neT hc2 (a := 0) (by decide); have thc4 := lv_neT hc4 (a := 1) (by decide); have thc6 := lv_neT hc6 (a := 2) (by decide); have thc8 := lv_neT hc8 (a := 3) (by decide); have thc10 := lv_neT hc10 (a := 4) (by decide); have thc13 := lv_neT hc13 (a := 5) (by decide); have thc15 := lv_neT hc15 (a := 6) (by decide); have thc17 := lv_neT hc17 (a := 7) (by decide); have thc19 := lv_neT hc19 (a := 8) (by decide); have thc20 := lv_neT hc20 (a := 9) (by decide); have thc21 := lv_neT hc21 (a := 10) (by decide); omega) (by decide) ?_
                        refine vi_ldc (v := (-100002)) C dX8_account_91 tkX8_95 ?_
                        exact vi_donei (W := wR q cI) RET h dX8_account_93
theorem mX8_account {E : (Nat → Prop) → State → Heap → Prop} (hE : vEok E) {l : Launch} {D : va_G} {cI cF cC cS cO : ClassId} {q : Nat → Nat} {r0 : Int32} {u0 : vS}  {x1 : Int32} {u : vS} (h : fX8_account x1 u = some (r0, u0)) : vM E l yX8_account cX8_account 2 (some .int) 2 43 D (vT5 cI cF cC cS cO) [.ref (q 0), .int x1] (wR q cI u) (vQi D (wR q cI u0) r0) :=
  vM_of hE (by decide +kernel) (Nat.le_of_ble_eq_true rfl) (fun p e s m args below meth c A C hr => kX8_account_e C (vi_reti C hr) h)
-- ---- X8_writes
def fX8_writes (x1 : Int32) (u : vS) : Option (vS) := if u 0 21 < 0 ∨ 140 ≤ Int32.toNatClampNeg (u 0 21) then none else bd (up2 u 7 (Int32.toNatClampNeg (u 0 21)) x1) fun u2 => bd (up2 u2 0 21 ((u2 0 21) + (1 : Int32))) fun u3 => some u3
set_option maxRecDepth 100000 in
set_option maxHeartbeats 4000000 in
theorem kX8_writes_e {E : (Nat → Prop) → State → Heap → Prop} {p : Program} {l : Launch} {e : Env} {s : State} {m : MethodId} {args : Array Value} {below : List Frame} {meth : Method} {c : Code} {A : Nat → Prop} {D : va_G} {cI cF cC cS cO : ClassId} {Q : State → Prop} {q : Nat → Nat} (C : vC E p l s m args meth c A D (vT5 cI cF cC cS cO) cX8_writes 2 RX8) {u0 : vS} (RET : ∀ (pc : Nat) (lv : List (Nat × Value)), decode cX8_writes pc = .ok (.return_, 1) → vV p l e { frames := 0, cells := 0, slots := 0, locals := 0 } s m args below meth c A D 2 0 0 Q (wR q cI u0) pc lv []) {x1 : Int32} {u : vS} (h : fX8_writes x1 u = some u0) : vV p l e { frames := 0, cells := 0, slots := 0, locals := 0 } s m args below meth c A D 2 0 0 Q (wR q cI u) 0 [(0, .ref (q 0)), (1, .int x1)] [] := by
  rw [fX8_writes] at h
  refine vi_aload_n C 0 dX8_writes_0 rfl ?_
  refine gR_14 C dX8_writes_1 ?_
  refine vi_aload_n C 0 dX8_writes_4 rfl ?_
  refine gR_21 C dX8_writes_5 ?_
  refine vi_iload_n C 1 dX8_writes_8 rfl ?_
  obtain ⟨hz1, h⟩ := ob_if h
  obtain ⟨u2, eu2, h⟩ := ob_nm h
  refine sR_7 (n := (Int32.toNatClampNeg (u 0 21))) C hz1 rfl dX8_writes_9 eu2.symm ?_
  refine vi_aload_n C 0 dX8_writes_10 rfl ?_
  refine vi_dup C dX8_writes_11 rfl ?_
  refine gR_21 C dX8_writes_12 ?_
  refine vi_iconst (v := 1) C dX8_writes_15 (by decide) ?_
  refine vi_iadd C dX8_writes_16 ?_
  obtain ⟨u3, eu3, h⟩ := ob_nm h
  refine pR_21 C dX8_writes_17 eu3.symm ?_
  exact vi_donev (W := wR q cI) RET h dX8_writes_20
theorem mX8_writes {E : (Nat → Prop) → State → Heap → Prop} (hE : vEok E) {l : Launch} {D : va_G} {cI cF cC cS cO : ClassId} {q : Nat → Nat} {u0 : vS}  {x1 : Int32} {u : vS} (h : fX8_writes x1 u = some u0) : vM E l yX8_writes cX8_writes 2 none 0 0 D (vT5 cI cF cC cS cO) [.ref (q 0), .int x1] (wR q cI u) (vQv D (wR q cI u0)) :=
  vM_of hE (by decide +kernel) (Nat.le_of_ble_eq_true rfl) (fun p e s m args below meth c A C hr => kX8_writes_e C (vi_retv C hr) h)
-- ---- X8_writesNumber
def fX8_writesNumber_39 : Nat → Int32 → Int32 → vS → Option (vS)
  | 0, _, _, _ => none
  | n + 1, x1, x2, u => (if x2 ≤ 0 then some u else if x2 = 0 then none else (fX8_writes ((48 : Int32) + ((x1 / x2) - (x1 / x2) / (10 : Int32) * (10 : Int32))) u).bind fun u3 => bd ((x2 / (10 : Int32) : Int32)) fun y4 => fX8_writesNumber_39 n x1 y4 u3)
set_option maxRecDepth 100000 in
set_option maxHeartbeats 4000000 in
theorem kX8_writesNumber_39 {E : (Nat → Prop) → State → Heap → Prop} {p : Program} {l : Launch} {e : Env} {s : State} {m : MethodId} {args : Array Value} {below : List Frame} {meth : Method} {c : Code} {A : Nat → Prop} {D : va_G} {cI cF cC cS cO : ClassId} {Q : State → Prop} {q : Nat → Nat} (C : vC E p l s m args meth c A D (vT5 cI cF cC cS cO) cX8_writesNumber 4 RX8) {u0 : vS} (RET : ∀ (pc : Nat) (lv : List (Nat × Value)), decode cX8_writesNumber pc = .ok (.return_, 1) → vV p l e { frames := 1, cells := 0, slots := 0, locals := 21 } s m args below meth c A D 4 0 0 Q (wR q cI u0) pc lv []) : ∀ (n : Nat) (x1 : Int32) (x2 : Int32) (u : vS), fX8_writesNumber_39 n x1 x2 u = some u0 → vV p l e { frames := 1, cells := 0, slots := 0, locals := 21 } s m args below meth c A D 4 0 0 Q (wR q cI u) 39 [(0, .ref (q 0)), (2, .int x1), (3, .int x2)] [] := by
  intro n
  induction n with
  | zero => intro x1 x2 u h; rw [fX8_writesNumber_39] at h; cases h
  | succ n ih =>
    intro x1 x2 u h
    rw [fX8_writesNumber_39] at h
    refine vi_iload_n C 2 dX8_writesNumber_39 rfl ?_
    refine vi_if_le (tgt := 64) C dX8_writesNumber_40 (by decide) (fun hc1 => ?_) (fun hc1 => ?_)
    · have h := ob_t h hc1
      exact vi_donev (W := wR q cI) RET h dX8_writesNumber_64
    · have h := ob_f h hc1
      refine vi_aload_n C 0 dX8_writesNumber_43 rfl ?_
      refine vi_bipush (v := 48) C dX8_writesNumber_44 (by decide) ?_
      refine vi_iload_n C 1 dX8_writesNumber_46 rfl ?_
      refine vi_iload_n C 2 dX8_writesNumber_47 rfl ?_
      obtain ⟨hz2, h⟩ := ob_if h
      refine vi_idiv C dX8_writesNumber_48 hz2 ?_
      refine vi_bipush (v := 10) C dX8_writesNumber_49 (by decide) ?_
      refine vi_irem C dX8_writesNumber_51 (by decide) ?_
      refine vi_iadd C dX8_writesNumber_52 ?_
      obtain ⟨u3, hgu3, h⟩ := ob_bd h
      refine vR_callv (As := [.int ((48 : Int32) + ((x1 / x2) - (x1 / x2) / (10 : Int32) * (10 : Int32)))]) (rest := []) C (mX8_writes C.2.2.2.2.2.2.2.2.1 hgu3) 1 rfl tcX8_writes tlX8_202 tiX8_writes tsX8_writes rfl tnX8 tdX8_writes ⟨Nat.le_of_ble_eq_true rfl, Nat.le_of_ble_eq_true rfl⟩ rfl (Nat.le_of_ble_eq_true rfl) dX8_writesNumber_53 ?_
      refine vi_iload_n C 2 dX8_writesNumber_56 rfl ?_
      refine vi_bipush (v := 10) C dX8_writesNumber_57 (by decide) ?_
      refine vi_idiv C dX8_writesNumber_59 (by decide) ?_
      obtain ⟨y4, ey4, h⟩ := ob_nm h
      refine vi_nmi ey4 ?_
      refine vi_istore_n (lv' := [(3, .int y4), (0, .ref (q 0)), (2, .int x1)]) C dX8_writesNumber_60 rfl (by decide) rfl ?_
      refine vi_goto (tgt := 39) C dX8_writesNumber_61 (by decide) ?_
      refine vi_sub C [1, 2, 0] rfl ?_
      exact ih _ _ _ h
def fX8_writesNumber_23 : Nat → Int32 → Int32 → vS → Option (vS)
  | 0, _, _, _ => none
  | n + 1, x1, x2, u => if x2 = 0 then none else (if x1 / x2 < (10 : Int32) then fX8_writesNumber_39 vF x1 x2 u else bd ((x2 * (10 : Int32) : Int32)) fun y3 => fX8_writesNumber_23 n x1 y3 u)
set_option maxRecDepth 100000 in
set_option maxHeartbeats 4000000 in
theorem kX8_writesNumber_23 {E : (Nat → Prop) → State → Heap → Prop} {p : Program} {l : Launch} {e : Env} {s : State} {m : MethodId} {args : Array Value} {below : List Frame} {meth : Method} {c : Code} {A : Nat → Prop} {D : va_G} {cI cF cC cS cO : ClassId} {Q : State → Prop} {q : Nat → Nat} (C : vC E p l s m args meth c A D (vT5 cI cF cC cS cO) cX8_writesNumber 4 RX8) {u0 : vS} (RET : ∀ (pc : Nat) (lv : List (Nat × Value)), decode cX8_writesNumber pc = .ok (.return_, 1) → vV p l e { frames := 1, cells := 0, slots := 0, locals := 21 } s m args below meth c A D 4 0 0 Q (wR q cI u0) pc lv []) : ∀ (n : Nat) (x1 : Int32) (x2 : Int32) (u : vS), fX8_writesNumber_23 n x1 x2 u = some u0 → vV p l e { frames := 1, cells := 0, slots := 0, locals := 21 } s m args below meth c A D 4 0 0 Q (wR q cI u) 23 [(0, .ref (q 0)), (2, .int x1), (3, .int x2)] [] := by
  intro n
  induction n with
  | zero => intro x1 x2 u h; rw [fX8_writesNumber_23] at h; cases h
  | succ n ih =>
    intro x1 x2 u h
    rw [fX8_writesNumber_23] at h
    refine vi_iload_n C 1 dX8_writesNumber_23 rfl ?_
    refine vi_iload_n C 2 dX8_writesNumber_24 rfl ?_
    obtain ⟨hz1, h⟩ := ob_if h
    refine vi_idiv C dX8_writesNumber_25 hz1 ?_
    refine vi_bipush (v := 10) C dX8_writesNumber_26 (by decide) ?_
    refine vi_icmp_lt (tgt := 39) C dX8_writesNumber_28 (by decide) (fun hc2 => ?_) (fun hc2 => ?_)
    · have h := ob_t h hc2
      refine vi_sub C [0, 1, 2] rfl ?_
      exact kX8_writesNumber_39 C RET  vF _ _ _ h
    · have h := ob_f h hc2
      refine vi_iload_n C 2 dX8_writesNumber_31 rfl ?_
      refine vi_bipush (v := 10) C dX8_writesNumber_32 (by decide) ?_
      refine vi_imul C dX8_writesNumber_34 ?_
      obtain ⟨y3, ey3, h⟩ := ob_nm h
      refine vi_nmi ey3 ?_
      refine vi_istore_n (lv' := [(3, .int y3), (0, .ref (q 0)), (2, .int x1)]) C dX8_writesNumber_35 rfl (by decide) rfl ?_
      refine vi_goto (tgt := 23) C dX8_writesNumber_36 (by decide) ?_
      refine vi_sub C [1, 2, 0] rfl ?_
      exact ih _ _ _ h
def fX8_writesNumber_10 (x1 : Int32) (x2 : Int32) (u : vS) : Option (vS) := (if 0 ≤ x1 then fX8_writesNumber_23 vF x2 (1 : Int32) u else (fX8_writes (45 : Int32) u).bind fun u2 => fX8_writesNumber_23 vF x2 (1 : Int32) u2)
set_option maxRecDepth 100000 in
set_option maxHeartbeats 4000000 in
theorem kX8_writesNumber_10 {E : (Nat → Prop) → State → Heap → Prop} {p : Program} {l : Launch} {e : Env} {s : State} {m : MethodId} {args : Array Value} {below : List Frame} {meth : Method} {c : Code} {A : Nat → Prop} {D : va_G} {cI cF cC cS cO : ClassId} {Q : State → Prop} {q : Nat → Nat} (C : vC E p l s m args meth c A D (vT5 cI cF cC cS cO) cX8_writesNumber 4 RX8) {u0 : vS} (RET : ∀ (pc : Nat) (lv : List (Nat × Value)), decode cX8_writesNumber pc = .ok (.return_, 1) → vV p l e { frames := 1, cells := 0, slots := 0, locals := 21 } s m args below meth c A D 4 0 0 Q (wR q cI u0) pc lv []) : ∀ (x1 : Int32) (x2 : Int32) (u : vS), fX8_writesNumber_10 x1 x2 u = some u0 → vV p l e { frames := 1, cells := 0, slots := 0, locals := 21 } s m args below meth c A D 4 0 0 Q (wR q cI u) 10 [(0, .ref (q 0)), (1, .int x1)] [.int x2] := by
  intro x1 x2 u h
  rw [fX8_writesNumber_10] at h
  refine vi_istore_n (lv' := [(2, .int x2), (0, .ref (q 0)), (1, .int x1)]) C dX8_writesNumber_10 rfl (by decide) rfl ?_
  refine vi_iconst (v := 1) C dX8_writesNumber_11 (by decide) ?_
  refine vi_istore_n (lv' := [(3, .int (1 : Int32)), (2, .int x2), (0, .ref (q 0)), (1, .int x1)]) C dX8_writesNumber_12 rfl (by decide) rfl ?_
  refine vi_iload_n C 3 dX8_writesNumber_13 rfl ?_
  refine vi_if_ge (tgt := 23) C dX8_writesNumber_14 (by decide) (fun hc1 => ?_) (fun hc1 => ?_)
  · have h := ob_t h hc1
    refine vi_sub C [2, 1, 0] rfl ?_
    exact kX8_writesNumber_23 C RET  vF _ _ _ h
  · have h := ob_f h hc1
    refine vi_aload_n C 2 dX8_writesNumber_17 rfl ?_
    refine vi_bipush (v := 45) C dX8_writesNumber_18 (by decide) ?_
    obtain ⟨u2, hgu2, h⟩ := ob_bd h
    refine vR_callv (As := [.int (45 : Int32)]) (rest := []) C (mX8_writes C.2.2.2.2.2.2.2.2.1 hgu2) 1 rfl tcX8_writes tlX8_202 tiX8_writes tsX8_writes rfl tnX8 tdX8_writes ⟨Nat.le_of_ble_eq_true rfl, Nat.le_of_ble_eq_true rfl⟩ rfl (Nat.le_of_ble_eq_true rfl) dX8_writesNumber_20 ?_
    refine vi_sub C [2, 1, 0] rfl ?_
    exact kX8_writesNumber_23 C RET  vF _ _ _ h
def fX8_writesNumber (x1 : Int32) (u : vS) : Option (vS) := (if 0 ≤ x1 then fX8_writesNumber_10 x1 x1 u else fX8_writesNumber_10 x1 (-x1) u)
set_option maxRecDepth 100000 in
set_option maxHeartbeats 4000000 in
theorem kX8_writesNumber_e {E : (Nat → Prop) → State → Heap → Prop} {p : Program} {l : Launch} {e : Env} {s : State} {m : MethodId} {args : Array Value} {below : List Frame} {meth : Method} {c : Code} {A : Nat → Prop} {D : va_G} {cI cF cC cS cO : ClassId} {Q : State → Prop} {q : Nat → Nat} (C : vC E p l s m args meth c A D (vT5 cI cF cC cS cO) cX8_writesNumber 4 RX8) {u0 : vS} (RET : ∀ (pc : Nat) (lv : List (Nat × Value)), decode cX8_writesNumber pc = .ok (.return_, 1) → vV p l e { frames := 1, cells := 0, slots := 0, locals := 21 } s m args below meth c A D 4 0 0 Q (wR q cI u0) pc lv []) {x1 : Int32} {u : vS} (h : fX8_writesNumber x1 u = some u0) : vV p l e { frames := 1, cells := 0, slots := 0, locals := 21 } s m args below meth c A D 4 0 0 Q (wR q cI u) 0 [(0, .ref (q 0)), (1, .int x1)] [] := by
  rw [fX8_writesNumber] at h
  refine vi_iload_n C 1 dX8_writesNumber_0 rfl ?_
  refine vi_if_ge (tgt := 9) C dX8_writesNumber_1 (by decide) (fun hc1 => ?_) (fun hc1 => ?_)
  · have h := ob_t h hc1
    refine vi_iload_n C 1 dX8_writesNumber_9 rfl ?_
    refine vi_sub C [0, 1] rfl ?_
    exact kX8_writesNumber_10 C RET   _ _ _ h
  · have h := ob_f h hc1
    refine vi_iload_n C 1 dX8_writesNumber_4 rfl ?_
    refine vi_ineg C dX8_writesNumber_5 ?_
    refine vi_goto (tgt := 10) C dX8_writesNumber_6 (by decide) ?_
    refine vi_sub C [0, 1] rfl ?_
    exact kX8_writesNumber_10 C RET   _ _ _ h
theorem mX8_writesNumber {E : (Nat → Prop) → State → Heap → Prop} (hE : vEok E) {l : Launch} {D : va_G} {cI cF cC cS cO : ClassId} {q : Nat → Nat} {u0 : vS}  {x1 : Int32} {u : vS} (h : fX8_writesNumber x1 u = some u0) : vM E l yX8_writesNumber cX8_writesNumber 4 none 1 21 D (vT5 cI cF cC cS cO) [.ref (q 0), .int x1] (wR q cI u) (vQv D (wR q cI u0)) :=
  vM_of hE (by decide +kernel) (Nat.le_of_ble_eq_true rfl) (fun p e s m args below meth c A C hr => kX8_writesNumber_e C (vi_retv C hr) h)
