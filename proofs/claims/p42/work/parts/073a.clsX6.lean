-- ---- X6_clear
def fX6_clear (u : vX) : Option (vX) := bd ((up2 u.1 0 1 (0 : Int32), u.2)) fun u1 => some u1
set_option maxRecDepth 100000 in
set_option maxHeartbeats 4000000 in
theorem kX6_clear_e {ad adK adV : Nat → Nat} {tS tF : Nat} {tX sK sV : Nat → Nat} {p : Program} {l : Launch} {e : Env} {s : State} {m : MethodId} {args : Array Value} {below : List Frame} {meth : Method} {c : Code} {A : Nat → Prop} {D : va_G} {cI cF cC cS cO cB cZ : ClassId} {Q : State → Prop} {q : Nat → Nat} (C : vC (vE ad adK adV tS tF tX sK sV) p l s m args meth c A D (vT7 cI cF cC cS cO cB cZ) cX6_clear 1 RX6) {u0 : vX} (RET : ∀ (pc : Nat) (lv : List (Nat × Value)), decode cX6_clear pc = .ok (.return_, 1) → vV p l e { frames := 0, cells := 0, slots := 0, locals := 0 } s m args below meth c A D 1 0 0 Q (wTx q ad cI cC cO u0) pc lv []) {u : vX} (h : fX6_clear u = some u0) : vV p l e { frames := 0, cells := 0, slots := 0, locals := 0 } s m args below meth c A D 1 0 0 Q (wTx q ad cI cC cO u) 0 [(0, .ref (q 0))] [] := by
  rw [fX6_clear] at h
  refine vi_aload_n C 0 dX6_clear_0 rfl ?_
  refine vi_iconst (v := 0) C dX6_clear_1 (by decide) ?_
  obtain ⟨u1, eu1, h⟩ := ob_nm h
  refine pT_X6_0_1 C dX6_clear_2 eu1.symm ?_
  exact vi_donev (W := wTx q ad cI cC cO) RET h dX6_clear_5
theorem mX6_clear {ad adK adV : Nat → Nat} {tS tF : Nat} {tX sK sV : Nat → Nat} (hE : vEok (vE ad adK adV tS tF tX sK sV)) {l : Launch} {D : va_G} {cI cF cC cS cO cB cZ : ClassId} {q : Nat → Nat} {u0 : vX}  {u : vX} (h : fX6_clear u = some u0) : vM (vE ad adK adV tS tF tX sK sV) l yX6_clear cX6_clear 1 none 0 0 D (vT7 cI cF cC cS cO cB cZ) [.ref (q 0)] (wTx q ad cI cC cO u) (vQv D (wTx q ad cI cC cO u0)) :=
  vM_of hE (by decide +kernel) (Nat.le_of_ble_eq_true rfl) (fun p e s m args below meth c A C hr => kX6_clear_e C (vi_retv C hr) h)
-- ---- X6_isDigit
def fX6_isDigit (x1 : Int32) : Option (Int32) := (if x1 < (48 : Int32) then some (0 : Int32) else (if (57 : Int32) < x1 then some (0 : Int32) else some (1 : Int32)))
set_option maxRecDepth 100000 in
set_option maxHeartbeats 4000000 in
theorem kX6_isDigit_e {E : (Nat → Prop) → State → Heap → Prop} {p : Program} {l : Launch} {e : Env} {s : State} {m : MethodId} {args : Array Value} {below : List Frame} {meth : Method} {c : Code} {A : Nat → Prop} {D : va_G} {cI cF cC cS cO cB cZ : ClassId} {Q : State → Prop} (C : vC E p l s m args meth c A D (vT7 cI cF cC cS cO cB cZ) cX6_isDigit 1 RX6) {r0 : Int32} (RET : ∀ (pc : Nat) (lv : List (Nat × Value)), decode cX6_isDigit pc = .ok (.ireturn, 1) → (r0 = 0 ∨ r0 = 1) → vV p l e { frames := 0, cells := 0, slots := 0, locals := 0 } s m args below meth c A D 1 0 0 Q [] pc lv [.int r0]) {x1 : Int32} (h : fX6_isDigit x1 = some r0) : vV p l e { frames := 0, cells := 0, slots := 0, locals := 0 } s m args below meth c A D 1 0 0 Q [] 0 [(0, .int x1)] [] := by
  rw [fX6_isDigit] at h
  refine vi_iload_n C 0 dX6_isDigit_0 rfl ?_
  refine vi_bipush (v := 48) C dX6_isDigit_1 (by decide) ?_
  refine vi_icmp_lt (tgt := 16) C dX6_isDigit_3 (by decide) (fun hc1 => ?_) (fun hc1 => ?_)
  · have h := ob_t h hc1
    refine vi_iconst (v := 0) C dX6_isDigit_16 (by decide) ?_
    exact vi_donez0  RET h (by decide) dX6_isDigit_17
  · have h := ob_f h hc1
    refine vi_iload_n C 0 dX6_isDigit_6 rfl ?_
    refine vi_bipush (v := 57) C dX6_isDigit_7 (by decide) ?_
    refine vi_icmp_gt (tgt := 16) C dX6_isDigit_9 (by decide) (fun hc2 => ?_) (fun hc2 => ?_)
    · have h := ob_t h hc2
      refine vi_iconst (v := 0) C dX6_isDigit_16 (by decide) ?_
      exact vi_donez0  RET h (by decide) dX6_isDigit_17
    · have h := ob_f h hc2
      refine vi_iconst (v := 1) C dX6_isDigit_12 (by decide) ?_
      refine vi_goto (tgt := 17) C dX6_isDigit_13 (by decide) ?_
      exact vi_donez0  RET h (by decide) dX6_isDigit_17
theorem mX6_isDigit {E : (Nat → Prop) → State → Heap → Prop} (hE : vEok E) {l : Launch} {D : va_G} {cI cF cC cS cO cB cZ : ClassId} {r0 : Int32}  {x1 : Int32} (h : fX6_isDigit x1 = some r0) : vM E l yX6_isDigit cX6_isDigit 1 (some .boolean) 0 0 D (vT7 cI cF cC cS cO cB cZ) [.int x1] [] (vQi D [] r0) :=
  vM_of hE (by decide +kernel) (Nat.le_of_ble_eq_true rfl) (fun p e s m args below meth c A C hr => kX6_isDigit_e C (vi_retzz C hr) h)
-- ---- X6_isFit
def fX6_isFit (x1 : Int32) (x2 : Int32) : Option (Int32) := (if x1 = 86 then (fX6_isDigit x2).bind fun y1 => if y1 = 0 ∨ y1 = 1 then some y1 else none else (if x1 = 87 then (fX6_isDigit x2).bind fun y4 => if y4 = 0 ∨ y4 = 1 then some y4 else none else (if x1 = 88 then (fX6_isDigit x2).bind fun y7 => (if y7 = 0 then (if x2 < (97 : Int32) then some (0 : Int32) else (if (102 : Int32) < x2 then some (0 : Int32) else some (1 : Int32))) else some (1 : Int32)) else (if x2 = x1 then some (1 : Int32) else some (0 : Int32)))))
set_option maxRecDepth 100000 in
set_option maxHeartbeats 4000000 in
theorem kX6_isFit_e {E : (Nat → Prop) → State → Heap → Prop} {p : Program} {l : Launch} {e : Env} {s : State} {m : MethodId} {args : Array Value} {below : List Frame} {meth : Method} {c : Code} {A : Nat → Prop} {D : va_G} {cI cF cC cS cO cB cZ : ClassId} {Q : State → Prop} (C : vC E p l s m args meth c A D (vT7 cI cF cC cS cO cB cZ) cX6_isFit 2 RX6) {r0 : Int32} (RET : ∀ (pc : Nat) (lv : List (Nat × Value)), decode cX6_isFit pc = .ok (.ireturn, 1) → (r0 = 0 ∨ r0 = 1) → vV p l e { frames := 1, cells := 0, slots := 0, locals := 20 } s m args below meth c A D 2 0 0 Q [] pc lv [.int r0]) {x1 : Int32} {x2 : Int32} (h : fX6_isFit x1 x2 = some r0) : vV p l e { frames := 1, cells := 0, slots := 0, locals := 20 } s m args below meth c A D 2 0 0 Q [] 0 [(0, .int x1), (1, .int x2)] [] := by
  rw [fX6_isFit] at h
  refine vi_iload_n C 0 dX6_isFit_0 rfl ?_
  by_cases hc3 : x1 = 86
  · have h := ob_t h hc3
    refine vi_tswIn (off := 32) (tgt := 33) C dX6_isFit_1 (by rw [hc3]; decide) (by rw [hc3]; decide) (by rw [hc3]; rfl) (by decide) ?_
    refine vi_iload_n C 1 dX6_isFit_33 rfl ?_
    obtain ⟨y1, hgy1, h⟩ := ob_bd h
    refine vi_callS0i (As := [.int x2]) (rest := []) C (mX6_isDigit C.2.2.2.2.2.2.2.2.1 hgy1) 1 rfl tcX6_isDigit tlX6_77 ttX6_isDigit tnX6 tdX6_isDigit ⟨Nat.le_of_ble_eq_true rfl, Nat.le_of_ble_eq_true rfl⟩ rfl (Nat.le_of_ble_eq_true rfl) dX6_isFit_34 ?_
    obtain ⟨hz2, h⟩ := ob_ok h
    exact vi_donez0  RET h hz2 dX6_isFit_37
  · replace h := ob_f h hc3
    by_cases hc6 : x1 = 87
    · have h := ob_t h hc6
      refine vi_tswIn (off := 27) (tgt := 28) C dX6_isFit_1 (by rw [hc6]; decide) (by rw [hc6]; decide) (by rw [hc6]; rfl) (by decide) ?_
      refine vi_iload_n C 1 dX6_isFit_28 rfl ?_
      obtain ⟨y4, hgy4, h⟩ := ob_bd h
      refine vi_callS0i (As := [.int x2]) (rest := []) C (mX6_isDigit C.2.2.2.2.2.2.2.2.1 hgy4) 1 rfl tcX6_isDigit tlX6_77 ttX6_isDigit tnX6 tdX6_isDigit ⟨Nat.le_of_ble_eq_true rfl, Nat.le_of_ble_eq_true rfl⟩ rfl (Nat.le_of_ble_eq_true rfl) dX6_isFit_29 ?_
      obtain ⟨hz5, h⟩ := ob_ok h
      exact vi_donez0  RET h hz5 dX6_isFit_32
    · replace h := ob_f h hc6
      by_cases hc11 : x1 = 88
      · have h := ob_t h hc11
        refine vi_tswIn (off := 37) (tgt := 38) C dX6_isFit_1 (by rw [hc11]; decide) (by rw [hc11]; decide) (by rw [hc11]; rfl) (by decide) ?_
        refine vi_iload_n C 1 dX6_isFit_38 rfl ?_
        obtain ⟨y7, hgy7, h⟩ := ob_bd h
        refine vi_callS0i (As := [.int x2]) (rest := []) C (mX6_isDigit C.2.2.2.2.2.2.2.2.1 hgy7) 1 rfl tcX6_isDigit tlX6_77 ttX6_isDigit tnX6 tdX6_isDigit ⟨Nat.le_of_ble_eq_true rfl, Nat.le_of_ble_eq_true rfl⟩ rfl (Nat.le_of_ble_eq_true rfl) dX6_isFit_39 ?_
        refine vi_if_ne (tgt := 57) C dX6_isFit_42 (by decide) (fun hc8 => ?_) (fun hc8 => ?_)
        · have h := ob_f h hc8
          refine vi_iconst (v := 1) C dX6_isFit_57 (by decide) ?_
          refine vi_goto (tgt := 62) C dX6_isFit_58 (by decide) ?_
          exact vi_donez0  RET h (by decide) dX6_isFit_62
        · have h := ob_t h hc8
          refine vi_iload_n C 1 dX6_isFit_45 rfl ?_
          refine vi_bipush (v := 97) C dX6_isFit_46 (by decide) ?_
          refine vi_icmp_lt (tgt := 61) C dX6_isFit_48 (by decide) (fun hc9 => ?_) (fun hc9 => ?_)
          · have h := ob_t h hc9
            refine vi_iconst (v := 0) C dX6_isFit_61 (by decide) ?_
            exact vi_donez0  RET h (by decide) dX6_isFit_62
          · have h := ob_f h hc9
            refine vi_iload_n C 1 dX6_isFit_51 rfl ?_
            refine vi_bipush (v := 102) C dX6_isFit_52 (by decide) ?_
            refine vi_icmp_gt (tgt := 61) C dX6_isFit_54 (by decide) (fun hc10 => ?_) (fun hc10 => ?_)
            · have h := ob_t h hc10
              refine vi_iconst (v := 0) C dX6_isFit_61 (by decide) ?_
              exact vi_donez0  RET h (by decide) dX6_isFit_62
            · have h := ob_f h hc10
              refine vi_iconst (v := 1) C dX6_isFit_57 (by decide) ?_
              refine vi_goto (tgt := 62) C dX6_isFit_58 (by decide) ?_
              exact vi_donez0  RET h (by decide) dX6_isFit_62
      · replace h := ob_f h hc11
        refine vi_tswOut (tgt := 63) C dX6_isFit_1 (by have thc3 := lv_neT hc3 (a := 86) (by decide); have thc6 := lv_neT hc6 (a := 87) (by decide); have thc11 := lv_neT hc11 (a := 88) (by decide); omega) (by decide) ?_
        refine vi_iload_n C 1 dX6_isFit_63 rfl ?_
        refine vi_iload_n C 0 dX6_isFit_64 rfl ?_
        refine vi_icmp_ne (tgt := 72) C dX6_isFit_65 (by decide) (fun hc12 => ?_) (fun hc12 => ?_)
        · have h := ob_f h hc12
          refine vi_iconst (v := 0) C dX6_isFit_72 (by decide) ?_
          exact vi_donez0  RET h (by decide) dX6_isFit_73
        · have h := ob_t h hc12
          refine vi_iconst (v := 1) C dX6_isFit_68 (by decide) ?_
          refine vi_goto (tgt := 73) C dX6_isFit_69 (by decide) ?_
          exact vi_donez0  RET h (by decide) dX6_isFit_73
theorem mX6_isFit {E : (Nat → Prop) → State → Heap → Prop} (hE : vEok E) {l : Launch} {D : va_G} {cI cF cC cS cO cB cZ : ClassId} {r0 : Int32}  {x1 : Int32} {x2 : Int32} (h : fX6_isFit x1 x2 = some r0) : vM E l yX6_isFit cX6_isFit 2 (some .boolean) 1 20 D (vT7 cI cF cC cS cO cB cZ) [.int x1, .int x2] [] (vQi D [] r0) :=
  vM_of hE (by decide +kernel) (Nat.le_of_ble_eq_true rfl) (fun p e s m args below meth c A C hr => kX6_isFit_e C (vi_retzz C hr) h)
-- ---- X6_matchedAt
def fX6_matchedAt_2 : Nat → Nat → Int32 → Int32 → vX → Option (Int32 × vX)
  | 0, _, _, _, _ => none
  | n + 1, x1, x2, x3, u => if x1 < 10 then (fJ0_length_8abf5 x1).bind fun y2 => (if y2 ≤ x3 then some (x3, u) else (if u.1 0 1 ≤ x2 + x3 then some (x3, u) else if x1 < 10 then (fJ0_charAt_5068e x1 x3).bind fun y6 => if x2 + x3 < 0 ∨ 60 ≤ Int32.toNatClampNeg (x2 + x3) then none else (fX6_isFit y6 (u.1 1 (Int32.toNatClampNeg (x2 + x3)))).bind fun y8 => (if y8 = 0 then some (x3, u) else bd ((x3 + 1 : Int32)) fun y10 => fX6_matchedAt_2 n x1 x2 y10 u) else none)) else none
set_option maxRecDepth 100000 in
set_option maxHeartbeats 4000000 in
theorem kX6_matchedAt_2 {ad adK adV : Nat → Nat} {tS tF : Nat} {tX sK sV : Nat → Nat} {p : Program} {l : Launch} {e : Env} {s : State} {m : MethodId} {args : Array Value} {below : List Frame} {meth : Method} {c : Code} {A : Nat → Prop} {D : va_G} {cI cF cC cS cO cB cZ : ClassId} {Q : State → Prop} {q : Nat → Nat} (C : vC (vE ad adK adV tS tF tX sK sV) p l s m args meth c A D (vT7 cI cF cC cS cO cB cZ) cX6_matchedAt 4 RX6) {r0 : Int32} {u0 : vX} (RET : ∀ (pc : Nat) (lv : List (Nat × Value)), decode cX6_matchedAt pc = .ok (.ireturn, 1) → vV p l e { frames := 4, cells := 0, slots := 0, locals := 85 } s m args below meth c A D 4 0 0 Q (wTx q ad cI cC cO u0) pc lv [.int r0]) : ∀ (n : Nat) (x1 : Nat) (x2 : Int32) (x3 : Int32) (u : vX), fX6_matchedAt_2 n x1 x2 x3 u = some (r0, u0) → vV p l e { frames := 4, cells := 0, slots := 0, locals := 85 } s m args below meth c A D 4 0 0 Q (wTx q ad cI cC cO u) 2 [(0, .ref (q 0)), (1, .ref (adK x1)), (2, .int x2), (3, .int x3)] [] := by
  intro n
  induction n with
  | zero => intro x1 x2 x3 u h; rw [fX6_matchedAt_2] at h; cases h
  | succ n ih =>
    intro x1 x2 x3 u h
    rw [fX6_matchedAt_2] at h
    refine vi_iload_n C 3 dX6_matchedAt_2 rfl ?_
    refine vi_aload_n C 1 dX6_matchedAt_3 rfl ?_
    obtain ⟨hz1, h⟩ := ob_ok h
    obtain ⟨y2, hgy2, h⟩ := ob_bd h
    refine vi_callK0i (As := []) (rest := [.int x3]) C hz1 (mJ0_length_8abf5 C.2.2.2.2.2.2.2.2.1 hgy2) 0 rfl tcJ0_length_8abf5 tlX6_51 tiJ0_length_8abf5 tsJ0_length_8abf5 rfl tnJ0 tdJ0_length_8abf5 ⟨Nat.le_of_ble_eq_true rfl, Nat.le_of_ble_eq_true rfl⟩ rfl (Nat.le_of_ble_eq_true rfl) dX6_matchedAt_4 ?_
    refine vi_icmp_ge (tgt := 45) C dX6_matchedAt_7 (by decide) (fun hc3 => ?_) (fun hc3 => ?_)
    · have h := ob_t h hc3
      refine vi_iload_n C 3 dX6_matchedAt_45 rfl ?_
      exact vi_donei (W := wTx q ad cI cC cO) RET h dX6_matchedAt_46
    · have h := ob_f h hc3
      refine vi_iload_n C 2 dX6_matchedAt_10 rfl ?_
      refine vi_iload_n C 3 dX6_matchedAt_11 rfl ?_
      refine vi_iadd C dX6_matchedAt_12 ?_
      refine vi_aload_n C 0 dX6_matchedAt_13 rfl ?_
      refine gT_X6_0_1 C dX6_matchedAt_14 ?_
      refine vi_icmp_ge (tgt := 45) C dX6_matchedAt_17 (by decide) (fun hc4 => ?_) (fun hc4 => ?_)
      · have h := ob_t h hc4
        refine vi_iload_n C 3 dX6_matchedAt_45 rfl ?_
        exact vi_donei (W := wTx q ad cI cC cO) RET h dX6_matchedAt_46
      · have h := ob_f h hc4
        refine vi_aload_n C 1 dX6_matchedAt_20 rfl ?_
        refine vi_iload_n C 3 dX6_matchedAt_21 rfl ?_
        obtain ⟨hz5, h⟩ := ob_ok h
        obtain ⟨y6, hgy6, h⟩ := ob_bd h
        refine vi_callK0i (As := [.int x3]) (rest := []) C hz5 (mJ0_charAt_5068e C.2.2.2.2.2.2.2.2.1 hgy6) 1 rfl tcJ0_charAt_5068e tlX6_69 tiJ0_charAt_5068e tsJ0_charAt_5068e rfl tnJ0 tdJ0_charAt_5068e ⟨Nat.le_of_ble_eq_true rfl, Nat.le_of_ble_eq_true rfl⟩ rfl (Nat.le_of_ble_eq_true rfl) dX6_matchedAt_22 ?_
        refine vi_aload_n C 0 dX6_matchedAt_25 rfl ?_
        refine gT_X6_0_0 C dX6_matchedAt_26 ?_
        refine vi_iload_n C 2 dX6_matchedAt_29 rfl ?_
        refine vi_iload_n C 3 dX6_matchedAt_30 rfl ?_
        refine vi_iadd C dX6_matchedAt_31 ?_
        obtain ⟨hz7, h⟩ := ob_if h
        refine lT_X6_1 (n := (Int32.toNatClampNeg (x2 + x3))) C hz7 rfl dX6_matchedAt_32 ?_
        obtain ⟨y8, hgy8, h⟩ := ob_bd h
        refine vi_callS0i (As := [.int y6, .int (u.1 1 (Int32.toNatClampNeg (x2 + x3)))]) (rest := []) C (mX6_isFit C.2.2.2.2.2.2.2.2.1 hgy8) 2 rfl tcX6_isFit tlX6_73 ttX6_isFit tnX6 tdX6_isFit ⟨Nat.le_of_ble_eq_true rfl, Nat.le_of_ble_eq_true rfl⟩ rfl (Nat.le_of_ble_eq_true rfl) dX6_matchedAt_33 ?_
        refine vi_if_eq (tgt := 45) C dX6_matchedAt_36 (by decide) (fun hc9 => ?_) (fun hc9 => ?_)
        · have h := ob_t h hc9
          refine vi_iload_n C 3 dX6_matchedAt_45 rfl ?_
          exact vi_donei (W := wTx q ad cI cC cO) RET h dX6_matchedAt_46
        · have h := ob_f h hc9
          obtain ⟨y10, ey10, h⟩ := ob_nm h
          refine vi_iinc (v := y10) (lv' := [(3, .int y10), (0, .ref (q 0)), (1, .ref (adK x1)), (2, .int x2)]) C 3 dX6_matchedAt_39 rfl (by rw [ey10]; rfl) (by decide) rfl ?_
          refine vi_goto (tgt := 2) C dX6_matchedAt_42 (by decide) ?_
          refine vi_sub C [1, 2, 3, 0] rfl ?_
          exact ih _ _ _ _ h
def fX6_matchedAt (x1 : Nat) (x2 : Int32) (u : vX) : Option (Int32 × vX) := fX6_matchedAt_2 vF x1 x2 (0 : Int32) u
set_option maxRecDepth 100000 in
set_option maxHeartbeats 4000000 in
theorem kX6_matchedAt_e {ad adK adV : Nat → Nat} {tS tF : Nat} {tX sK sV : Nat → Nat} {p : Program} {l : Launch} {e : Env} {s : State} {m : MethodId} {args : Array Value} {below : List Frame} {meth : Method} {c : Code} {A : Nat → Prop} {D : va_G} {cI cF cC cS cO cB cZ : ClassId} {Q : State → Prop} {q : Nat → Nat} (C : vC (vE ad adK adV tS tF tX sK sV) p l s m args meth c A D (vT7 cI cF cC cS cO cB cZ) cX6_matchedAt 4 RX6) {r0 : Int32} {u0 : vX} (RET : ∀ (pc : Nat) (lv : List (Nat × Value)), decode cX6_matchedAt pc = .ok (.ireturn, 1) → vV p l e { frames := 4, cells := 0, slots := 0, locals := 85 } s m args below meth c A D 4 0 0 Q (wTx q ad cI cC cO u0) pc lv [.int r0]) {x1 : Nat} {x2 : Int32} {u : vX} (h : fX6_matchedAt x1 x2 u = some (r0, u0)) : vV p l e { frames := 4, cells := 0, slots := 0, locals := 85 } s m args below meth c A D 4 0 0 Q (wTx q ad cI cC cO u) 0 [(0, .ref (q 0)), (1, .ref (adK x1)), (2, .int x2)] [] := by
  rw [fX6_matchedAt] at h
  refine vi_iconst (v := 0) C dX6_matchedAt_0 (by decide) ?_
  refine vi_istore_n (lv' := [(3, .int (0 : Int32)), (0, .ref (q 0)), (1, .ref (adK x1)), (2, .int x2)]) C dX6_matchedAt_1 rfl (by decide) rfl ?_
  refine vi_sub C [1, 2, 3, 0] rfl ?_
  exact kX6_matchedAt_2 C RET  vF _ _ _ _ h
theorem mX6_matchedAt {ad adK adV : Nat → Nat} {tS tF : Nat} {tX sK sV : Nat → Nat} (hE : vEok (vE ad adK adV tS tF tX sK sV)) {l : Launch} {D : va_G} {cI cF cC cS cO cB cZ : ClassId} {q : Nat → Nat} {r0 : Int32} {u0 : vX}  {x1 : Nat} {x2 : Int32} {u : vX} (h : fX6_matchedAt x1 x2 u = some (r0, u0)) : vM (vE ad adK adV tS tF tX sK sV) l yX6_matchedAt cX6_matchedAt 4 (some .int) 4 85 D (vT7 cI cF cC cS cO cB cZ) [.ref (q 0), .ref (adK x1), .int x2] (wTx q ad cI cC cO u) (vQi D (wTx q ad cI cC cO u0) r0) :=
  vM_of hE (by decide +kernel) (Nat.le_of_ble_eq_true rfl) (fun p e s m args below meth c A C hr => kX6_matchedAt_e C (vi_reti C hr) h)
-- ---- X6_formAt
def fX6_formAt_2 : Nat → Int32 → Int32 → vX → Option (Option Nat × vX)
  | 0, _, _, _ => none
  | n + 1, x1, x2, u => (if (10 : Int32) ≤ x2 then some (none, u) else if x2 < 0 ∨ 10 ≤ Int32.toNatClampNeg x2 then none else if (Int32.toNatClampNeg x2) < 10 then obp (fX6_matchedAt (Int32.toNatClampNeg x2) x1 u) fun y5 u4 => if x2 < 0 ∨ 10 ≤ Int32.toNatClampNeg x2 then none else if (Int32.toNatClampNeg x2) < 10 then if (Int32.toNatClampNeg x2) < 10 then (fJ0_length_8abf5 (Int32.toNatClampNeg x2)).bind fun y9 => (if y5 = y9 then if x2 < 0 ∨ 10 ≤ Int32.toNatClampNeg x2 then none else some (some (Int32.toNatClampNeg x2), u4) else bd ((x2 + 1 : Int32)) fun y11 => fX6_formAt_2 n x1 y11 u4) else none else none else none)
set_option maxRecDepth 100000 in
set_option maxHeartbeats 4000000 in
theorem kX6_formAt_2 {ad adK adV : Nat → Nat} {tS tF : Nat} {tX sK sV : Nat → Nat} {p : Program} {l : Launch} {e : Env} {s : State} {m : MethodId} {args : Array Value} {below : List Frame} {meth : Method} {c : Code} {A : Nat → Prop} {D : va_G} {cI cF cC cS cO cB cZ : ClassId} {Q : State → Prop} {q : Nat → Nat} (C : vC (vE ad adK adV tS tF tX sK sV) p l s m args meth c A D (vT7 cI cF cC cS cO cB cZ) cX6_formAt 3 RX6) {r0 : Option Nat} {u0 : vX} (RET : ∀ (pc : Nat) (lv : List (Nat × Value)), decode cX6_formAt pc = .ok (.areturn, 1) → vV p l e { frames := 5, cells := 0, slots := 0, locals := 108 } s m args below meth c A D 3 0 0 Q (wTx q ad cI cC cO u0) pc lv [va_re ad r0]) : ∀ (n : Nat) (x1 : Int32) (x2 : Int32) (u : vX), fX6_formAt_2 n x1 x2 u = some (r0, u0) → vV p l e { frames := 5, cells := 0, slots := 0, locals := 108 } s m args below meth c A D 3 0 0 Q (wTx q ad cI cC cO u) 2 [(0, .ref (q 0)), (1, .int x1), (2, .int x2)] [] := by
  intro n
  induction n with
  | zero => intro x1 x2 u h; rw [fX6_formAt_2] at h; cases h
  | succ n ih =>
    intro x1 x2 u h
    rw [fX6_formAt_2] at h
    refine vi_iload_n C 2 dX6_formAt_2 rfl ?_
    refine vi_getFs (idx := 56) C (by decide) rfl dX6_formAt_3 ?_
    refine vi_lenFo C dX6_formAt_6 ?_
    refine vi_icmp_ge (tgt := 49) C dX6_formAt_7 (by decide) (fun hc1 => ?_) (fun hc1 => ?_)
    · have h := ob_t h hc1
      refine vi_null C dX6_formAt_49 ?_
      exact vi_doneq0 (W := wTx q ad cI cC cO) RET h dX6_formAt_50
    · have h := ob_f h hc1
      refine vi_aload_n C 0 dX6_formAt_10 rfl ?_
      refine vi_getFs (idx := 56) C (by decide) rfl dX6_formAt_11 ?_
      refine vi_iload_n C 2 dX6_formAt_14 rfl ?_
      obtain ⟨hz2, h⟩ := ob_if h
      refine vi_ldFo (n := (Int32.toNatClampNeg x2)) C hz2 rfl dX6_formAt_15 ?_
      obtain ⟨hz3, h⟩ := ob_ok h
      refine vi_getShape (idx := 47) C hz3 (by decide) rfl dX6_formAt_16 ?_
      refine vi_iload_n C 1 dX6_formAt_19 rfl ?_
      obtain ⟨y5, u4, hgu4, h⟩ := ob_p h
      refine cT_X6_i (As := [.ref (adK (Int32.toNatClampNeg x2)), .int x1]) (rest := []) C (mX6_matchedAt C.2.2.2.2.2.2.2.2.1 hgu4) 2 rfl tcX6_matchedAt tlX6_59 tiX6_matchedAt tsX6_matchedAt rfl tnX6 tdX6_matchedAt ⟨Nat.le_of_ble_eq_true rfl, Nat.le_of_ble_eq_true rfl⟩ rfl (Nat.le_of_ble_eq_true rfl) dX6_formAt_20 ?_
      refine vi_getFs (idx := 56) C (by decide) rfl dX6_formAt_23 ?_
      refine vi_iload_n C 2 dX6_formAt_26 rfl ?_
      obtain ⟨hz6, h⟩ := ob_if h
      refine vi_ldFo (n := (Int32.toNatClampNeg x2)) C hz6 rfl dX6_formAt_27 ?_
      obtain ⟨hz7, h⟩ := ob_ok h
      refine vi_getShape (idx := 47) C hz7 (by decide) rfl dX6_formAt_28 ?_
      obtain ⟨hz8, h⟩ := ob_ok h
      obtain ⟨y9, hgy9, h⟩ := ob_bd h
      refine vi_callK0i (As := []) (rest := [.int y5]) C hz8 (mJ0_length_8abf5 C.2.2.2.2.2.2.2.2.1 hgy9) 0 rfl tcJ0_length_8abf5 tlX6_51 tiJ0_length_8abf5 tsJ0_length_8abf5 rfl tnJ0 tdJ0_length_8abf5 ⟨Nat.le_of_ble_eq_true rfl, Nat.le_of_ble_eq_true rfl⟩ rfl (Nat.le_of_ble_eq_true rfl) dX6_formAt_31 ?_
      refine vi_icmp_ne (tgt := 43) C dX6_formAt_34 (by decide) (fun hc10 => ?_) (fun hc10 => ?_)
      · have h := ob_f h hc10
        obtain ⟨y11, ey11, h⟩ := ob_nm h
        refine vi_iinc (v := y11) (lv' := [(2, .int y11), (0, .ref (q 0)), (1, .int x1)]) C 2 dX6_formAt_43 rfl (by rw [ey11]; rfl) (by decide) rfl ?_
        refine vi_goto (tgt := 2) C dX6_formAt_46 (by decide) ?_
        refine vi_sub C [1, 2, 0] rfl ?_
        exact ih _ _ _ h
      · have h := ob_t h hc10
        refine vi_getFs (idx := 56) C (by decide) rfl dX6_formAt_37 ?_
        refine vi_iload_n C 2 dX6_formAt_40 rfl ?_
        obtain ⟨hz12, h⟩ := ob_if h
        refine vi_ldFo (n := (Int32.toNatClampNeg x2)) C hz12 rfl dX6_formAt_41 ?_
        exact vi_doneq1 (W := wTx q ad cI cC cO) RET h dX6_formAt_42
def fX6_formAt (x1 : Int32) (u : vX) : Option (Option Nat × vX) := fX6_formAt_2 vF x1 (0 : Int32) u
set_option maxRecDepth 100000 in
set_option maxHeartbeats 4000000 in
theorem kX6_formAt_e {ad adK adV : Nat → Nat} {tS tF : Nat} {tX sK sV : Nat → Nat} {p : Program} {l : Launch} {e : Env} {s : State} {m : MethodId} {args : Array Value} {below : List Frame} {meth : Method} {c : Code} {A : Nat → Prop} {D : va_G} {cI cF cC cS cO cB cZ : ClassId} {Q : State → Prop} {q : Nat → Nat} (C : vC (vE ad adK adV tS tF tX sK sV) p l s m args meth c A D (vT7 cI cF cC cS cO cB cZ) cX6_formAt 3 RX6) {r0 : Option Nat} {u0 : vX} (RET : ∀ (pc : Nat) (lv : List (Nat × Value)), decode cX6_formAt pc = .ok (.areturn, 1) → vV p l e { frames := 5, cells := 0, slots := 0, locals := 108 } s m args below meth c A D 3 0 0 Q (wTx q ad cI cC cO u0) pc lv [va_re ad r0]) {x1 : Int32} {u : vX} (h : fX6_formAt x1 u = some (r0, u0)) : vV p l e { frames := 5, cells := 0, slots := 0, locals := 108 } s m args below meth c A D 3 0 0 Q (wTx q ad cI cC cO u) 0 [(0, .ref (q 0)), (1, .int x1)] [] := by
  rw [fX6_formAt] at h
  refine vi_iconst (v := 0) C dX6_formAt_0 (by decide) ?_
  refine vi_istore_n (lv' := [(2, .int (0 : Int32)), (0, .ref (q 0)), (1, .int x1)]) C dX6_formAt_1 rfl (by decide) rfl ?_
  refine vi_sub C [1, 2, 0] rfl ?_
  exact kX6_formAt_2 C RET  vF _ _ _ h
theorem mX6_formAt {ad adK adV : Nat → Nat} {tS tF : Nat} {tX sK sV : Nat → Nat} (hE : vEok (vE ad adK adV tS tF tX sK sV)) {l : Launch} {D : va_G} {cI cF cC cS cO cB cZ : ClassId} {q : Nat → Nat} {r0 : Option Nat} {u0 : vX}  {x1 : Int32} {u : vX} (h : fX6_formAt x1 u = some (r0, u0)) : vM (vE ad adK adV tS tF tX sK sV) l yX6_formAt cX6_formAt 3 (some (FieldType.object "MoodSextant$Form")) 5 108 D (vT7 cI cF cC cS cO cB cZ) [.ref (q 0), .int x1] (wTx q ad cI cC cO u) (vQe ad D (wTx q ad cI cC cO u0) r0) :=
  vM_of hE (by decide +kernel) (Nat.le_of_ble_eq_true rfl) (fun p e s m args below meth c A C hr => kX6_formAt_e C (vi_rete C hr) h)
-- ---- X6_farthestAt
def fX6_farthestAt_4 : Nat → Int32 → Int32 → Int32 → vX → Option (Int32 × vX)
  | 0, _, _, _, _ => none
  | n + 1, x1, x2, x3, u => (if (10 : Int32) ≤ x3 then some (x2, u) else if x3 < 0 ∨ 10 ≤ Int32.toNatClampNeg x3 then none else if (Int32.toNatClampNeg x3) < 10 then obp (fX6_matchedAt (Int32.toNatClampNeg x3) x1 u) fun y5 u4 => (fJ9_max_7cf53 x2 y5).bind fun y6 => bd ((x3 + 1 : Int32)) fun y7 => fX6_farthestAt_4 n x1 y6 y7 u4 else none)
set_option maxRecDepth 100000 in
set_option maxHeartbeats 4000000 in
theorem kX6_farthestAt_4 {ad adK adV : Nat → Nat} {tS tF : Nat} {tX sK sV : Nat → Nat} {p : Program} {l : Launch} {e : Env} {s : State} {m : MethodId} {args : Array Value} {below : List Frame} {meth : Method} {c : Code} {A : Nat → Prop} {D : va_G} {cI cF cC cS cO cB cZ : ClassId} {Q : State → Prop} {q : Nat → Nat} (C : vC (vE ad adK adV tS tF tX sK sV) p l s m args meth c A D (vT7 cI cF cC cS cO cB cZ) cX6_farthestAt 4 RX6) {r0 : Int32} {u0 : vX} (RET : ∀ (pc : Nat) (lv : List (Nat × Value)), decode cX6_farthestAt pc = .ok (.ireturn, 1) → vV p l e { frames := 5, cells := 0, slots := 0, locals := 108 } s m args below meth c A D 4 0 0 Q (wTx q ad cI cC cO u0) pc lv [.int r0]) : ∀ (n : Nat) (x1 : Int32) (x2 : Int32) (x3 : Int32) (u : vX), fX6_farthestAt_4 n x1 x2 x3 u = some (r0, u0) → vV p l e { frames := 5, cells := 0, slots := 0, locals := 108 } s m args below meth c A D 4 0 0 Q (wTx q ad cI cC cO u) 4 [(0, .ref (q 0)), (1, .int x1), (2, .int x2), (3, .int x3)] [] := by
  intro n
  induction n with
  | zero => intro x1 x2 x3 u h; rw [fX6_farthestAt_4] at h; cases h
  | succ n ih =>
    intro x1 x2 x3 u h
    rw [fX6_farthestAt_4] at h
    refine vi_iload_n C 3 dX6_farthestAt_4 rfl ?_
    refine vi_getFs (idx := 56) C (by decide) rfl dX6_farthestAt_5 ?_
    refine vi_lenFo C dX6_farthestAt_8 ?_
    refine vi_icmp_ge (tgt := 36) C dX6_farthestAt_9 (by decide) (fun hc1 => ?_) (fun hc1 => ?_)
    · have h := ob_t h hc1
      refine vi_iload_n C 2 dX6_farthestAt_36 rfl ?_
      exact vi_donei (W := wTx q ad cI cC cO) RET h dX6_farthestAt_37
    · have h := ob_f h hc1
      refine vi_iload_n C 2 dX6_farthestAt_12 rfl ?_
      refine vi_aload_n C 0 dX6_farthestAt_13 rfl ?_
      refine vi_getFs (idx := 56) C (by decide) rfl dX6_farthestAt_14 ?_
      refine vi_iload_n C 3 dX6_farthestAt_17 rfl ?_
      obtain ⟨hz2, h⟩ := ob_if h
      refine vi_ldFo (n := (Int32.toNatClampNeg x3)) C hz2 rfl dX6_farthestAt_18 ?_
      obtain ⟨hz3, h⟩ := ob_ok h
      refine vi_getShape (idx := 47) C hz3 (by decide) rfl dX6_farthestAt_19 ?_
      refine vi_iload_n C 1 dX6_farthestAt_22 rfl ?_
      obtain ⟨y5, u4, hgu4, h⟩ := ob_p h
      refine cT_X6_i (As := [.ref (adK (Int32.toNatClampNeg x3)), .int x1]) (rest := [.int x2]) C (mX6_matchedAt C.2.2.2.2.2.2.2.2.1 hgu4) 2 rfl tcX6_matchedAt tlX6_59 tiX6_matchedAt tsX6_matchedAt rfl tnX6 tdX6_matchedAt ⟨Nat.le_of_ble_eq_true rfl, Nat.le_of_ble_eq_true rfl⟩ rfl (Nat.le_of_ble_eq_true rfl) dX6_farthestAt_23 ?_
      obtain ⟨y6, hgy6, h⟩ := ob_bd h
      refine vi_callS0i (As := [.int x2, .int y5]) (rest := []) C (mJ9_max_7cf53 C.2.2.2.2.2.2.2.2.1 hgy6) 2 rfl tcJ9_max_7cf53 tlX6_63 ttJ9_max_7cf53 tnJ9 tdJ9_max_7cf53 ⟨Nat.le_of_ble_eq_true rfl, Nat.le_of_ble_eq_true rfl⟩ rfl (Nat.le_of_ble_eq_true rfl) dX6_farthestAt_26 ?_
      refine vi_istore_n (lv' := [(2, .int y6), (0, .ref (q 0)), (1, .int x1), (3, .int x3)]) C dX6_farthestAt_29 rfl (by decide) rfl ?_
      obtain ⟨y7, ey7, h⟩ := ob_nm h
      refine vi_iinc (v := y7) (lv' := [(3, .int y7), (2, .int y6), (0, .ref (q 0)), (1, .int x1)]) C 3 dX6_farthestAt_30 rfl (by rw [ey7]; rfl) (by decide) rfl ?_
      refine vi_goto (tgt := 4) C dX6_farthestAt_33 (by decide) ?_
      refine vi_sub C [2, 3, 1, 0] rfl ?_
      exact ih _ _ _ _ h
def fX6_farthestAt (x1 : Int32) (u : vX) : Option (Int32 × vX) := fX6_farthestAt_4 vF x1 (0 : Int32) (0 : Int32) u
set_option maxRecDepth 100000 in
set_option maxHeartbeats 4000000 in
theorem kX6_farthestAt_e {ad adK adV : Nat → Nat} {tS tF : Nat} {tX sK sV : Nat → Nat} {p : Program} {l : Launch} {e : Env} {s : State} {m : MethodId} {args : Array Value} {below : List Frame} {meth : Method} {c : Code} {A : Nat → Prop} {D : va_G} {cI cF cC cS cO cB cZ : ClassId} {Q : State → Prop} {q : Nat → Nat} (C : vC (vE ad adK adV tS tF tX sK sV) p l s m args meth c A D (vT7 cI cF cC cS cO cB cZ) cX6_farthestAt 4 RX6) {r0 : Int32} {u0 : vX} (RET : ∀ (pc : Nat) (lv : List (Nat × Value)), decode cX6_farthestAt pc = .ok (.ireturn, 1) → vV p l e { frames := 5, cells := 0, slots := 0, locals := 108 } s m args below meth c A D 4 0 0 Q (wTx q ad cI cC cO u0) pc lv [.int r0]) {x1 : Int32} {u : vX} (h : fX6_farthestAt x1 u = some (r0, u0)) : vV p l e { frames := 5, cells := 0, slots := 0, locals := 108 } s m args below meth c A D 4 0 0 Q (wTx q ad cI cC cO u) 0 [(0, .ref (q 0)), (1, .int x1)] [] := by
  rw [fX6_farthestAt] at h
  refine vi_iconst (v := 0) C dX6_farthestAt_0 (by decide) ?_
  refine vi_istore_n (lv' := [(2, .int (0 : Int32)), (0, .ref (q 0)), (1, .int x1)]) C dX6_farthestAt_1 rfl (by decide) rfl ?_
  refine vi_iconst (v := 0) C dX6_farthestAt_2 (by decide) ?_
  refine vi_istore_n (lv' := [(3, .int (0 : Int32)), (2, .int (0 : Int32)), (0, .ref (q 0)), (1, .int x1)]) C dX6_farthestAt_3 rfl (by decide) rfl ?_
  refine vi_sub C [2, 3, 1, 0] rfl ?_
  exact kX6_farthestAt_4 C RET  vF _ _ _ _ h
theorem mX6_farthestAt {ad adK adV : Nat → Nat} {tS tF : Nat} {tX sK sV : Nat → Nat} (hE : vEok (vE ad adK adV tS tF tX sK sV)) {l : Launch} {D : va_G} {cI cF cC cS cO cB cZ : ClassId} {q : Nat → Nat} {r0 : Int32} {u0 : vX}  {x1 : Int32} {u : vX} (h : fX6_farthestAt x1 u = some (r0, u0)) : vM (vE ad adK adV tS tF tX sK sV) l yX6_farthestAt cX6_farthestAt 4 (some .int) 5 108 D (vT7 cI cF cC cS cO cB cZ) [.ref (q 0), .int x1] (wTx q ad cI cC cO u) (vQi D (wTx q ad cI cC cO u0) r0) :=
  vM_of hE (by decide +kernel) (Nat.le_of_ble_eq_true rfl) (fun p e s m args below meth c A C hr => kX6_farthestAt_e C (vi_reti C hr) h)
-- ---- X6_hexOf
def fX6_hexOf (x1 : Int32) : Option (Int32) := (fX6_isDigit x1).bind fun y1 => (if y1 = 0 then some ((x1 - (97 : Int32)) + (10 : Int32)) else some (x1 - (48 : Int32)))
set_option maxRecDepth 100000 in
set_option maxHeartbeats 4000000 in
theorem kX6_hexOf_e {E : (Nat → Prop) → State → Heap → Prop} {p : Program} {l : Launch} {e : Env} {s : State} {m : MethodId} {args : Array Value} {below : List Frame} {meth : Method} {c : Code} {A : Nat → Prop} {D : va_G} {cI cF cC cS cO cB cZ : ClassId} {Q : State → Prop} (C : vC E p l s m args meth c A D (vT7 cI cF cC cS cO cB cZ) cX6_hexOf 1 RX6) {r0 : Int32} (RET : ∀ (pc : Nat) (lv : List (Nat × Value)), decode cX6_hexOf pc = .ok (.ireturn, 1) → vV p l e { frames := 1, cells := 0, slots := 0, locals := 20 } s m args below meth c A D 1 0 0 Q [] pc lv [.int r0]) {x1 : Int32} (h : fX6_hexOf x1 = some r0) : vV p l e { frames := 1, cells := 0, slots := 0, locals := 20 } s m args below meth c A D 1 0 0 Q [] 0 [(0, .int x1)] [] := by
  rw [fX6_hexOf] at h
  refine vi_iload_n C 0 dX6_hexOf_0 rfl ?_
  obtain ⟨y1, hgy1, h⟩ := ob_bd h
  refine vi_callS0i (As := [.int x1]) (rest := []) C (mX6_isDigit C.2.2.2.2.2.2.2.2.1 hgy1) 1 rfl tcX6_isDigit tlX6_77 ttX6_isDigit tnX6 tdX6_isDigit ⟨Nat.le_of_ble_eq_true rfl, Nat.le_of_ble_eq_true rfl⟩ rfl (Nat.le_of_ble_eq_true rfl) dX6_hexOf_1 ?_
  refine vi_if_eq (tgt := 14) C dX6_hexOf_4 (by decide) (fun hc2 => ?_) (fun hc2 => ?_)
  · have h := ob_t h hc2
    refine vi_iload_n C 0 dX6_hexOf_14 rfl ?_
    refine vi_bipush (v := 97) C dX6_hexOf_15 (by decide) ?_
    refine vi_isub C dX6_hexOf_17 ?_
    refine vi_bipush (v := 10) C dX6_hexOf_18 (by decide) ?_
    refine vi_iadd C dX6_hexOf_20 ?_
    exact vi_donei0  RET h dX6_hexOf_21
  · have h := ob_f h hc2
    refine vi_iload_n C 0 dX6_hexOf_7 rfl ?_
    refine vi_bipush (v := 48) C dX6_hexOf_8 (by decide) ?_
    refine vi_isub C dX6_hexOf_10 ?_
    refine vi_goto (tgt := 21) C dX6_hexOf_11 (by decide) ?_
    exact vi_donei0  RET h dX6_hexOf_21
theorem mX6_hexOf {E : (Nat → Prop) → State → Heap → Prop} (hE : vEok E) {l : Launch} {D : va_G} {cI cF cC cS cO cB cZ : ClassId} {r0 : Int32}  {x1 : Int32} (h : fX6_hexOf x1 = some r0) : vM E l yX6_hexOf cX6_hexOf 1 (some .int) 1 20 D (vT7 cI cF cC cS cO cB cZ) [.int x1] [] (vQi D [] r0) :=
  vM_of hE (by decide +kernel) (Nat.le_of_ble_eq_true rfl) (fun p e s m args below meth c A C hr => kX6_hexOf_e C (vi_reti C hr) h)
-- ---- X6_keep
def fX6_keep_149 (x1 : Int32) (x2 : Int32) (x3 : Int32) (x4 : Nat) (x5 : Int32) (u : vX) : Option (vX) := if x4 < 10 then if x5 < 0 ∨ 15 ≤ Int32.toNatClampNeg x5 then none else bd ((u.1, va_up u.2 (Int32.toNatClampNeg x5) (some x4))) fun u3 => if u3.1 0 5 < 0 ∨ 15 ≤ Int32.toNatClampNeg (u3.1 0 5) then none else bd ((up2 u3.1 3 (Int32.toNatClampNeg (u3.1 0 5)) x1, u3.2)) fun u5 => (if x3 = 0 then if u5.1 0 5 < 0 ∨ 15 ≤ Int32.toNatClampNeg (u5.1 0 5) then none else bd ((up2 u5.1 4 (Int32.toNatClampNeg (u5.1 0 5)) x2, u5.2)) fun u8 => bd ((up2 u8.1 0 5 ((u8.1 0 5) + (1 : Int32)), u8.2)) fun u9 => some u9 else if u5.1 0 5 < 0 ∨ 15 ≤ Int32.toNatClampNeg (u5.1 0 5) then none else bd ((up2 u5.1 4 (Int32.toNatClampNeg (u5.1 0 5)) (-x2), u5.2)) fun u11 => bd ((up2 u11.1 0 5 ((u11.1 0 5) + (1 : Int32)), u11.2)) fun u12 => some u12) else none
set_option maxRecDepth 100000 in
set_option maxHeartbeats 4000000 in
theorem kX6_keep_149 {ad adK adV : Nat → Nat} {tS tF : Nat} {tX sK sV : Nat → Nat} {p : Program} {l : Launch} {e : Env} {s : State} {m : MethodId} {args : Array Value} {below : List Frame} {meth : Method} {c : Code} {A : Nat → Prop} {D : va_G} {cI cF cC cS cO cB cZ : ClassId} {Q : State → Prop} {q : Nat → Nat} (C : vC (vE ad adK adV tS tF tX sK sV) p l s m args meth c A D (vT7 cI cF cC cS cO cB cZ) cX6_keep 7 RX6) {u0 : vX} (RET : ∀ (pc : Nat) (lv : List (Nat × Value)), decode cX6_keep pc = .ok (.return_, 1) → vV p l e { frames := 4, cells := 0, slots := 0, locals := 85 } s m args below meth c A D 7 0 0 Q (wTx q ad cI cC cO u0) pc lv []) : ∀ (x1 : Int32) (x2 : Int32) (x3 : Int32) (x4 : Nat) (x5 : Int32) (u : vX), fX6_keep_149 x1 x2 x3 x4 x5 u = some u0 → vV p l e { frames := 4, cells := 0, slots := 0, locals := 85 } s m args below meth c A D 7 0 0 Q (wTx q ad cI cC cO u) 149 [(0, .ref (q 0)), (3, .int x1), (4, .int x2), (5, .int x3)] [.ref (ad x4), .int x5, .ref (q 2)] := by
  intro x1 x2 x3 x4 x5 u h
  rw [fX6_keep_149] at h
  obtain ⟨hz1, h⟩ := ob_ok h
  obtain ⟨hz2, h⟩ := ob_if h
  obtain ⟨u3, eu3, h⟩ := ob_nm h
  refine sT_X6_2 (n := (Int32.toNatClampNeg x5)) C hz1 hz2 rfl dX6_keep_149 eu3.symm ?_
  refine vi_aload_n C 0 dX6_keep_150 rfl ?_
  refine gT_X6_0_3 C dX6_keep_151 ?_
  refine vi_aload_n C 0 dX6_keep_154 rfl ?_
  refine gT_X6_0_5 C dX6_keep_155 ?_
  refine vi_iload_n C 1 dX6_keep_158 rfl ?_
  obtain ⟨hz4, h⟩ := ob_if h
  obtain ⟨u5, eu5, h⟩ := ob_nm h
  refine sT_X6_3 (n := (Int32.toNatClampNeg (u3.1 0 5))) C hz4 rfl dX6_keep_159 eu5.symm ?_
  refine vi_aload_n C 0 dX6_keep_160 rfl ?_
  refine gT_X6_0_4 C dX6_keep_161 ?_
  refine vi_aload_n C 0 dX6_keep_164 rfl ?_
  refine gT_X6_0_5 C dX6_keep_165 ?_
  refine vi_iload C 3 dX6_keep_168 rfl ?_
  refine vi_if_eq (tgt := 179) C dX6_keep_170 (by decide) (fun hc6 => ?_) (fun hc6 => ?_)
  · have h := ob_t h hc6
    refine vi_iload C 2 dX6_keep_179 rfl ?_
    obtain ⟨hz7, h⟩ := ob_if h
    obtain ⟨u8, eu8, h⟩ := ob_nm h
    refine sT_X6_4 (n := (Int32.toNatClampNeg (u5.1 0 5))) C hz7 rfl dX6_keep_181 eu8.symm ?_
    refine vi_aload_n C 0 dX6_keep_182 rfl ?_
    refine vi_dup C dX6_keep_183 rfl ?_
    refine gT_X6_0_5 C dX6_keep_184 ?_
    refine vi_iconst (v := 1) C dX6_keep_187 (by decide) ?_
    refine vi_iadd C dX6_keep_188 ?_
    obtain ⟨u9, eu9, h⟩ := ob_nm h
    refine pT_X6_0_5 C dX6_keep_189 eu9.symm ?_
    exact vi_donev (W := wTx q ad cI cC cO) RET h dX6_keep_192
  · have h := ob_f h hc6
    refine vi_iload C 2 dX6_keep_173 rfl ?_
    refine vi_ineg C dX6_keep_175 ?_
    refine vi_goto (tgt := 181) C dX6_keep_176 (by decide) ?_
    obtain ⟨hz10, h⟩ := ob_if h
    obtain ⟨u11, eu11, h⟩ := ob_nm h
    refine sT_X6_4 (n := (Int32.toNatClampNeg (u5.1 0 5))) C hz10 rfl dX6_keep_181 eu11.symm ?_
    refine vi_aload_n C 0 dX6_keep_182 rfl ?_
    refine vi_dup C dX6_keep_183 rfl ?_
    refine gT_X6_0_5 C dX6_keep_184 ?_
    refine vi_iconst (v := 1) C dX6_keep_187 (by decide) ?_
    refine vi_iadd C dX6_keep_188 ?_
    obtain ⟨u12, eu12, h⟩ := ob_nm h
    refine pT_X6_0_5 C dX6_keep_189 eu12.symm ?_
    exact vi_donev (W := wTx q ad cI cC cO) RET h dX6_keep_192
def fX6_keep_127 (x1 : Nat) (x2 : Int32) (x3 : Int32) (x4 : Int32) (u : vX) : Option (vX) := (if x4 = 0 then fX6_keep_149 x2 x3 x4 x1 (u.1 0 5) u else fX6_keep_149 x2 x3 x4 (7) (u.1 0 5) u)
set_option maxRecDepth 100000 in
set_option maxHeartbeats 4000000 in
theorem kX6_keep_127 {ad adK adV : Nat → Nat} {tS tF : Nat} {tX sK sV : Nat → Nat} {p : Program} {l : Launch} {e : Env} {s : State} {m : MethodId} {args : Array Value} {below : List Frame} {meth : Method} {c : Code} {A : Nat → Prop} {D : va_G} {cI cF cC cS cO cB cZ : ClassId} {Q : State → Prop} {q : Nat → Nat} (C : vC (vE ad adK adV tS tF tX sK sV) p l s m args meth c A D (vT7 cI cF cC cS cO cB cZ) cX6_keep 7 RX6) {u0 : vX} (RET : ∀ (pc : Nat) (lv : List (Nat × Value)), decode cX6_keep pc = .ok (.return_, 1) → vV p l e { frames := 4, cells := 0, slots := 0, locals := 85 } s m args below meth c A D 7 0 0 Q (wTx q ad cI cC cO u0) pc lv []) : ∀ (x1 : Nat) (x2 : Int32) (x3 : Int32) (x4 : Int32) (u : vX), fX6_keep_127 x1 x2 x3 x4 u = some u0 → vV p l e { frames := 4, cells := 0, slots := 0, locals := 85 } s m args below meth c A D 7 0 0 Q (wTx q ad cI cC cO u) 127 [(0, .ref (q 0)), (1, .ref (ad x1)), (3, .int x2), (4, .int x3)] [.int x4] := by
  intro x1 x2 x3 x4 u h
  rw [fX6_keep_127] at h
  refine vi_istore (lv' := [(5, .int x4), (0, .ref (q 0)), (1, .ref (ad x1)), (3, .int x2), (4, .int x3)]) C dX6_keep_127 (by decide) rfl ?_
  refine vi_aload_n C 1 dX6_keep_129 rfl ?_
  refine gT_X6_0_2 C dX6_keep_130 ?_
  refine vi_aload_n C 1 dX6_keep_133 rfl ?_
  refine gT_X6_0_5 C dX6_keep_134 ?_
  refine vi_iload C 0 dX6_keep_137 rfl ?_
  refine vi_if_eq (tgt := 148) C dX6_keep_139 (by decide) (fun hc1 => ?_) (fun hc1 => ?_)
  · have h := ob_t h hc1
    refine vi_aload_n C 2 dX6_keep_148 rfl ?_
    refine vi_sub C [1, 3, 4, 0] rfl ?_
    exact kX6_keep_149 C RET   _ _ _ _ _ _ h
  · have h := ob_f h hc1
    refine vi_getF C 7 (by decide) tfX6_89 dX6_keep_142 ?_
    refine vi_goto (tgt := 149) C dX6_keep_145 (by decide) ?_
    refine vi_sub C [1, 3, 4, 0] rfl ?_
    exact kX6_keep_149 C RET   _ _ _ _ _ _ h
def fX6_keep_89 (rec_18 : Nat → Int32 → Int32 → Int32 → Int32 → vX → Option (vX)) (x1 : Nat) (x2 : Int32) (x3 : Int32) (x4 : Int32) (x5 : Int32) (u : vX) : Option (vX) := if x2 + x5 < 0 ∨ 60 ≤ Int32.toNatClampNeg (x2 + x5) then none else (fX6_hexOf (u.1 1 (Int32.toNatClampNeg (x2 + x5)))).bind fun y2 => bd (((x4 * (16 : Int32)) + y2 : Int32)) fun y3 => bd ((x5 + 1 : Int32)) fun y4 => rec_18 x1 x2 x3 y3 y4 u
set_option maxRecDepth 100000 in
set_option maxHeartbeats 4000000 in
theorem kX6_keep_89 {ad adK adV : Nat → Nat} {tS tF : Nat} {tX sK sV : Nat → Nat} {p : Program} {l : Launch} {e : Env} {s : State} {m : MethodId} {args : Array Value} {below : List Frame} {meth : Method} {c : Code} {A : Nat → Prop} {D : va_G} {cI cF cC cS cO cB cZ : ClassId} {Q : State → Prop} {q : Nat → Nat} (C : vC (vE ad adK adV tS tF tX sK sV) p l s m args meth c A D (vT7 cI cF cC cS cO cB cZ) cX6_keep 7 RX6) {u0 : vX} (RET : ∀ (pc : Nat) (lv : List (Nat × Value)), decode cX6_keep pc = .ok (.return_, 1) → vV p l e { frames := 4, cells := 0, slots := 0, locals := 85 } s m args below meth c A D 7 0 0 Q (wTx q ad cI cC cO u0) pc lv []) {rec_18 : Nat → Int32 → Int32 → Int32 → Int32 → vX → Option (vX)} (REC_18 : ∀ (x1 : Nat) (x2 : Int32) (x3 : Int32) (x4 : Int32) (x5 : Int32) (u : vX), rec_18 x1 x2 x3 x4 x5 u = some u0 → vV p l e { frames := 4, cells := 0, slots := 0, locals := 85 } s m args below meth c A D 7 0 0 Q (wTx q ad cI cC cO u) 18 [(0, .ref (q 0)), (1, .ref (ad x1)), (2, .int x2), (3, .int x3), (4, .int x4), (5, .int x5)] []) : ∀ (x1 : Nat) (x2 : Int32) (x3 : Int32) (x4 : Int32) (x5 : Int32) (u : vX), fX6_keep_89 rec_18 x1 x2 x3 x4 x5 u = some u0 → vV p l e { frames := 4, cells := 0, slots := 0, locals := 85 } s m args below meth c A D 7 0 0 Q (wTx q ad cI cC cO u) 89 [(0, .ref (q 0)), (1, .ref (ad x1)), (2, .int x2), (3, .int x3), (4, .int x4), (5, .int x5)] [] := by
  intro x1 x2 x3 x4 x5 u h
  rw [fX6_keep_89] at h
  refine vi_iload C 4 dX6_keep_89 rfl ?_
  refine vi_bipush (v := 16) C dX6_keep_91 (by decide) ?_
  refine vi_imul C dX6_keep_93 ?_
  refine vi_aload_n C 0 dX6_keep_94 rfl ?_
  refine gT_X6_0_0 C dX6_keep_95 ?_
  refine vi_iload_n C 2 dX6_keep_98 rfl ?_
  refine vi_iload C 5 dX6_keep_99 rfl ?_
  refine vi_iadd C dX6_keep_101 ?_
  obtain ⟨hz1, h⟩ := ob_if h
  refine lT_X6_1 (n := (Int32.toNatClampNeg (x2 + x5))) C hz1 rfl dX6_keep_102 ?_
  obtain ⟨y2, hgy2, h⟩ := ob_bd h
  refine vi_callS0i (As := [.int (u.1 1 (Int32.toNatClampNeg (x2 + x5)))]) (rest := [.int (x4 * (16 : Int32))]) C (mX6_hexOf C.2.2.2.2.2.2.2.2.1 hgy2) 1 rfl tcX6_hexOf tlX6_81 ttX6_hexOf tnX6 tdX6_hexOf ⟨Nat.le_of_ble_eq_true rfl, Nat.le_of_ble_eq_true rfl⟩ rfl (Nat.le_of_ble_eq_true rfl) dX6_keep_103 ?_
  refine vi_iadd C dX6_keep_106 ?_
  obtain ⟨y3, ey3, h⟩ := ob_nm h
  refine vi_nmi ey3 ?_
  refine vi_istore (lv' := [(4, .int y3), (0, .ref (q 0)), (1, .ref (ad x1)), (2, .int x2), (3, .int x3), (5, .int x5)]) C dX6_keep_107 (by decide) rfl ?_
  obtain ⟨y4, ey4, h⟩ := ob_nm h
  refine vi_iinc (v := y4) (lv' := [(5, .int y4), (4, .int y3), (0, .ref (q 0)), (1, .ref (ad x1)), (2, .int x2), (3, .int x3)]) C 5 dX6_keep_109 rfl (by rw [ey4]; rfl) (by decide) rfl ?_
  refine vi_goto (tgt := 18) C dX6_keep_112 (by decide) ?_
  refine vi_sub C [2, 3, 4, 5, 1, 0] rfl ?_
  exact REC_18 _ _ _ _ _ _ h
def fX6_keep_18 : Nat → Nat → Int32 → Int32 → Int32 → Int32 → vX → Option (vX)
  | 0, _, _, _, _, _, _ => none
  | n + 1, x1, x2, x3, x4, x5, u => if x1 < 10 then if x1 < 10 then (fJ0_length_8abf5 x1).bind fun y3 => (if y3 ≤ x5 then if x1 < 10 then (if x1 = 8 then fX6_keep_127 x1 x3 x4 (1 : Int32) u else fX6_keep_127 x1 x3 x4 (0 : Int32) u) else none else (if u.1 0 1 ≤ x2 + x5 then if x1 < 10 then (if x1 = 8 then fX6_keep_127 x1 x3 x4 (1 : Int32) u else fX6_keep_127 x1 x3 x4 (0 : Int32) u) else none else if x1 < 10 then if x1 < 10 then (fJ0_charAt_5068e x1 x5).bind fun y14 => (if y14 = (87 : Int32) then if x2 + x5 < 0 ∨ 60 ≤ Int32.toNatClampNeg (x2 + x5) then none else (fX6_hexOf (u.1 1 (Int32.toNatClampNeg (x2 + x5)))).bind fun y20 => bd ((x5 + 1 : Int32)) fun y21 => fX6_keep_18 n x1 x2 y20 x4 y21 u else (if y14 = (86 : Int32) then fX6_keep_89 (fun a0 a1 a2 a3 a4 a5 => fX6_keep_18 n  a0 a1 a2 a3 a4 a5) x1 x2 x3 x4 x5 u else (if y14 = (88 : Int32) then fX6_keep_89 (fun a0 a1 a2 a3 a4 a5 => fX6_keep_18 n  a0 a1 a2 a3 a4 a5) x1 x2 x3 x4 x5 u else bd ((x5 + 1 : Int32)) fun y18 => fX6_keep_18 n x1 x2 x3 x4 y18 u))) else none else none)) else none else none
set_option maxRecDepth 100000 in
set_option maxHeartbeats 4000000 in
theorem kX6_keep_18 {ad adK adV : Nat → Nat} {tS tF : Nat} {tX sK sV : Nat → Nat} {p : Program} {l : Launch} {e : Env} {s : State} {m : MethodId} {args : Array Value} {below : List Frame} {meth : Method} {c : Code} {A : Nat → Prop} {D : va_G} {cI cF cC cS cO cB cZ : ClassId} {Q : State → Prop} {q : Nat → Nat} (C : vC (vE ad adK adV tS tF tX sK sV) p l s m args meth c A D (vT7 cI cF cC cS cO cB cZ) cX6_keep 7 RX6) {u0 : vX} (RET : ∀ (pc : Nat) (lv : List (Nat × Value)), decode cX6_keep pc = .ok (.return_, 1) → vV p l e { frames := 4, cells := 0, slots := 0, locals := 85 } s m args below meth c A D 7 0 0 Q (wTx q ad cI cC cO u0) pc lv []) : ∀ (n : Nat) (x1 : Nat) (x2 : Int32) (x3 : Int32) (x4 : Int32) (x5 : Int32) (u : vX), fX6_keep_18 n x1 x2 x3 x4 x5 u = some u0 → vV p l e { frames := 4, cells := 0, slots := 0, locals := 85 } s m args below meth c A D 7 0 0 Q (wTx q ad cI cC cO u) 18 [(0, .ref (q 0)), (1, .ref (ad x1)), (2, .int x2), (3, .int x3), (4, .int x4), (5, .int x5)] [] := by
  intro n
  induction n with
  | zero => intro x1 x2 x3 x4 x5 u h; rw [fX6_keep_18] at h; cases h
  | succ n ih =>
    intro x1 x2 x3 x4 x5 u h
    rw [fX6_keep_18] at h
    refine vi_iload C 5 dX6_keep_18 rfl ?_
    refine vi_aload_n C 1 dX6_keep_20 rfl ?_
    obtain ⟨hz1, h⟩ := ob_ok h
    refine vi_getShape (idx := 47) C hz1 (by decide) rfl dX6_keep_21 ?_
    obtain ⟨hz2, h⟩ := ob_ok h
    obtain ⟨y3, hgy3, h⟩ := ob_bd h
    refine vi_callK0i (As := []) (rest := [.int x5]) C hz2 (mJ0_length_8abf5 C.2.2.2.2.2.2.2.2.1 hgy3) 0 rfl tcJ0_length_8abf5 tlX6_51 tiJ0_length_8abf5 tsJ0_length_8abf5 rfl tnJ0 tdJ0_length_8abf5 ⟨Nat.le_of_ble_eq_true rfl, Nat.le_of_ble_eq_true rfl⟩ rfl (Nat.le_of_ble_eq_true rfl) dX6_keep_24 ?_
    refine vi_icmp_ge (tgt := 115) C dX6_keep_27 (by decide) (fun hc4 => ?_) (fun hc4 => ?_)
    · have h := ob_t h hc4
      refine vi_aload_n C 1 dX6_keep_115 rfl ?_
      refine vi_getF C 8 (by decide) tfX6_85 dX6_keep_116 ?_
      obtain ⟨hz6, h⟩ := ob_ok h
      refine vi_acmpF_ne (tgt := 126) C hz6 (by decide) dX6_keep_119 (by decide) (fun hc7 => ?_) (fun hc7 => ?_)
      · have h := ob_f h hc7
        refine vi_iconst (v := 0) C dX6_keep_126 (by decide) ?_
        refine vi_sub C [0, 1, 3, 4] rfl ?_
        exact kX6_keep_127 C RET   _ _ _ _ _ h
      · have h := ob_t h hc7
        refine vi_iconst (v := 1) C dX6_keep_122 (by decide) ?_
        refine vi_goto (tgt := 127) C dX6_keep_123 (by decide) ?_
        refine vi_sub C [0, 1, 3, 4] rfl ?_
        exact kX6_keep_127 C RET   _ _ _ _ _ h
    · have h := ob_f h hc4
      refine vi_iload_n C 2 dX6_keep_30 rfl ?_
      refine vi_iload C 5 dX6_keep_31 rfl ?_
      refine vi_iadd C dX6_keep_33 ?_
      refine vi_aload_n C 0 dX6_keep_34 rfl ?_
      refine gT_X6_0_1 C dX6_keep_35 ?_
      refine vi_icmp_ge (tgt := 115) C dX6_keep_38 (by decide) (fun hc8 => ?_) (fun hc8 => ?_)
      · have h := ob_t h hc8
        refine vi_aload_n C 1 dX6_keep_115 rfl ?_
        refine vi_getF C 8 (by decide) tfX6_85 dX6_keep_116 ?_
        obtain ⟨hz10, h⟩ := ob_ok h
        refine vi_acmpF_ne (tgt := 126) C hz10 (by decide) dX6_keep_119 (by decide) (fun hc11 => ?_) (fun hc11 => ?_)
        · have h := ob_f h hc11
          refine vi_iconst (v := 0) C dX6_keep_126 (by decide) ?_
          refine vi_sub C [0, 1, 3, 4] rfl ?_
          exact kX6_keep_127 C RET   _ _ _ _ _ h
        · have h := ob_t h hc11
          refine vi_iconst (v := 1) C dX6_keep_122 (by decide) ?_
          refine vi_goto (tgt := 127) C dX6_keep_123 (by decide) ?_
          refine vi_sub C [0, 1, 3, 4] rfl ?_
          exact kX6_keep_127 C RET   _ _ _ _ _ h
      · have h := ob_f h hc8
        refine vi_aload_n C 1 dX6_keep_41 rfl ?_
        obtain ⟨hz12, h⟩ := ob_ok h
        refine vi_getShape (idx := 47) C hz12 (by decide) rfl dX6_keep_42 ?_
        refine vi_iload C 5 dX6_keep_45 rfl ?_
        obtain ⟨hz13, h⟩ := ob_ok h
        obtain ⟨y14, hgy14, h⟩ := ob_bd h
        refine vi_callK0i (As := [.int x5]) (rest := []) C hz13 (mJ0_charAt_5068e C.2.2.2.2.2.2.2.2.1 hgy14) 1 rfl tcJ0_charAt_5068e tlX6_69 tiJ0_charAt_5068e tsJ0_charAt_5068e rfl tnJ0 tdJ0_charAt_5068e ⟨Nat.le_of_ble_eq_true rfl, Nat.le_of_ble_eq_true rfl⟩ rfl (Nat.le_of_ble_eq_true rfl) dX6_keep_47 ?_
        refine vi_istore (lv' := [(6, .int y14), (0, .ref (q 0)), (1, .ref (ad x1)), (2, .int x2), (3, .int x3), (4, .int x4), (5, .int x5)]) C dX6_keep_50 (by decide) rfl ?_
        refine vi_iload C 0 dX6_keep_52 rfl ?_
        refine vi_bipush (v := 87) C dX6_keep_54 (by decide) ?_
        refine vi_icmp_ne (tgt := 75) C dX6_keep_56 (by decide) (fun hc15 => ?_) (fun hc15 => ?_)
        · have h := ob_f h hc15
          refine vi_iload C 0 dX6_keep_75 rfl ?_
          refine vi_bipush (v := 86) C dX6_keep_77 (by decide) ?_
          refine vi_icmp_eq (tgt := 89) C dX6_keep_79 (by decide) (fun hc16 => ?_) (fun hc16 => ?_)
          · have h := ob_t h hc16
            refine vi_sub C [1, 2, 3, 4, 5, 6] rfl ?_
            exact kX6_keep_89 C RET ih  _ _ _ _ _ _ h
          · have h := ob_f h hc16
            refine vi_iload C 0 dX6_keep_82 rfl ?_
            refine vi_bipush (v := 88) C dX6_keep_84 (by decide) ?_
            refine vi_icmp_ne (tgt := 109) C dX6_keep_86 (by decide) (fun hc17 => ?_) (fun hc17 => ?_)
            · have h := ob_f h hc17
              obtain ⟨y18, ey18, h⟩ := ob_nm h
              refine vi_iinc (v := y18) (lv' := [(5, .int y18), (6, .int y14), (0, .ref (q 0)), (1, .ref (ad x1)), (2, .int x2), (3, .int x3), (4, .int x4)]) C 6 dX6_keep_109 rfl (by rw [ey18]; rfl) (by decide) rfl ?_
              refine vi_goto (tgt := 18) C dX6_keep_112 (by decide) ?_
              refine vi_sub C [2, 3, 4, 5, 6, 0] rfl ?_
              exact ih _ _ _ _ _ _ h
            · have h := ob_t h hc17
              refine vi_sub C [1, 2, 3, 4, 5, 6] rfl ?_
              exact kX6_keep_89 C RET ih  _ _ _ _ _ _ h
        · have h := ob_t h hc15
          refine vi_aload_n C 1 dX6_keep_59 rfl ?_
          refine gT_X6_0_0 C dX6_keep_60 ?_
          refine vi_iload_n C 3 dX6_keep_63 rfl ?_
          refine vi_iload C 6 dX6_keep_64 rfl ?_
          refine vi_iadd C dX6_keep_66 ?_
          obtain ⟨hz19, h⟩ := ob_if h
          refine lT_X6_1 (n := (Int32.toNatClampNeg (x2 + x5))) C hz19 rfl dX6_keep_67 ?_
          obtain ⟨y20, hgy20, h⟩ := ob_bd h
          refine vi_callS0i (As := [.int (u.1 1 (Int32.toNatClampNeg (x2 + x5)))]) (rest := []) C (mX6_hexOf C.2.2.2.2.2.2.2.2.1 hgy20) 1 rfl tcX6_hexOf tlX6_81 ttX6_hexOf tnX6 tdX6_hexOf ⟨Nat.le_of_ble_eq_true rfl, Nat.le_of_ble_eq_true rfl⟩ rfl (Nat.le_of_ble_eq_true rfl) dX6_keep_68 ?_
          refine vi_istore_n (lv' := [(3, .int y20), (6, .int y14), (0, .ref (q 0)), (1, .ref (ad x1)), (2, .int x2), (4, .int x4), (5, .int x5)]) C dX6_keep_71 rfl (by decide) rfl ?_
          refine vi_goto (tgt := 109) C dX6_keep_72 (by decide) ?_
          obtain ⟨y21, ey21, h⟩ := ob_nm h
          refine vi_iinc (v := y21) (lv' := [(5, .int y21), (3, .int y20), (6, .int y14), (0, .ref (q 0)), (1, .ref (ad x1)), (2, .int x2), (4, .int x4)]) C 6 dX6_keep_109 rfl (by rw [ey21]; rfl) (by decide) rfl ?_
          refine vi_goto (tgt := 18) C dX6_keep_112 (by decide) ?_
          refine vi_sub C [3, 4, 5, 1, 6, 0] rfl ?_
          exact ih _ _ _ _ _ _ h
def fX6_keep (x1 : Nat) (x2 : Int32) (u : vX) : Option (vX) := (if u.1 0 5 < (15 : Int32) then fX6_keep_18 vF x1 x2 (0 : Int32) (0 : Int32) (0 : Int32) u else some u)
set_option maxRecDepth 100000 in
set_option maxHeartbeats 4000000 in
theorem kX6_keep_e {ad adK adV : Nat → Nat} {tS tF : Nat} {tX sK sV : Nat → Nat} {p : Program} {l : Launch} {e : Env} {s : State} {m : MethodId} {args : Array Value} {below : List Frame} {meth : Method} {c : Code} {A : Nat → Prop} {D : va_G} {cI cF cC cS cO cB cZ : ClassId} {Q : State → Prop} {q : Nat → Nat} (C : vC (vE ad adK adV tS tF tX sK sV) p l s m args meth c A D (vT7 cI cF cC cS cO cB cZ) cX6_keep 7 RX6) {u0 : vX} (RET : ∀ (pc : Nat) (lv : List (Nat × Value)), decode cX6_keep pc = .ok (.return_, 1) → vV p l e { frames := 4, cells := 0, slots := 0, locals := 85 } s m args below meth c A D 7 0 0 Q (wTx q ad cI cC cO u0) pc lv []) {x1 : Nat} {x2 : Int32} {u : vX} (h : fX6_keep x1 x2 u = some u0) : vV p l e { frames := 4, cells := 0, slots := 0, locals := 85 } s m args below meth c A D 7 0 0 Q (wTx q ad cI cC cO u) 0 [(0, .ref (q 0)), (1, .ref (ad x1)), (2, .int x2)] [] := by
  rw [fX6_keep] at h
  refine vi_aload_n C 0 dX6_keep_0 rfl ?_
  refine gT_X6_0_5 C dX6_keep_1 ?_
  refine vi_bipush (v := 15) C dX6_keep_4 (by decide) ?_
  refine vi_icmp_lt (tgt := 10) C dX6_keep_6 (by decide) (fun hc1 => ?_) (fun hc1 => ?_)
  · have h := ob_t h hc1
    refine vi_iconst (v := 0) C dX6_keep_10 (by decide) ?_
    refine vi_istore_n (lv' := [(3, .int (0 : Int32)), (0, .ref (q 0)), (1, .ref (ad x1)), (2, .int x2)]) C dX6_keep_11 rfl (by decide) rfl ?_
    refine vi_iconst (v := 0) C dX6_keep_12 (by decide) ?_
    refine vi_istore (lv' := [(4, .int (0 : Int32)), (3, .int (0 : Int32)), (0, .ref (q 0)), (1, .ref (ad x1)), (2, .int x2)]) C dX6_keep_13 (by decide) rfl ?_
    refine vi_iconst (v := 0) C dX6_keep_15 (by decide) ?_
    refine vi_istore (lv' := [(5, .int (0 : Int32)), (4, .int (0 : Int32)), (3, .int (0 : Int32)), (0, .ref (q 0)), (1, .ref (ad x1)), (2, .int x2)]) C dX6_keep_16 (by decide) rfl ?_
    refine vi_sub C [3, 4, 5, 2, 1, 0] rfl ?_
    exact kX6_keep_18 C RET  vF _ _ _ _ _ _ h
  · have h := ob_f h hc1
    exact vi_donev (W := wTx q ad cI cC cO) RET h dX6_keep_9
theorem mX6_keep {ad adK adV : Nat → Nat} {tS tF : Nat} {tX sK sV : Nat → Nat} (hE : vEok (vE ad adK adV tS tF tX sK sV)) {l : Launch} {D : va_G} {cI cF cC cS cO cB cZ : ClassId} {q : Nat → Nat} {u0 : vX}  {x1 : Nat} {x2 : Int32} {u : vX} (h : fX6_keep x1 x2 u = some u0) : vM (vE ad adK adV tS tF tX sK sV) l yX6_keep cX6_keep 7 none 4 85 D (vT7 cI cF cC cS cO cB cZ) [.ref (q 0), .ref (ad x1), .int x2] (wTx q ad cI cC cO u) (vQv D (wTx q ad cI cC cO u0)) :=
  vM_of hE (by decide +kernel) (Nat.le_of_ble_eq_true rfl) (fun p e s m args below meth c A C hr => kX6_keep_e C (vi_retv C hr) h)
-- ---- X6_parse
def fX6_parse_7 : Nat → Int32 → vX → Option (Int32 × vX)
  | 0, _, _ => none
  | n + 1, x1, u => (if u.1 0 1 < x1 then some (u.1 0 1, u) else obp (fX6_formAt x1 u) fun y3 u2 => oc y3 (obp (fX6_farthestAt x1 u2) fun y6 u5 => some (x1 + y6, u5)) fun y4 => (fX6_keep y4 x1 u2).bind fun u7 => if y4 < 10 then if y4 < 10 then (fJ0_length_8abf5 y4).bind fun y10 => bd ((x1 + y10 : Int32)) fun y11 => (if y11 < u7.1 0 1 then if y11 < 0 ∨ 60 ≤ Int32.toNatClampNeg y11 then none else (if u7.1 1 (Int32.toNatClampNeg y11) = (59 : Int32) then bd ((y11 + 1 : Int32)) fun y15 => fX6_parse_7 n y15 u7 else some (y11, u7)) else some ((-1 : Int32), u7)) else none else none)
set_option maxRecDepth 100000 in
set_option maxHeartbeats 4000000 in
theorem kX6_parse_7 {ad adK adV : Nat → Nat} {tS tF : Nat} {tX sK sV : Nat → Nat} {p : Program} {l : Launch} {e : Env} {s : State} {m : MethodId} {args : Array Value} {below : List Frame} {meth : Method} {c : Code} {A : Nat → Prop} {D : va_G} {cI cF cC cS cO cB cZ : ClassId} {Q : State → Prop} {q : Nat → Nat} (C : vC (vE ad adK adV tS tF tX sK sV) p l s m args meth c A D (vT7 cI cF cC cS cO cB cZ) cX6_parse 3 RX6) {r0 : Int32} {u0 : vX} (RET : ∀ (pc : Nat) (lv : List (Nat × Value)), decode cX6_parse pc = .ok (.ireturn, 1) → vV p l e { frames := 6, cells := 0, slots := 0, locals := 131 } s m args below meth c A D 3 0 0 Q (wTx q ad cI cC cO u0) pc lv [.int r0]) : ∀ (n : Nat) (x1 : Int32) (u : vX), fX6_parse_7 n x1 u = some (r0, u0) → vV p l e { frames := 6, cells := 0, slots := 0, locals := 131 } s m args below meth c A D 3 0 0 Q (wTx q ad cI cC cO u) 7 [(0, .ref (q 0)), (1, .int x1)] [] := by
  intro n
  induction n with
  | zero => intro x1 u h; rw [fX6_parse_7] at h; cases h
  | succ n ih =>
    intro x1 u h
    rw [fX6_parse_7] at h
    refine vi_iload_n C 1 dX6_parse_7 rfl ?_
    refine vi_aload_n C 0 dX6_parse_8 rfl ?_
    refine gT_X6_0_1 C dX6_parse_9 ?_
    refine vi_icmp_gt (tgt := 78) C dX6_parse_12 (by decide) (fun hc1 => ?_) (fun hc1 => ?_)
    · have h := ob_t h hc1
      refine vi_aload_n C 0 dX6_parse_78 rfl ?_
      refine gT_X6_0_1 C dX6_parse_79 ?_
      exact vi_donei (W := wTx q ad cI cC cO) RET h dX6_parse_82
    · have h := ob_f h hc1
      refine vi_aload_n C 0 dX6_parse_15 rfl ?_
      refine vi_iload_n C 1 dX6_parse_16 rfl ?_
      obtain ⟨y3, u2, hgu2, h⟩ := ob_p h
      refine cT_X6_e (As := [.int x1]) (rest := []) C (mX6_formAt C.2.2.2.2.2.2.2.2.1 hgu2) 1 rfl tcX6_formAt tlX6_35 tiX6_formAt tsX6_formAt rfl tnX6 tdX6_formAt ⟨Nat.le_of_ble_eq_true rfl, Nat.le_of_ble_eq_true rfl⟩ rfl (Nat.le_of_ble_eq_true rfl) dX6_parse_17 ?_
      have hoc := ob_oc h
      clear h
      rcases hoc with ⟨hy, h⟩ | ⟨y4, hy, h⟩
      · subst hy
        refine vi_eqn ?_
        refine vi_astore_nN (lv' := [(2, .null), (0, .ref (q 0)), (1, .int x1)]) C dX6_parse_20 rfl (by decide) rfl ?_
        refine vi_aload_nN C 0 dX6_parse_21 rfl ?_
        refine vi_ifnonnullN C dX6_parse_22 ?_
        refine vi_iload_n C 2 dX6_parse_25 rfl ?_
        refine vi_aload_n C 1 dX6_parse_26 rfl ?_
        refine vi_iload_n C 2 dX6_parse_27 rfl ?_
        obtain ⟨y6, u5, hgu5, h⟩ := ob_p h
        refine cT_X6_i (As := [.int x1]) (rest := [.int x1]) C (mX6_farthestAt C.2.2.2.2.2.2.2.2.1 hgu5) 1 rfl tcX6_farthestAt tlX6_39 tiX6_farthestAt tsX6_farthestAt rfl tnX6 tdX6_farthestAt ⟨Nat.le_of_ble_eq_true rfl, Nat.le_of_ble_eq_true rfl⟩ rfl (Nat.le_of_ble_eq_true rfl) dX6_parse_28 ?_
        refine vi_iadd C dX6_parse_31 ?_
        exact vi_donei (W := wTx q ad cI cC cO) RET h dX6_parse_32
      · subst hy
        refine vi_eqs ?_
        refine vi_astore_n (lv' := [(2, .ref (ad y4)), (0, .ref (q 0)), (1, .int x1)]) C dX6_parse_20 rfl (by decide) rfl ?_
        refine vi_aload_n C 0 dX6_parse_21 rfl ?_
        refine vi_ifnonnull (tgt := 33) C dX6_parse_22 (by decide) ?_
        refine vi_aload_n C 1 dX6_parse_33 rfl ?_
        refine vi_aload_n C 0 dX6_parse_34 rfl ?_
        refine vi_iload_n C 2 dX6_parse_35 rfl ?_
        obtain ⟨u7, hgu7, h⟩ := ob_bd h
        refine cT_X6_v (As := [.ref (ad y4), .int x1]) (rest := []) C (mX6_keep C.2.2.2.2.2.2.2.2.1 hgu7) 2 rfl tcX6_keep tlX6_43 tiX6_keep tsX6_keep rfl tnX6 tdX6_keep ⟨Nat.le_of_ble_eq_true rfl, Nat.le_of_ble_eq_true rfl⟩ rfl (Nat.le_of_ble_eq_true rfl) dX6_parse_36 ?_
        refine vi_iload_n C 2 dX6_parse_39 rfl ?_
        refine vi_aload_n C 0 dX6_parse_40 rfl ?_
        obtain ⟨hz8, h⟩ := ob_ok h
        refine vi_getShape (idx := 47) C hz8 (by decide) rfl dX6_parse_41 ?_
        obtain ⟨hz9, h⟩ := ob_ok h
        obtain ⟨y10, hgy10, h⟩ := ob_bd h
        refine vi_callK0i (As := []) (rest := [.int x1]) C hz9 (mJ0_length_8abf5 C.2.2.2.2.2.2.2.2.1 hgy10) 0 rfl tcJ0_length_8abf5 tlX6_51 tiJ0_length_8abf5 tsJ0_length_8abf5 rfl tnJ0 tdJ0_length_8abf5 ⟨Nat.le_of_ble_eq_true rfl, Nat.le_of_ble_eq_true rfl⟩ rfl (Nat.le_of_ble_eq_true rfl) dX6_parse_44 ?_
        refine vi_iadd C dX6_parse_47 ?_
        obtain ⟨y11, ey11, h⟩ := ob_nm h
        refine vi_nmi ey11 ?_
        refine vi_istore_n (lv' := [(1, .int y11), (2, .ref (ad y4)), (0, .ref (q 0))]) C dX6_parse_48 rfl (by decide) rfl ?_
        refine vi_iload_n C 0 dX6_parse_49 rfl ?_
        refine vi_aload_n C 2 dX6_parse_50 rfl ?_
        refine gT_X6_0_1 C dX6_parse_51 ?_
        refine vi_icmp_lt (tgt := 59) C dX6_parse_54 (by decide) (fun hc12 => ?_) (fun hc12 => ?_)
        · have h := ob_t h hc12
          refine vi_aload_n C 2 dX6_parse_59 rfl ?_
          refine gT_X6_0_0 C dX6_parse_60 ?_
          refine vi_iload_n C 0 dX6_parse_63 rfl ?_
          obtain ⟨hz13, h⟩ := ob_if h
          refine lT_X6_1 (n := (Int32.toNatClampNeg y11)) C hz13 rfl dX6_parse_64 ?_
          refine vi_bipush (v := 59) C dX6_parse_65 (by decide) ?_
          refine vi_icmp_eq (tgt := 72) C dX6_parse_67 (by decide) (fun hc14 => ?_) (fun hc14 => ?_)
          · have h := ob_t h hc14
            obtain ⟨y15, ey15, h⟩ := ob_nm h
            refine vi_iinc (v := y15) (lv' := [(1, .int y15), (2, .ref (ad y4)), (0, .ref (q 0))]) C 0 dX6_parse_72 rfl (by rw [ey15]; rfl) (by decide) rfl ?_
            refine vi_goto (tgt := 7) C dX6_parse_75 (by decide) ?_
            refine vi_sub C [2, 0] rfl ?_
            exact ih _ _ h
          · have h := ob_f h hc14
            refine vi_iload_n C 0 dX6_parse_70 rfl ?_
            exact vi_donei (W := wTx q ad cI cC cO) RET h dX6_parse_71
        · have h := ob_f h hc12
          refine vi_iconst (v := (-1)) C dX6_parse_57 (by decide) ?_
          exact vi_donei (W := wTx q ad cI cC cO) RET h dX6_parse_58
def fX6_parse (u : vX) : Option (Int32 × vX) := bd ((up2 u.1 0 5 (0 : Int32), u.2)) fun u1 => fX6_parse_7 vF (0 : Int32) u1
set_option maxRecDepth 100000 in
set_option maxHeartbeats 4000000 in
theorem kX6_parse_e {ad adK adV : Nat → Nat} {tS tF : Nat} {tX sK sV : Nat → Nat} {p : Program} {l : Launch} {e : Env} {s : State} {m : MethodId} {args : Array Value} {below : List Frame} {meth : Method} {c : Code} {A : Nat → Prop} {D : va_G} {cI cF cC cS cO cB cZ : ClassId} {Q : State → Prop} {q : Nat → Nat} (C : vC (vE ad adK adV tS tF tX sK sV) p l s m args meth c A D (vT7 cI cF cC cS cO cB cZ) cX6_parse 3 RX6) {r0 : Int32} {u0 : vX} (RET : ∀ (pc : Nat) (lv : List (Nat × Value)), decode cX6_parse pc = .ok (.ireturn, 1) → vV p l e { frames := 6, cells := 0, slots := 0, locals := 131 } s m args below meth c A D 3 0 0 Q (wTx q ad cI cC cO u0) pc lv [.int r0]) {u : vX} (h : fX6_parse u = some (r0, u0)) : vV p l e { frames := 6, cells := 0, slots := 0, locals := 131 } s m args below meth c A D 3 0 0 Q (wTx q ad cI cC cO u) 0 [(0, .ref (q 0))] [] := by
  rw [fX6_parse] at h
  refine vi_aload_n C 0 dX6_parse_0 rfl ?_
  refine vi_iconst (v := 0) C dX6_parse_1 (by decide) ?_
  obtain ⟨u1, eu1, h⟩ := ob_nm h
  refine pT_X6_0_5 C dX6_parse_2 eu1.symm ?_
  refine vi_iconst (v := 0) C dX6_parse_5 (by decide) ?_
  refine vi_istore_n (lv' := [(1, .int (0 : Int32)), (0, .ref (q 0))]) C dX6_parse_6 rfl (by decide) rfl ?_
  refine vi_sub C [1, 0] rfl ?_
  exact kX6_parse_7 C RET  vF _ _ h
theorem mX6_parse {ad adK adV : Nat → Nat} {tS tF : Nat} {tX sK sV : Nat → Nat} (hE : vEok (vE ad adK adV tS tF tX sK sV)) {l : Launch} {D : va_G} {cI cF cC cS cO cB cZ : ClassId} {q : Nat → Nat} {r0 : Int32} {u0 : vX}  {u : vX} (h : fX6_parse u = some (r0, u0)) : vM (vE ad adK adV tS tF tX sK sV) l yX6_parse cX6_parse 3 (some .int) 6 131 D (vT7 cI cF cC cS cO cB cZ) [.ref (q 0)] (wTx q ad cI cC cO u) (vQi D (wTx q ad cI cC cO u0) r0) :=
  vM_of hE (by decide +kernel) (Nat.le_of_ble_eq_true rfl) (fun p e s m args below meth c A C hr => kX6_parse_e C (vi_reti C hr) h)
