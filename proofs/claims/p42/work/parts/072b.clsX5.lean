-- ---- X5_addSailor
def fX5_addSailor (x1 : Int32) (u : vH) : Option (vH) := if u.1 0 0 < 0 ∨ 8 ≤ Int32.toNatClampNeg (u.1 0 0) then none else bd ((up2 u.1 1 (Int32.toNatClampNeg (u.1 0 0)) x1, u.2)) fun u2 => if u2.1 0 0 < 0 ∨ 8 ≤ Int32.toNatClampNeg (u2.1 0 0) then none else bd ((up2 u2.1 2 (Int32.toNatClampNeg (u2.1 0 0)) (0 : Int32), u2.2)) fun u4 => if u4.1 0 0 < 0 ∨ 8 ≤ Int32.toNatClampNeg (u4.1 0 0) then none else bd ((up2 u4.1 3 (Int32.toNatClampNeg (u4.1 0 0)) (0 : Int32), u4.2)) fun u6 => bd ((up2 u6.1 0 0 ((u6.1 0 0) + (1 : Int32)), u6.2)) fun u7 => some u7
set_option maxRecDepth 100000 in
set_option maxHeartbeats 4000000 in
theorem kX5_addSailor_e {ad adK adV : Nat → Nat} {tS tF : Nat} {tX sK sV : Nat → Nat} {p : Program} {l : Launch} {e : Env} {s : State} {m : MethodId} {args : Array Value} {below : List Frame} {meth : Method} {c : Code} {A : Nat → Prop} {D : va_G} {cI cF cC cS cO cB cZ : ClassId} {Q : State → Prop} {q : Nat → Nat} (C : vC (vE ad adK adV tS tF tX sK sV) p l s m args meth c A D (vT7 cI cF cC cS cO cB cZ) cX5_addSailor 2 RX5) {u0 : vH} (RET : ∀ (pc : Nat) (lv : List (Nat × Value)), decode cX5_addSailor pc = .ok (.return_, 1) → vV p l e { frames := 0, cells := 0, slots := 0, locals := 0 } s m args below meth c A D 2 0 0 Q (wS q cI cF u0) pc lv []) {x1 : Int32} {u : vH} (h : fX5_addSailor x1 u = some u0) : vV p l e { frames := 0, cells := 0, slots := 0, locals := 0 } s m args below meth c A D 2 0 0 Q (wS q cI cF u) 0 [(0, .ref (q 0)), (1, .int x1)] [] := by
  rw [fX5_addSailor] at h
  refine vi_aload_n C 0 dX5_addSailor_0 rfl ?_
  refine gS_X5_0_1 C dX5_addSailor_1 ?_
  refine vi_aload_n C 0 dX5_addSailor_4 rfl ?_
  refine gS_X5_0_0 C dX5_addSailor_5 ?_
  refine vi_iload_n C 1 dX5_addSailor_8 rfl ?_
  obtain ⟨hz1, h⟩ := ob_if h
  obtain ⟨u2, eu2, h⟩ := ob_nm h
  refine sS_X5_1 (n := (Int32.toNatClampNeg (u.1 0 0))) C hz1 rfl dX5_addSailor_9 eu2.symm ?_
  refine vi_aload_n C 0 dX5_addSailor_10 rfl ?_
  refine gS_X5_0_2 C dX5_addSailor_11 ?_
  refine vi_aload_n C 0 dX5_addSailor_14 rfl ?_
  refine gS_X5_0_0 C dX5_addSailor_15 ?_
  refine vi_iconst (v := 0) C dX5_addSailor_18 (by decide) ?_
  obtain ⟨hz3, h⟩ := ob_if h
  obtain ⟨u4, eu4, h⟩ := ob_nm h
  refine sS_X5_2 (n := (Int32.toNatClampNeg (u2.1 0 0))) C hz3 rfl dX5_addSailor_19 eu4.symm ?_
  refine vi_aload_n C 0 dX5_addSailor_20 rfl ?_
  refine gS_X5_0_3 C dX5_addSailor_21 ?_
  refine vi_aload_n C 0 dX5_addSailor_24 rfl ?_
  refine gS_X5_0_0 C dX5_addSailor_25 ?_
  refine vi_iconst (v := 0) C dX5_addSailor_28 (by decide) ?_
  obtain ⟨hz5, h⟩ := ob_if h
  obtain ⟨u6, eu6, h⟩ := ob_nm h
  refine sS_X5_3 (n := (Int32.toNatClampNeg (u4.1 0 0))) C hz5 rfl dX5_addSailor_29 eu6.symm ?_
  refine vi_aload_n C 0 dX5_addSailor_30 rfl ?_
  refine vi_dup C dX5_addSailor_31 rfl ?_
  refine gS_X5_0_0 C dX5_addSailor_32 ?_
  refine vi_iconst (v := 1) C dX5_addSailor_35 (by decide) ?_
  refine vi_iadd C dX5_addSailor_36 ?_
  obtain ⟨u7, eu7, h⟩ := ob_nm h
  refine pS_X5_0_0 C dX5_addSailor_37 eu7.symm ?_
  exact vi_donev (W := wS q cI cF) RET h dX5_addSailor_40
theorem mX5_addSailor {ad adK adV : Nat → Nat} {tS tF : Nat} {tX sK sV : Nat → Nat} (hE : vEok (vE ad adK adV tS tF tX sK sV)) {l : Launch} {D : va_G} {cI cF cC cS cO cB cZ : ClassId} {q : Nat → Nat} {u0 : vH}  {x1 : Int32} {u : vH} (h : fX5_addSailor x1 u = some u0) : vM (vE ad adK adV tS tF tX sK sV) l yX5_addSailor cX5_addSailor 2 none 0 0 D (vT7 cI cF cC cS cO cB cZ) [.ref (q 0), .int x1] (wS q cI cF u) (vQv D (wS q cI cF u0)) :=
  vM_of hE (by decide +kernel) (Nat.le_of_ble_eq_true rfl) (fun p e s m args below meth c A C hr => kX5_addSailor_e C (vi_retv C hr) h)
-- ---- X5_forgetSightsOf
def fX5_forgetSightsOf_54 (rec_4 : Int32 → Int32 → Int32 → vH → Option (vH)) (x1 : Int32) (x2 : Int32) (x3 : Int32) (x4 : Int32) (x5 : Int32) (u : vH) : Option (vH) := if x5 < 0 ∨ 10 ≤ Int32.toNatClampNeg x5 then none else bd ((up2 u.1 5 (Int32.toNatClampNeg x5) x4, u.2)) fun u2 => if x3 < 0 ∨ 10 ≤ Int32.toNatClampNeg x3 then none else if x2 < 0 ∨ 10 ≤ Int32.toNatClampNeg x2 then none else bd ((up2 u2.1 6 (Int32.toNatClampNeg x2) (u2.1 6 (Int32.toNatClampNeg x3)), u2.2)) fun u5 => if x3 < 0 ∨ 10 ≤ Int32.toNatClampNeg x3 then none else if x2 < 0 ∨ 10 ≤ Int32.toNatClampNeg x2 then none else bd ((u5.1, vf_upd u5.2 (Int32.toNatClampNeg x2) (u5.2 (Int32.toNatClampNeg x3)))) fun u8 => bd ((x2 + 1 : Int32)) fun y9 => bd ((x3 + 1 : Int32)) fun y10 => rec_4 x1 y9 y10 u8
set_option maxRecDepth 100000 in
set_option maxHeartbeats 4000000 in
theorem kX5_forgetSightsOf_54 {ad adK adV : Nat → Nat} {tS tF : Nat} {tX sK sV : Nat → Nat} {p : Program} {l : Launch} {e : Env} {s : State} {m : MethodId} {args : Array Value} {below : List Frame} {meth : Method} {c : Code} {A : Nat → Prop} {D : va_G} {cI cF cC cS cO cB cZ : ClassId} {Q : State → Prop} {q : Nat → Nat} (C : vC (vE ad adK adV tS tF tX sK sV) p l s m args meth c A D (vT7 cI cF cC cS cO cB cZ) cX5_forgetSightsOf 4 RX5) {u0 : vH} (RET : ∀ (pc : Nat) (lv : List (Nat × Value)), decode cX5_forgetSightsOf pc = .ok (.return_, 1) → vV p l e { frames := 0, cells := 0, slots := 0, locals := 0 } s m args below meth c A D 4 0 0 Q (wS q cI cF u0) pc lv []) {rec_4 : Int32 → Int32 → Int32 → vH → Option (vH)} (REC_4 : ∀ (x1 : Int32) (x2 : Int32) (x3 : Int32) (u : vH), rec_4 x1 x2 x3 u = some u0 → vV p l e { frames := 0, cells := 0, slots := 0, locals := 0 } s m args below meth c A D 4 0 0 Q (wS q cI cF u) 4 [(0, .ref (q 0)), (1, .int x1), (2, .int x2), (3, .int x3)] []) : ∀ (x1 : Int32) (x2 : Int32) (x3 : Int32) (x4 : Int32) (x5 : Int32) (u : vH), fX5_forgetSightsOf_54 rec_4 x1 x2 x3 x4 x5 u = some u0 → vV p l e { frames := 0, cells := 0, slots := 0, locals := 0 } s m args below meth c A D 4 0 0 Q (wS q cI cF u) 54 [(0, .ref (q 0)), (1, .int x1), (2, .int x2), (3, .int x3)] [.int x4, .int x5, .ref (q 5)] := by
  intro x1 x2 x3 x4 x5 u h
  rw [fX5_forgetSightsOf_54] at h
  obtain ⟨hz1, h⟩ := ob_if h
  obtain ⟨u2, eu2, h⟩ := ob_nm h
  refine sS_X5_5 (n := (Int32.toNatClampNeg x5)) C hz1 rfl dX5_forgetSightsOf_54 eu2.symm ?_
  refine vi_aload_n C 0 dX5_forgetSightsOf_55 rfl ?_
  refine gS_X5_0_9 C dX5_forgetSightsOf_56 ?_
  refine vi_iload_n C 2 dX5_forgetSightsOf_59 rfl ?_
  refine vi_aload_n C 0 dX5_forgetSightsOf_60 rfl ?_
  refine gS_X5_0_9 C dX5_forgetSightsOf_61 ?_
  refine vi_iload_n C 3 dX5_forgetSightsOf_64 rfl ?_
  obtain ⟨hz3, h⟩ := ob_if h
  refine lS_X5_6 (n := (Int32.toNatClampNeg x3)) C hz3 rfl dX5_forgetSightsOf_65 ?_
  obtain ⟨hz4, h⟩ := ob_if h
  obtain ⟨u5, eu5, h⟩ := ob_nm h
  refine sS_X5_6 (n := (Int32.toNatClampNeg x2)) C hz4 rfl dX5_forgetSightsOf_66 eu5.symm ?_
  refine vi_aload_n C 0 dX5_forgetSightsOf_67 rfl ?_
  refine gS_X5_0_10 C dX5_forgetSightsOf_68 ?_
  refine vi_iload_n C 2 dX5_forgetSightsOf_71 rfl ?_
  refine vi_aload_n C 0 dX5_forgetSightsOf_72 rfl ?_
  refine gS_X5_0_10 C dX5_forgetSightsOf_73 ?_
  refine vi_iload_n C 3 dX5_forgetSightsOf_76 rfl ?_
  obtain ⟨hz6, h⟩ := ob_if h
  refine lS_X5_7 (n := (Int32.toNatClampNeg x3)) C hz6 rfl dX5_forgetSightsOf_77 ?_
  obtain ⟨hz7, h⟩ := ob_if h
  obtain ⟨u8, eu8, h⟩ := ob_nm h
  refine sS_X5_7 (n := (Int32.toNatClampNeg x2)) C hz7 rfl dX5_forgetSightsOf_78 eu8.symm ?_
  obtain ⟨y9, ey9, h⟩ := ob_nm h
  refine vi_iinc (v := y9) (lv' := [(2, .int y9), (0, .ref (q 0)), (1, .int x1), (3, .int x3)]) C 2 dX5_forgetSightsOf_79 rfl (by rw [ey9]; rfl) (by decide) rfl ?_
  obtain ⟨y10, ey10, h⟩ := ob_nm h
  refine vi_iinc (v := y10) (lv' := [(3, .int y10), (2, .int y9), (0, .ref (q 0)), (1, .int x1)]) C 3 dX5_forgetSightsOf_82 rfl (by rw [ey10]; rfl) (by decide) rfl ?_
  refine vi_goto (tgt := 4) C dX5_forgetSightsOf_85 (by decide) ?_
  refine vi_sub C [2, 3, 1, 0] rfl ?_
  exact REC_4 _ _ _ _ h
def fX5_forgetSightsOf_4 : Nat → Int32 → Int32 → Int32 → vH → Option (vH)
  | 0, _, _, _, _ => none
  | n + 1, x1, x2, x3, u => (if u.1 0 7 ≤ x3 then bd ((up2 u.1 0 7 x2, u.2)) fun u2 => some u2 else if x3 < 0 ∨ 10 ≤ Int32.toNatClampNeg x3 then none else (if u.1 5 (Int32.toNatClampNeg x3) = x1 then bd ((x3 + 1 : Int32)) fun y5 => fX5_forgetSightsOf_4 n x1 x2 y5 u else if x3 < 0 ∨ 10 ≤ Int32.toNatClampNeg x3 then none else (if u.1 5 (Int32.toNatClampNeg x3) ≤ x1 then if x3 < 0 ∨ 10 ≤ Int32.toNatClampNeg x3 then none else fX5_forgetSightsOf_54 (fun a0 a1 a2 a3 => fX5_forgetSightsOf_4 n  a0 a1 a2 a3) x1 x2 x3 (u.1 5 (Int32.toNatClampNeg x3)) x2 u else if x3 < 0 ∨ 10 ≤ Int32.toNatClampNeg x3 then none else fX5_forgetSightsOf_54 (fun a0 a1 a2 a3 => fX5_forgetSightsOf_4 n  a0 a1 a2 a3) x1 x2 x3 ((u.1 5 (Int32.toNatClampNeg x3)) - (1 : Int32)) x2 u)))
set_option maxRecDepth 100000 in
set_option maxHeartbeats 4000000 in
theorem kX5_forgetSightsOf_4 {ad adK adV : Nat → Nat} {tS tF : Nat} {tX sK sV : Nat → Nat} {p : Program} {l : Launch} {e : Env} {s : State} {m : MethodId} {args : Array Value} {below : List Frame} {meth : Method} {c : Code} {A : Nat → Prop} {D : va_G} {cI cF cC cS cO cB cZ : ClassId} {Q : State → Prop} {q : Nat → Nat} (C : vC (vE ad adK adV tS tF tX sK sV) p l s m args meth c A D (vT7 cI cF cC cS cO cB cZ) cX5_forgetSightsOf 4 RX5) {u0 : vH} (RET : ∀ (pc : Nat) (lv : List (Nat × Value)), decode cX5_forgetSightsOf pc = .ok (.return_, 1) → vV p l e { frames := 0, cells := 0, slots := 0, locals := 0 } s m args below meth c A D 4 0 0 Q (wS q cI cF u0) pc lv []) : ∀ (n : Nat) (x1 : Int32) (x2 : Int32) (x3 : Int32) (u : vH), fX5_forgetSightsOf_4 n x1 x2 x3 u = some u0 → vV p l e { frames := 0, cells := 0, slots := 0, locals := 0 } s m args below meth c A D 4 0 0 Q (wS q cI cF u) 4 [(0, .ref (q 0)), (1, .int x1), (2, .int x2), (3, .int x3)] [] := by
  intro n
  induction n with
  | zero => intro x1 x2 x3 u h; rw [fX5_forgetSightsOf_4] at h; cases h
  | succ n ih =>
    intro x1 x2 x3 u h
    rw [fX5_forgetSightsOf_4] at h
    refine vi_iload_n C 3 dX5_forgetSightsOf_4 rfl ?_
    refine vi_aload_n C 0 dX5_forgetSightsOf_5 rfl ?_
    refine gS_X5_0_7 C dX5_forgetSightsOf_6 ?_
    refine vi_icmp_ge (tgt := 88) C dX5_forgetSightsOf_9 (by decide) (fun hc1 => ?_) (fun hc1 => ?_)
    · have h := ob_t h hc1
      refine vi_aload_n C 0 dX5_forgetSightsOf_88 rfl ?_
      refine vi_iload_n C 2 dX5_forgetSightsOf_89 rfl ?_
      obtain ⟨u2, eu2, h⟩ := ob_nm h
      refine pS_X5_0_7 C dX5_forgetSightsOf_90 eu2.symm ?_
      exact vi_donev (W := wS q cI cF) RET h dX5_forgetSightsOf_93
    · have h := ob_f h hc1
      refine vi_aload_n C 0 dX5_forgetSightsOf_12 rfl ?_
      refine gS_X5_0_8 C dX5_forgetSightsOf_13 ?_
      refine vi_iload_n C 3 dX5_forgetSightsOf_16 rfl ?_
      obtain ⟨hz3, h⟩ := ob_if h
      refine lS_X5_5 (n := (Int32.toNatClampNeg x3)) C hz3 rfl dX5_forgetSightsOf_17 ?_
      refine vi_iload_n C 1 dX5_forgetSightsOf_18 rfl ?_
      refine vi_icmp_eq (tgt := 82) C dX5_forgetSightsOf_19 (by decide) (fun hc4 => ?_) (fun hc4 => ?_)
      · have h := ob_t h hc4
        obtain ⟨y5, ey5, h⟩ := ob_nm h
        refine vi_iinc (v := y5) (lv' := [(3, .int y5), (0, .ref (q 0)), (1, .int x1), (2, .int x2)]) C 3 dX5_forgetSightsOf_82 rfl (by rw [ey5]; rfl) (by decide) rfl ?_
        refine vi_goto (tgt := 4) C dX5_forgetSightsOf_85 (by decide) ?_
        refine vi_sub C [1, 2, 3, 0] rfl ?_
        exact ih _ _ _ _ h
      · have h := ob_f h hc4
        refine vi_aload_n C 0 dX5_forgetSightsOf_22 rfl ?_
        refine gS_X5_0_8 C dX5_forgetSightsOf_23 ?_
        refine vi_iload_n C 2 dX5_forgetSightsOf_26 rfl ?_
        refine vi_aload_n C 0 dX5_forgetSightsOf_27 rfl ?_
        refine gS_X5_0_8 C dX5_forgetSightsOf_28 ?_
        refine vi_iload_n C 3 dX5_forgetSightsOf_31 rfl ?_
        obtain ⟨hz6, h⟩ := ob_if h
        refine lS_X5_5 (n := (Int32.toNatClampNeg x3)) C hz6 rfl dX5_forgetSightsOf_32 ?_
        refine vi_iload_n C 1 dX5_forgetSightsOf_33 rfl ?_
        refine vi_icmp_le (tgt := 48) C dX5_forgetSightsOf_34 (by decide) (fun hc7 => ?_) (fun hc7 => ?_)
        · have h := ob_t h hc7
          refine vi_aload_n C 0 dX5_forgetSightsOf_48 rfl ?_
          refine gS_X5_0_8 C dX5_forgetSightsOf_49 ?_
          refine vi_iload_n C 3 dX5_forgetSightsOf_52 rfl ?_
          obtain ⟨hz8, h⟩ := ob_if h
          refine lS_X5_5 (n := (Int32.toNatClampNeg x3)) C hz8 rfl dX5_forgetSightsOf_53 ?_
          refine vi_sub C [0, 1, 2, 3] rfl ?_
          exact kX5_forgetSightsOf_54 C RET ih  _ _ _ _ _ _ h
        · have h := ob_f h hc7
          refine vi_aload_n C 0 dX5_forgetSightsOf_37 rfl ?_
          refine gS_X5_0_8 C dX5_forgetSightsOf_38 ?_
          refine vi_iload_n C 3 dX5_forgetSightsOf_41 rfl ?_
          obtain ⟨hz9, h⟩ := ob_if h
          refine lS_X5_5 (n := (Int32.toNatClampNeg x3)) C hz9 rfl dX5_forgetSightsOf_42 ?_
          refine vi_iconst (v := 1) C dX5_forgetSightsOf_43 (by decide) ?_
          refine vi_isub C dX5_forgetSightsOf_44 ?_
          refine vi_goto (tgt := 54) C dX5_forgetSightsOf_45 (by decide) ?_
          refine vi_sub C [0, 1, 2, 3] rfl ?_
          exact kX5_forgetSightsOf_54 C RET ih  _ _ _ _ _ _ h
def fX5_forgetSightsOf (x1 : Int32) (u : vH) : Option (vH) := fX5_forgetSightsOf_4 vF x1 (0 : Int32) (0 : Int32) u
set_option maxRecDepth 100000 in
set_option maxHeartbeats 4000000 in
theorem kX5_forgetSightsOf_e {ad adK adV : Nat → Nat} {tS tF : Nat} {tX sK sV : Nat → Nat} {p : Program} {l : Launch} {e : Env} {s : State} {m : MethodId} {args : Array Value} {below : List Frame} {meth : Method} {c : Code} {A : Nat → Prop} {D : va_G} {cI cF cC cS cO cB cZ : ClassId} {Q : State → Prop} {q : Nat → Nat} (C : vC (vE ad adK adV tS tF tX sK sV) p l s m args meth c A D (vT7 cI cF cC cS cO cB cZ) cX5_forgetSightsOf 4 RX5) {u0 : vH} (RET : ∀ (pc : Nat) (lv : List (Nat × Value)), decode cX5_forgetSightsOf pc = .ok (.return_, 1) → vV p l e { frames := 0, cells := 0, slots := 0, locals := 0 } s m args below meth c A D 4 0 0 Q (wS q cI cF u0) pc lv []) {x1 : Int32} {u : vH} (h : fX5_forgetSightsOf x1 u = some u0) : vV p l e { frames := 0, cells := 0, slots := 0, locals := 0 } s m args below meth c A D 4 0 0 Q (wS q cI cF u) 0 [(0, .ref (q 0)), (1, .int x1)] [] := by
  rw [fX5_forgetSightsOf] at h
  refine vi_iconst (v := 0) C dX5_forgetSightsOf_0 (by decide) ?_
  refine vi_istore_n (lv' := [(2, .int (0 : Int32)), (0, .ref (q 0)), (1, .int x1)]) C dX5_forgetSightsOf_1 rfl (by decide) rfl ?_
  refine vi_iconst (v := 0) C dX5_forgetSightsOf_2 (by decide) ?_
  refine vi_istore_n (lv' := [(3, .int (0 : Int32)), (2, .int (0 : Int32)), (0, .ref (q 0)), (1, .int x1)]) C dX5_forgetSightsOf_3 rfl (by decide) rfl ?_
  refine vi_sub C [2, 3, 1, 0] rfl ?_
  exact kX5_forgetSightsOf_4 C RET  vF _ _ _ _ h
theorem mX5_forgetSightsOf {ad adK adV : Nat → Nat} {tS tF : Nat} {tX sK sV : Nat → Nat} (hE : vEok (vE ad adK adV tS tF tX sK sV)) {l : Launch} {D : va_G} {cI cF cC cS cO cB cZ : ClassId} {q : Nat → Nat} {u0 : vH}  {x1 : Int32} {u : vH} (h : fX5_forgetSightsOf x1 u = some u0) : vM (vE ad adK adV tS tF tX sK sV) l yX5_forgetSightsOf cX5_forgetSightsOf 4 none 0 0 D (vT7 cI cF cC cS cO cB cZ) [.ref (q 0), .int x1] (wS q cI cF u) (vQv D (wS q cI cF u0)) :=
  vM_of hE (by decide +kernel) (Nat.le_of_ble_eq_true rfl) (fun p e s m args below meth c A C hr => kX5_forgetSightsOf_e C (vi_retv C hr) h)
-- ---- X5_removeSailor
def fX5_removeSailor_19 : Nat → Int32 → Int32 → vH → Option (vH)
  | 0, _, _, _ => none
  | n + 1, x1, x2, u => (if u.1 0 0 ≤ x2 then bd ((up2 u.1 0 0 ((u.1 0 0) - (1 : Int32)), u.2)) fun u2 => (fX5_forgetSightsOf x1 u2).bind fun u3 => some u3 else if x2 < 0 ∨ 8 ≤ Int32.toNatClampNeg x2 then none else if x2 - (1 : Int32) < 0 ∨ 8 ≤ Int32.toNatClampNeg (x2 - (1 : Int32)) then none else bd ((up2 u.1 1 (Int32.toNatClampNeg (x2 - (1 : Int32))) (u.1 1 (Int32.toNatClampNeg x2)), u.2)) fun u6 => if x2 < 0 ∨ 8 ≤ Int32.toNatClampNeg x2 then none else if x2 - (1 : Int32) < 0 ∨ 8 ≤ Int32.toNatClampNeg (x2 - (1 : Int32)) then none else bd ((up2 u6.1 2 (Int32.toNatClampNeg (x2 - (1 : Int32))) (u6.1 2 (Int32.toNatClampNeg x2)), u6.2)) fun u9 => if x2 < 0 ∨ 8 ≤ Int32.toNatClampNeg x2 then none else if x2 - (1 : Int32) < 0 ∨ 8 ≤ Int32.toNatClampNeg (x2 - (1 : Int32)) then none else bd ((up2 u9.1 3 (Int32.toNatClampNeg (x2 - (1 : Int32))) (u9.1 3 (Int32.toNatClampNeg x2)), u9.2)) fun u12 => bd ((x2 + 1 : Int32)) fun y13 => fX5_removeSailor_19 n x1 y13 u12)
set_option maxRecDepth 100000 in
set_option maxHeartbeats 4000000 in
theorem kX5_removeSailor_19 {ad adK adV : Nat → Nat} {tS tF : Nat} {tX sK sV : Nat → Nat} {p : Program} {l : Launch} {e : Env} {s : State} {m : MethodId} {args : Array Value} {below : List Frame} {meth : Method} {c : Code} {A : Nat → Prop} {D : va_G} {cI cF cC cS cO cB cZ : ClassId} {Q : State → Prop} {q : Nat → Nat} (C : vC (vE ad adK adV tS tF tX sK sV) p l s m args meth c A D (vT7 cI cF cC cS cO cB cZ) cX5_removeSailor 3 RX5) {u0 : vH} (RET : ∀ (pc : Nat) (lv : List (Nat × Value)), decode cX5_removeSailor pc = .ok (.return_, 1) → vV p l e { frames := 1, cells := 0, slots := 0, locals := 23 } s m args below meth c A D 3 0 0 Q (wS q cI cF u0) pc lv []) : ∀ (n : Nat) (x1 : Int32) (x2 : Int32) (u : vH), fX5_removeSailor_19 n x1 x2 u = some u0 → vV p l e { frames := 1, cells := 0, slots := 0, locals := 23 } s m args below meth c A D 3 0 0 Q (wS q cI cF u) 19 [(0, .ref (q 0)), (1, .int x1), (2, .int x2)] [] := by
  intro n
  induction n with
  | zero => intro x1 x2 u h; rw [fX5_removeSailor_19] at h; cases h
  | succ n ih =>
    intro x1 x2 u h
    rw [fX5_removeSailor_19] at h
    refine vi_iload_n C 2 dX5_removeSailor_19 rfl ?_
    refine vi_aload_n C 0 dX5_removeSailor_20 rfl ?_
    refine gS_X5_0_0 C dX5_removeSailor_21 ?_
    refine vi_icmp_ge (tgt := 75) C dX5_removeSailor_24 (by decide) (fun hc1 => ?_) (fun hc1 => ?_)
    · have h := ob_t h hc1
      refine vi_aload_n C 0 dX5_removeSailor_75 rfl ?_
      refine vi_dup C dX5_removeSailor_76 rfl ?_
      refine gS_X5_0_0 C dX5_removeSailor_77 ?_
      refine vi_iconst (v := 1) C dX5_removeSailor_80 (by decide) ?_
      refine vi_isub C dX5_removeSailor_81 ?_
      obtain ⟨u2, eu2, h⟩ := ob_nm h
      refine pS_X5_0_0 C dX5_removeSailor_82 eu2.symm ?_
      refine vi_aload_n C 0 dX5_removeSailor_85 rfl ?_
      refine vi_iload_n C 1 dX5_removeSailor_86 rfl ?_
      obtain ⟨u3, hgu3, h⟩ := ob_bd h
      refine cS_X5_v (As := [.int x1]) (rest := []) C (mX5_forgetSightsOf C.2.2.2.2.2.2.2.2.1 hgu3) 1 rfl tcX5_forgetSightsOf tlX5_116 tiX5_forgetSightsOf tsX5_forgetSightsOf rfl tnX5 tdX5_forgetSightsOf ⟨Nat.le_of_ble_eq_true rfl, Nat.le_of_ble_eq_true rfl⟩ rfl (Nat.le_of_ble_eq_true rfl) dX5_removeSailor_87 ?_
      exact vi_donev (W := wS q cI cF) RET h dX5_removeSailor_90
    · have h := ob_f h hc1
      refine vi_aload_n C 0 dX5_removeSailor_27 rfl ?_
      refine gS_X5_0_1 C dX5_removeSailor_28 ?_
      refine vi_iload_n C 2 dX5_removeSailor_31 rfl ?_
      refine vi_iconst (v := 1) C dX5_removeSailor_32 (by decide) ?_
      refine vi_isub C dX5_removeSailor_33 ?_
      refine vi_aload_n C 0 dX5_removeSailor_34 rfl ?_
      refine gS_X5_0_1 C dX5_removeSailor_35 ?_
      refine vi_iload_n C 2 dX5_removeSailor_38 rfl ?_
      obtain ⟨hz4, h⟩ := ob_if h
      refine lS_X5_1 (n := (Int32.toNatClampNeg x2)) C hz4 rfl dX5_removeSailor_39 ?_
      obtain ⟨hz5, h⟩ := ob_if h
      obtain ⟨u6, eu6, h⟩ := ob_nm h
      refine sS_X5_1 (n := (Int32.toNatClampNeg (x2 - (1 : Int32)))) C hz5 rfl dX5_removeSailor_40 eu6.symm ?_
      refine vi_aload_n C 0 dX5_removeSailor_41 rfl ?_
      refine gS_X5_0_2 C dX5_removeSailor_42 ?_
      refine vi_iload_n C 2 dX5_removeSailor_45 rfl ?_
      refine vi_iconst (v := 1) C dX5_removeSailor_46 (by decide) ?_
      refine vi_isub C dX5_removeSailor_47 ?_
      refine vi_aload_n C 0 dX5_removeSailor_48 rfl ?_
      refine gS_X5_0_2 C dX5_removeSailor_49 ?_
      refine vi_iload_n C 2 dX5_removeSailor_52 rfl ?_
      obtain ⟨hz7, h⟩ := ob_if h
      refine lS_X5_2 (n := (Int32.toNatClampNeg x2)) C hz7 rfl dX5_removeSailor_53 ?_
      obtain ⟨hz8, h⟩ := ob_if h
      obtain ⟨u9, eu9, h⟩ := ob_nm h
      refine sS_X5_2 (n := (Int32.toNatClampNeg (x2 - (1 : Int32)))) C hz8 rfl dX5_removeSailor_54 eu9.symm ?_
      refine vi_aload_n C 0 dX5_removeSailor_55 rfl ?_
      refine gS_X5_0_3 C dX5_removeSailor_56 ?_
      refine vi_iload_n C 2 dX5_removeSailor_59 rfl ?_
      refine vi_iconst (v := 1) C dX5_removeSailor_60 (by decide) ?_
      refine vi_isub C dX5_removeSailor_61 ?_
      refine vi_aload_n C 0 dX5_removeSailor_62 rfl ?_
      refine gS_X5_0_3 C dX5_removeSailor_63 ?_
      refine vi_iload_n C 2 dX5_removeSailor_66 rfl ?_
      obtain ⟨hz10, h⟩ := ob_if h
      refine lS_X5_3 (n := (Int32.toNatClampNeg x2)) C hz10 rfl dX5_removeSailor_67 ?_
      obtain ⟨hz11, h⟩ := ob_if h
      obtain ⟨u12, eu12, h⟩ := ob_nm h
      refine sS_X5_3 (n := (Int32.toNatClampNeg (x2 - (1 : Int32)))) C hz11 rfl dX5_removeSailor_68 eu12.symm ?_
      obtain ⟨y13, ey13, h⟩ := ob_nm h
      refine vi_iinc (v := y13) (lv' := [(2, .int y13), (0, .ref (q 0)), (1, .int x1)]) C 2 dX5_removeSailor_69 rfl (by rw [ey13]; rfl) (by decide) rfl ?_
      refine vi_goto (tgt := 19) C dX5_removeSailor_72 (by decide) ?_
      refine vi_sub C [1, 2, 0] rfl ?_
      exact ih _ _ _ h
def fX5_removeSailor (x1 : Int32) (u : vH) : Option (vH) := if x1 < 0 ∨ 8 ≤ Int32.toNatClampNeg x1 then none else bd ((up2 u.1 0 14 ((u.1 0 14) + (u.1 2 (Int32.toNatClampNeg x1))), u.2)) fun u2 => bd ((x1 + (1 : Int32) : Int32)) fun y3 => fX5_removeSailor_19 vF x1 y3 u2
set_option maxRecDepth 100000 in
set_option maxHeartbeats 4000000 in
theorem kX5_removeSailor_e {ad adK adV : Nat → Nat} {tS tF : Nat} {tX sK sV : Nat → Nat} {p : Program} {l : Launch} {e : Env} {s : State} {m : MethodId} {args : Array Value} {below : List Frame} {meth : Method} {c : Code} {A : Nat → Prop} {D : va_G} {cI cF cC cS cO cB cZ : ClassId} {Q : State → Prop} {q : Nat → Nat} (C : vC (vE ad adK adV tS tF tX sK sV) p l s m args meth c A D (vT7 cI cF cC cS cO cB cZ) cX5_removeSailor 3 RX5) {u0 : vH} (RET : ∀ (pc : Nat) (lv : List (Nat × Value)), decode cX5_removeSailor pc = .ok (.return_, 1) → vV p l e { frames := 1, cells := 0, slots := 0, locals := 23 } s m args below meth c A D 3 0 0 Q (wS q cI cF u0) pc lv []) {x1 : Int32} {u : vH} (h : fX5_removeSailor x1 u = some u0) : vV p l e { frames := 1, cells := 0, slots := 0, locals := 23 } s m args below meth c A D 3 0 0 Q (wS q cI cF u) 0 [(0, .ref (q 0)), (1, .int x1)] [] := by
  rw [fX5_removeSailor] at h
  refine vi_aload_n C 0 dX5_removeSailor_0 rfl ?_
  refine vi_dup C dX5_removeSailor_1 rfl ?_
  refine gS_X5_0_14 C dX5_removeSailor_2 ?_
  refine vi_aload_n C 0 dX5_removeSailor_5 rfl ?_
  refine gS_X5_0_2 C dX5_removeSailor_6 ?_
  refine vi_iload_n C 1 dX5_removeSailor_9 rfl ?_
  obtain ⟨hz1, h⟩ := ob_if h
  refine lS_X5_2 (n := (Int32.toNatClampNeg x1)) C hz1 rfl dX5_removeSailor_10 ?_
  refine vi_iadd C dX5_removeSailor_11 ?_
  obtain ⟨u2, eu2, h⟩ := ob_nm h
  refine pS_X5_0_14 C dX5_removeSailor_12 eu2.symm ?_
  refine vi_iload_n C 1 dX5_removeSailor_15 rfl ?_
  refine vi_iconst (v := 1) C dX5_removeSailor_16 (by decide) ?_
  refine vi_iadd C dX5_removeSailor_17 ?_
  obtain ⟨y3, ey3, h⟩ := ob_nm h
  refine vi_nmi ey3 ?_
  refine vi_istore_n (lv' := [(2, .int y3), (0, .ref (q 0)), (1, .int x1)]) C dX5_removeSailor_18 rfl (by decide) rfl ?_
  refine vi_sub C [1, 2, 0] rfl ?_
  exact kX5_removeSailor_19 C RET  vF _ _ _ h
theorem mX5_removeSailor {ad adK adV : Nat → Nat} {tS tF : Nat} {tX sK sV : Nat → Nat} (hE : vEok (vE ad adK adV tS tF tX sK sV)) {l : Launch} {D : va_G} {cI cF cC cS cO cB cZ : ClassId} {q : Nat → Nat} {u0 : vH}  {x1 : Int32} {u : vH} (h : fX5_removeSailor x1 u = some u0) : vM (vE ad adK adV tS tF tX sK sV) l yX5_removeSailor cX5_removeSailor 3 none 1 23 D (vT7 cI cF cC cS cO cB cZ) [.ref (q 0), .int x1] (wS q cI cF u) (vQv D (wS q cI cF u0)) :=
  vM_of hE (by decide +kernel) (Nat.le_of_ble_eq_true rfl) (fun p e s m args below meth c A C hr => kX5_removeSailor_e C (vi_retv C hr) h)
-- ---- X5_turned
def fX5_turned (x1 : Int32) (x2 : Int32) : Option (Int32) := (fJ9_floorMod_7cf53 x2 (16 : Int32)).bind fun y1 => some (((x1 <<< (y1 &&& 31)) ||| (x1 >>> (((16 : Int32) - y1) &&& 31))) &&& (65535 : Int32))
set_option maxRecDepth 100000 in
set_option maxHeartbeats 4000000 in
theorem kX5_turned_e {E : (Nat → Prop) → State → Heap → Prop} {p : Program} {l : Launch} {e : Env} {s : State} {m : MethodId} {args : Array Value} {below : List Frame} {meth : Method} {c : Code} {A : Nat → Prop} {D : va_G} {cI cF cC cS cO cB cZ : ClassId} {Q : State → Prop} (C : vC E p l s m args meth c A D (vT7 cI cF cC cS cO cB cZ) cX5_turned 3 RX5) {r0 : Int32} (RET : ∀ (pc : Nat) (lv : List (Nat × Value)), decode cX5_turned pc = .ok (.ireturn, 1) → vV p l e { frames := 1, cells := 0, slots := 0, locals := 22 } s m args below meth c A D 3 0 0 Q [] pc lv [.int r0]) {x1 : Int32} {x2 : Int32} (h : fX5_turned x1 x2 = some r0) : vV p l e { frames := 1, cells := 0, slots := 0, locals := 22 } s m args below meth c A D 3 0 0 Q [] 0 [(0, .int x1), (1, .int x2)] [] := by
  rw [fX5_turned] at h
  refine vi_iload_n C 1 dX5_turned_0 rfl ?_
  refine vi_bipush (v := 16) C dX5_turned_1 (by decide) ?_
  obtain ⟨y1, hgy1, h⟩ := ob_bd h
  refine vi_callS0i (As := [.int x2, .int (16 : Int32)]) (rest := []) C (mJ9_floorMod_7cf53 C.2.2.2.2.2.2.2.2.1 hgy1) 2 rfl tcJ9_floorMod_7cf53 tlX5_130 ttJ9_floorMod_7cf53 tnJ9 tdJ9_floorMod_7cf53 ⟨Nat.le_of_ble_eq_true rfl, Nat.le_of_ble_eq_true rfl⟩ rfl (Nat.le_of_ble_eq_true rfl) dX5_turned_3 ?_
  refine vi_istore_n (lv' := [(2, .int y1), (0, .int x1), (1, .int x2)]) C dX5_turned_6 rfl (by decide) rfl ?_
  refine vi_iload_n C 1 dX5_turned_7 rfl ?_
  refine vi_iload_n C 0 dX5_turned_8 rfl ?_
  refine vi_ishl C dX5_turned_9 ?_
  refine vi_iload_n C 1 dX5_turned_10 rfl ?_
  refine vi_bipush (v := 16) C dX5_turned_11 (by decide) ?_
  refine vi_iload_n C 0 dX5_turned_13 rfl ?_
  refine vi_isub C dX5_turned_14 ?_
  refine vi_ishr C dX5_turned_15 ?_
  refine vi_ior C dX5_turned_16 ?_
  refine vi_ldc (v := 65535) C dX5_turned_17 tkX5_65 ?_
  refine vi_iand C dX5_turned_19 ?_
  exact vi_donei0  RET h dX5_turned_20
theorem mX5_turned {E : (Nat → Prop) → State → Heap → Prop} (hE : vEok E) {l : Launch} {D : va_G} {cI cF cC cS cO cB cZ : ClassId} {r0 : Int32}  {x1 : Int32} {x2 : Int32} (h : fX5_turned x1 x2 = some r0) : vM E l yX5_turned cX5_turned 3 (some .int) 1 22 D (vT7 cI cF cC cS cO cB cZ) [.int x1, .int x2] [] (vQi D [] r0) :=
  vM_of hE (by decide +kernel) (Nat.le_of_ble_eq_true rfl) (fun p e s m args below meth c A C hr => kX5_turned_e C (vi_reti C hr) h)
-- ---- X5_cheerIn
def fX5_cheerIn (x1 : Int32) : Option (Int32) := (fJ6_bitCount_0f7a4 (x1 &&& (255 : Int32))).bind fun y1 => some y1
set_option maxRecDepth 100000 in
set_option maxHeartbeats 4000000 in
theorem kX5_cheerIn_e {E : (Nat → Prop) → State → Heap → Prop} {p : Program} {l : Launch} {e : Env} {s : State} {m : MethodId} {args : Array Value} {below : List Frame} {meth : Method} {c : Code} {A : Nat → Prop} {D : va_G} {cI cF cC cS cO cB cZ : ClassId} {Q : State → Prop} (C : vC E p l s m args meth c A D (vT7 cI cF cC cS cO cB cZ) cX5_cheerIn 1 RX5) {r0 : Int32} (RET : ∀ (pc : Nat) (lv : List (Nat × Value)), decode cX5_cheerIn pc = .ok (.ireturn, 1) → vV p l e { frames := 1, cells := 0, slots := 0, locals := 20 } s m args below meth c A D 1 0 0 Q [] pc lv [.int r0]) {x1 : Int32} (h : fX5_cheerIn x1 = some r0) : vV p l e { frames := 1, cells := 0, slots := 0, locals := 20 } s m args below meth c A D 1 0 0 Q [] 0 [(0, .int x1)] [] := by
  rw [fX5_cheerIn] at h
  refine vi_iload_n C 0 dX5_cheerIn_0 rfl ?_
  refine vi_sipush (v := 255) C dX5_cheerIn_1 (by decide) ?_
  refine vi_iand C dX5_cheerIn_4 ?_
  obtain ⟨y1, hgy1, h⟩ := ob_bd h
  refine vi_callS0i (As := [.int (x1 &&& (255 : Int32))]) (rest := []) C (mJ6_bitCount_0f7a4 C.2.2.2.2.2.2.2.2.1 hgy1) 1 rfl tcJ6_bitCount_0f7a4 tlX5_135 ttJ6_bitCount_0f7a4 tnJ6 tdJ6_bitCount_0f7a4 ⟨Nat.le_of_ble_eq_true rfl, Nat.le_of_ble_eq_true rfl⟩ rfl (Nat.le_of_ble_eq_true rfl) dX5_cheerIn_5 ?_
  exact vi_donei0  RET h dX5_cheerIn_8
theorem mX5_cheerIn {E : (Nat → Prop) → State → Heap → Prop} (hE : vEok E) {l : Launch} {D : va_G} {cI cF cC cS cO cB cZ : ClassId} {r0 : Int32}  {x1 : Int32} (h : fX5_cheerIn x1 = some r0) : vM E l yX5_cheerIn cX5_cheerIn 1 (some .int) 1 20 D (vT7 cI cF cC cS cO cB cZ) [.int x1] [] (vQi D [] r0) :=
  vM_of hE (by decide +kernel) (Nat.le_of_ble_eq_true rfl) (fun p e s m args below meth c A C hr => kX5_cheerIn_e C (vi_reti C hr) h)
-- ---- X5_dreadIn
def fX5_dreadIn (x1 : Int32) : Option (Int32) := (fJ6_bitCount_0f7a4 (x1 &&& (65280 : Int32))).bind fun y1 => some y1
set_option maxRecDepth 100000 in
set_option maxHeartbeats 4000000 in
theorem kX5_dreadIn_e {E : (Nat → Prop) → State → Heap → Prop} {p : Program} {l : Launch} {e : Env} {s : State} {m : MethodId} {args : Array Value} {below : List Frame} {meth : Method} {c : Code} {A : Nat → Prop} {D : va_G} {cI cF cC cS cO cB cZ : ClassId} {Q : State → Prop} (C : vC E p l s m args meth c A D (vT7 cI cF cC cS cO cB cZ) cX5_dreadIn 1 RX5) {r0 : Int32} (RET : ∀ (pc : Nat) (lv : List (Nat × Value)), decode cX5_dreadIn pc = .ok (.ireturn, 1) → vV p l e { frames := 1, cells := 0, slots := 0, locals := 20 } s m args below meth c A D 1 0 0 Q [] pc lv [.int r0]) {x1 : Int32} (h : fX5_dreadIn x1 = some r0) : vV p l e { frames := 1, cells := 0, slots := 0, locals := 20 } s m args below meth c A D 1 0 0 Q [] 0 [(0, .int x1)] [] := by
  rw [fX5_dreadIn] at h
  refine vi_iload_n C 0 dX5_dreadIn_0 rfl ?_
  refine vi_ldc (v := 65280) C dX5_dreadIn_1 tkX5_141 ?_
  refine vi_iand C dX5_dreadIn_3 ?_
  obtain ⟨y1, hgy1, h⟩ := ob_bd h
  refine vi_callS0i (As := [.int (x1 &&& (65280 : Int32))]) (rest := []) C (mJ6_bitCount_0f7a4 C.2.2.2.2.2.2.2.2.1 hgy1) 1 rfl tcJ6_bitCount_0f7a4 tlX5_135 ttJ6_bitCount_0f7a4 tnJ6 tdJ6_bitCount_0f7a4 ⟨Nat.le_of_ble_eq_true rfl, Nat.le_of_ble_eq_true rfl⟩ rfl (Nat.le_of_ble_eq_true rfl) dX5_dreadIn_4 ?_
  exact vi_donei0  RET h dX5_dreadIn_7
theorem mX5_dreadIn {E : (Nat → Prop) → State → Heap → Prop} (hE : vEok E) {l : Launch} {D : va_G} {cI cF cC cS cO cB cZ : ClassId} {r0 : Int32}  {x1 : Int32} (h : fX5_dreadIn x1 = some r0) : vM E l yX5_dreadIn cX5_dreadIn 1 (some .int) 1 20 D (vT7 cI cF cC cS cO cB cZ) [.int x1] [] (vQi D [] r0) :=
  vM_of hE (by decide +kernel) (Nat.le_of_ble_eq_true rfl) (fun p e s m args below meth c A C hr => kX5_dreadIn_e C (vi_reti C hr) h)
-- ---- X5_angleAfter
def fX5_angleAfter (x1 : Int32) (x2 : Int32) (u : vH) : Option (Int32 × vH) := if x1 < 0 ∨ 8 ≤ Int32.toNatClampNeg x1 then none else (fX5_turned (u.1 1 (Int32.toNatClampNeg x1)) x2).bind fun y2 => if x1 < 0 ∨ 8 ≤ Int32.toNatClampNeg x1 then none else (fJ9_max_7cf53 (0 : Int32) ((u.1 2 (Int32.toNatClampNeg x1)) - x2)).bind fun y4 => (fJ9_floorDiv_7cf53 ((u.1 0 6) + x2) (4 : Int32)).bind fun y5 => (fJ9_floorDiv_7cf53 (u.1 0 6) (4 : Int32)).bind fun y6 => bd ((y5 - y6 : Int32)) fun y7 => if x1 < 0 ∨ 8 ≤ Int32.toNatClampNeg x1 then none else (fJ9_floorMod_7cf53 ((u.1 3 (Int32.toNatClampNeg x1)) + y7) (4 : Int32)).bind fun y9 => (fX5_cheerIn y2).bind fun y10 => (fX5_dreadIn y2).bind fun y11 => if y9 < 0 ∨ 4 ≤ Int32.toNatClampNeg y9 then none else some (((y10 + y4) - y11) - (u.1 4 (Int32.toNatClampNeg y9)), u)
set_option maxRecDepth 100000 in
set_option maxHeartbeats 4000000 in
theorem kX5_angleAfter_e {ad adK adV : Nat → Nat} {tS tF : Nat} {tX sK sV : Nat → Nat} {p : Program} {l : Launch} {e : Env} {s : State} {m : MethodId} {args : Array Value} {below : List Frame} {meth : Method} {c : Code} {A : Nat → Prop} {D : va_G} {cI cF cC cS cO cB cZ : ClassId} {Q : State → Prop} {q : Nat → Nat} (C : vC (vE ad adK adV tS tF tX sK sV) p l s m args meth c A D (vT7 cI cF cC cS cO cB cZ) cX5_angleAfter 7 RX5) {r0 : Int32} {u0 : vH} (RET : ∀ (pc : Nat) (lv : List (Nat × Value)), decode cX5_angleAfter pc = .ok (.ireturn, 1) → vV p l e { frames := 2, cells := 0, slots := 0, locals := 44 } s m args below meth c A D 7 0 0 Q (wS q cI cF u0) pc lv [.int r0]) {x1 : Int32} {x2 : Int32} {u : vH} (h : fX5_angleAfter x1 x2 u = some (r0, u0)) : vV p l e { frames := 2, cells := 0, slots := 0, locals := 44 } s m args below meth c A D 7 0 0 Q (wS q cI cF u) 0 [(0, .ref (q 0)), (1, .int x1), (2, .int x2)] [] := by
  rw [fX5_angleAfter] at h
  refine vi_aload_n C 0 dX5_angleAfter_0 rfl ?_
  refine gS_X5_0_1 C dX5_angleAfter_1 ?_
  refine vi_iload_n C 1 dX5_angleAfter_4 rfl ?_
  obtain ⟨hz1, h⟩ := ob_if h
  refine lS_X5_1 (n := (Int32.toNatClampNeg x1)) C hz1 rfl dX5_angleAfter_5 ?_
  refine vi_iload_n C 2 dX5_angleAfter_6 rfl ?_
  obtain ⟨y2, hgy2, h⟩ := ob_bd h
  refine vi_callS0i (As := [.int (u.1 1 (Int32.toNatClampNeg x1)), .int x2]) (rest := []) C (mX5_turned C.2.2.2.2.2.2.2.2.1 hgy2) 2 rfl tcX5_turned tlX5_123 ttX5_turned tnX5 tdX5_turned ⟨Nat.le_of_ble_eq_true rfl, Nat.le_of_ble_eq_true rfl⟩ rfl (Nat.le_of_ble_eq_true rfl) dX5_angleAfter_7 ?_
  refine vi_istore_n (lv' := [(3, .int y2), (0, .ref (q 0)), (1, .int x1), (2, .int x2)]) C dX5_angleAfter_10 rfl (by decide) rfl ?_
  refine vi_iconst (v := 0) C dX5_angleAfter_11 (by decide) ?_
  refine vi_aload_n C 1 dX5_angleAfter_12 rfl ?_
  refine gS_X5_0_2 C dX5_angleAfter_13 ?_
  refine vi_iload_n C 2 dX5_angleAfter_16 rfl ?_
  obtain ⟨hz3, h⟩ := ob_if h
  refine lS_X5_2 (n := (Int32.toNatClampNeg x1)) C hz3 rfl dX5_angleAfter_17 ?_
  refine vi_iload_n C 3 dX5_angleAfter_18 rfl ?_
  refine vi_isub C dX5_angleAfter_19 ?_
  obtain ⟨y4, hgy4, h⟩ := ob_bd h
  refine vi_callS0i (As := [.int (0 : Int32), .int ((u.1 2 (Int32.toNatClampNeg x1)) - x2)]) (rest := []) C (mJ9_max_7cf53 C.2.2.2.2.2.2.2.2.1 hgy4) 2 rfl tcJ9_max_7cf53 tlX5_142 ttJ9_max_7cf53 tnJ9 tdJ9_max_7cf53 ⟨Nat.le_of_ble_eq_true rfl, Nat.le_of_ble_eq_true rfl⟩ rfl (Nat.le_of_ble_eq_true rfl) dX5_angleAfter_20 ?_
  refine vi_istore (lv' := [(4, .int y4), (3, .int y2), (0, .ref (q 0)), (1, .int x1), (2, .int x2)]) C dX5_angleAfter_23 (by decide) rfl ?_
  refine vi_aload_n C 2 dX5_angleAfter_25 rfl ?_
  refine gS_X5_0_6 C dX5_angleAfter_26 ?_
  refine vi_iload_n C 4 dX5_angleAfter_29 rfl ?_
  refine vi_iadd C dX5_angleAfter_30 ?_
  refine vi_iconst (v := 4) C dX5_angleAfter_31 (by decide) ?_
  obtain ⟨y5, hgy5, h⟩ := ob_bd h
  refine vi_callS0i (As := [.int ((u.1 0 6) + x2), .int (4 : Int32)]) (rest := []) C (mJ9_floorDiv_7cf53 C.2.2.2.2.2.2.2.2.1 hgy5) 2 rfl tcJ9_floorDiv_7cf53 tlX5_145 ttJ9_floorDiv_7cf53 tnJ9 tdJ9_floorDiv_7cf53 ⟨Nat.le_of_ble_eq_true rfl, Nat.le_of_ble_eq_true rfl⟩ rfl (Nat.le_of_ble_eq_true rfl) dX5_angleAfter_32 ?_
  refine vi_aload_n C 2 dX5_angleAfter_35 rfl ?_
  refine gS_X5_0_6 C dX5_angleAfter_36 ?_
  refine vi_iconst (v := 4) C dX5_angleAfter_39 (by decide) ?_
  obtain ⟨y6, hgy6, h⟩ := ob_bd h
  refine vi_callS0i (As := [.int (u.1 0 6), .int (4 : Int32)]) (rest := [.int y5]) C (mJ9_floorDiv_7cf53 C.2.2.2.2.2.2.2.2.1 hgy6) 2 rfl tcJ9_floorDiv_7cf53 tlX5_145 ttJ9_floorDiv_7cf53 tnJ9 tdJ9_floorDiv_7cf53 ⟨Nat.le_of_ble_eq_true rfl, Nat.le_of_ble_eq_true rfl⟩ rfl (Nat.le_of_ble_eq_true rfl) dX5_angleAfter_40 ?_
  refine vi_isub C dX5_angleAfter_43 ?_
  obtain ⟨y7, ey7, h⟩ := ob_nm h
  refine vi_nmi ey7 ?_
  refine vi_istore (lv' := [(5, .int y7), (4, .int y4), (3, .int y2), (0, .ref (q 0)), (1, .int x1), (2, .int x2)]) C dX5_angleAfter_44 (by decide) rfl ?_
  refine vi_aload_n C 3 dX5_angleAfter_46 rfl ?_
  refine gS_X5_0_3 C dX5_angleAfter_47 ?_
  refine vi_iload_n C 4 dX5_angleAfter_50 rfl ?_
  obtain ⟨hz8, h⟩ := ob_if h
  refine lS_X5_3 (n := (Int32.toNatClampNeg x1)) C hz8 rfl dX5_angleAfter_51 ?_
  refine vi_iload C 0 dX5_angleAfter_52 rfl ?_
  refine vi_iadd C dX5_angleAfter_54 ?_
  refine vi_iconst (v := 4) C dX5_angleAfter_55 (by decide) ?_
  obtain ⟨y9, hgy9, h⟩ := ob_bd h
  refine vi_callS0i (As := [.int ((u.1 3 (Int32.toNatClampNeg x1)) + y7), .int (4 : Int32)]) (rest := []) C (mJ9_floorMod_7cf53 C.2.2.2.2.2.2.2.2.1 hgy9) 2 rfl tcJ9_floorMod_7cf53 tlX5_130 ttJ9_floorMod_7cf53 tnJ9 tdJ9_floorMod_7cf53 ⟨Nat.le_of_ble_eq_true rfl, Nat.le_of_ble_eq_true rfl⟩ rfl (Nat.le_of_ble_eq_true rfl) dX5_angleAfter_56 ?_
  refine vi_istore (lv' := [(6, .int y9), (5, .int y7), (4, .int y4), (3, .int y2), (0, .ref (q 0)), (1, .int x1), (2, .int x2)]) C dX5_angleAfter_59 (by decide) rfl ?_
  refine vi_iload_n C 3 dX5_angleAfter_61 rfl ?_
  obtain ⟨y10, hgy10, h⟩ := ob_bd h
  refine vi_callS0i (As := [.int y2]) (rest := []) C (mX5_cheerIn C.2.2.2.2.2.2.2.2.1 hgy10) 1 rfl tcX5_cheerIn tlX5_148 ttX5_cheerIn tnX5 tdX5_cheerIn ⟨Nat.le_of_ble_eq_true rfl, Nat.le_of_ble_eq_true rfl⟩ rfl (Nat.le_of_ble_eq_true rfl) dX5_angleAfter_62 ?_
  refine vi_iload C 2 dX5_angleAfter_65 rfl ?_
  refine vi_iadd C dX5_angleAfter_67 ?_
  refine vi_iload_n C 3 dX5_angleAfter_68 rfl ?_
  obtain ⟨y11, hgy11, h⟩ := ob_bd h
  refine vi_callS0i (As := [.int y2]) (rest := [.int (y10 + y4)]) C (mX5_dreadIn C.2.2.2.2.2.2.2.2.1 hgy11) 1 rfl tcX5_dreadIn tlX5_151 ttX5_dreadIn tnX5 tdX5_dreadIn ⟨Nat.le_of_ble_eq_true rfl, Nat.le_of_ble_eq_true rfl⟩ rfl (Nat.le_of_ble_eq_true rfl) dX5_angleAfter_69 ?_
  refine vi_isub C dX5_angleAfter_72 ?_
  refine vi_aload_n C 4 dX5_angleAfter_73 rfl ?_
  refine gS_X5_0_4 C dX5_angleAfter_74 ?_
  refine vi_iload C 0 dX5_angleAfter_77 rfl ?_
  obtain ⟨hz12, h⟩ := ob_if h
  refine lS_X5_4 (n := (Int32.toNatClampNeg y9)) C hz12 rfl dX5_angleAfter_79 ?_
  refine vi_isub C dX5_angleAfter_80 ?_
  exact vi_donei (W := wS q cI cF) RET h dX5_angleAfter_81
theorem mX5_angleAfter {ad adK adV : Nat → Nat} {tS tF : Nat} {tX sK sV : Nat → Nat} (hE : vEok (vE ad adK adV tS tF tX sK sV)) {l : Launch} {D : va_G} {cI cF cC cS cO cB cZ : ClassId} {q : Nat → Nat} {r0 : Int32} {u0 : vH}  {x1 : Int32} {x2 : Int32} {u : vH} (h : fX5_angleAfter x1 x2 u = some (r0, u0)) : vM (vE ad adK adV tS tF tX sK sV) l yX5_angleAfter cX5_angleAfter 7 (some .int) 2 44 D (vT7 cI cF cC cS cO cB cZ) [.ref (q 0), .int x1, .int x2] (wS q cI cF u) (vQi D (wS q cI cF u0) r0) :=
  vM_of hE (by decide +kernel) (Nat.le_of_ble_eq_true rfl) (fun p e s m args below meth c A C hr => kX5_angleAfter_e C (vi_reti C hr) h)
-- ---- X5_readingOf
def fX5_readingOf (x1 : Int32) (u : vH) : Option (UInt32 × vH) := obp (fX5_angleAfter x1 (0 : Int32) u) fun y2 u1 => if (FP.fdiv (FP.i2f (y2 + (u1.1 0 5))) (1082130432 : UInt32)) &&& 0x7fffffff ≤ 0x7f800000 then bd ((FP.fdiv (FP.i2f (y2 + (u1.1 0 5))) (1082130432 : UInt32) : UInt32)) fun y4 => if x1 < 0 ∨ 8 ≤ Int32.toNatClampNeg x1 then none else if (FP.fdiv (FP.i2f (u1.1 2 (Int32.toNatClampNeg x1))) (1090519040 : UInt32)) &&& 0x7fffffff ≤ 0x7f800000 then if (FP.fsub y4 (FP.fdiv (FP.i2f (u1.1 2 (Int32.toNatClampNeg x1))) (1090519040 : UInt32))) &&& 0x7fffffff ≤ 0x7f800000 then some (FP.fsub y4 (FP.fdiv (FP.i2f (u1.1 2 (Int32.toNatClampNeg x1))) (1090519040 : UInt32)), u1) else none else none else none
set_option maxRecDepth 100000 in
set_option maxHeartbeats 4000000 in
theorem kX5_readingOf_e {ad adK adV : Nat → Nat} {tS tF : Nat} {tX sK sV : Nat → Nat} {p : Program} {l : Launch} {e : Env} {s : State} {m : MethodId} {args : Array Value} {below : List Frame} {meth : Method} {c : Code} {A : Nat → Prop} {D : va_G} {cI cF cC cS cO cB cZ : ClassId} {Q : State → Prop} {q : Nat → Nat} (C : vC (vE ad adK adV tS tF tX sK sV) p l s m args meth c A D (vT7 cI cF cC cS cO cB cZ) cX5_readingOf 3 RX5) {r0 : UInt32} {u0 : vH} (RET : ∀ (pc : Nat) (lv : List (Nat × Value)), decode cX5_readingOf pc = .ok (.freturn, 1) → vV p l e { frames := 3, cells := 0, slots := 0, locals := 70 } s m args below meth c A D 3 0 0 Q (wS q cI cF u0) pc lv [.float r0]) {x1 : Int32} {u : vH} (h : fX5_readingOf x1 u = some (r0, u0)) : vV p l e { frames := 3, cells := 0, slots := 0, locals := 70 } s m args below meth c A D 3 0 0 Q (wS q cI cF u) 0 [(0, .ref (q 0)), (1, .int x1)] [] := by
  rw [fX5_readingOf] at h
  refine vi_aload_n C 0 dX5_readingOf_0 rfl ?_
  refine vi_iload_n C 1 dX5_readingOf_1 rfl ?_
  refine vi_iconst (v := 0) C dX5_readingOf_2 (by decide) ?_
  obtain ⟨y2, u1, hgu1, h⟩ := ob_p h
  refine cS_X5_i (As := [.int x1, .int (0 : Int32)]) (rest := []) C (mX5_angleAfter C.2.2.2.2.2.2.2.2.1 hgu1) 2 rfl tcX5_angleAfter tlX5_154 tiX5_angleAfter tsX5_angleAfter rfl tnX5 tdX5_angleAfter ⟨Nat.le_of_ble_eq_true rfl, Nat.le_of_ble_eq_true rfl⟩ rfl (Nat.le_of_ble_eq_true rfl) dX5_readingOf_3 ?_
  refine vi_aload_n C 0 dX5_readingOf_6 rfl ?_
  refine gS_X5_0_5 C dX5_readingOf_7 ?_
  refine vi_iadd C dX5_readingOf_10 ?_
  refine vi_i2f C dX5_readingOf_11 ?_
  refine vi_ldcf (v := 1082130432) C dX5_readingOf_12 tkX5_157 ?_
  obtain ⟨hz3, h⟩ := ob_ok h
  refine vi_fdiv C dX5_readingOf_14 hz3 ?_
  obtain ⟨y4, ey4, h⟩ := ob_nm h
  refine vi_nmf ey4 ?_
  refine vi_fstore_n (lv' := [(2, .float y4), (0, .ref (q 0)), (1, .int x1)]) C dX5_readingOf_15 rfl (by decide) rfl ?_
  refine vi_fload_n C 0 dX5_readingOf_16 rfl ?_
  refine vi_aload_n C 1 dX5_readingOf_17 rfl ?_
  refine gS_X5_0_2 C dX5_readingOf_18 ?_
  refine vi_iload_n C 2 dX5_readingOf_21 rfl ?_
  obtain ⟨hz5, h⟩ := ob_if h
  refine lS_X5_2 (n := (Int32.toNatClampNeg x1)) C hz5 rfl dX5_readingOf_22 ?_
  refine vi_i2f C dX5_readingOf_23 ?_
  refine vi_ldcf (v := 1090519040) C dX5_readingOf_24 tkX5_158 ?_
  obtain ⟨hz6, h⟩ := ob_ok h
  refine vi_fdiv C dX5_readingOf_26 hz6 ?_
  obtain ⟨hz7, h⟩ := ob_ok h
  refine vi_fsub C dX5_readingOf_27 hz7 ?_
  exact vi_donef (W := wS q cI cF) RET h dX5_readingOf_28
theorem mX5_readingOf {ad adK adV : Nat → Nat} {tS tF : Nat} {tX sK sV : Nat → Nat} (hE : vEok (vE ad adK adV tS tF tX sK sV)) {l : Launch} {D : va_G} {cI cF cC cS cO cB cZ : ClassId} {q : Nat → Nat} {r0 : UInt32} {u0 : vH}  {x1 : Int32} {u : vH} (h : fX5_readingOf x1 u = some (r0, u0)) : vM (vE ad adK adV tS tF tX sK sV) l yX5_readingOf cX5_readingOf 3 (some .float) 3 70 D (vT7 cI cF cC cS cO cB cZ) [.ref (q 0), .int x1] (wS q cI cF u) (vQf D (wS q cI cF u0) r0) :=
  vM_of hE (by decide +kernel) (Nat.le_of_ble_eq_true rfl) (fun p e s m args below meth c A C hr => kX5_readingOf_e C (vi_retf C hr) h)
-- ---- X5_addSight
def fX5_addSight_26 : Nat → Int32 → Int32 → vH → Option (vH)
  | 0, _, _, _ => none
  | n + 1, x1, x2, u => (if x2 ≤ 0 then bd ((up2 u.1 5 0 x1, u.2)) fun u2 => bd ((up2 u2.1 6 0 (u2.1 0 6), u2.2)) fun u3 => obp (fX5_readingOf x1 u3) fun y5 u4 => bd ((u4.1, vf_upd u4.2 0 y5)) fun u6 => bd ((up2 u6.1 0 11 ((u6.1 0 11) + (1 : Int32)), u6.2)) fun u7 => some u7 else if x2 - (1 : Int32) < 0 ∨ 10 ≤ Int32.toNatClampNeg (x2 - (1 : Int32)) then none else if x2 < 0 ∨ 10 ≤ Int32.toNatClampNeg x2 then none else bd ((up2 u.1 5 (Int32.toNatClampNeg x2) (u.1 5 (Int32.toNatClampNeg (x2 - (1 : Int32)))), u.2)) fun u10 => if x2 - (1 : Int32) < 0 ∨ 10 ≤ Int32.toNatClampNeg (x2 - (1 : Int32)) then none else if x2 < 0 ∨ 10 ≤ Int32.toNatClampNeg x2 then none else bd ((up2 u10.1 6 (Int32.toNatClampNeg x2) (u10.1 6 (Int32.toNatClampNeg (x2 - (1 : Int32)))), u10.2)) fun u13 => if x2 - (1 : Int32) < 0 ∨ 10 ≤ Int32.toNatClampNeg (x2 - (1 : Int32)) then none else if x2 < 0 ∨ 10 ≤ Int32.toNatClampNeg x2 then none else bd ((u13.1, vf_upd u13.2 (Int32.toNatClampNeg x2) (u13.2 (Int32.toNatClampNeg (x2 - (1 : Int32)))))) fun u16 => bd ((x2 + (-1) : Int32)) fun y17 => fX5_addSight_26 n x1 y17 u16)
set_option maxRecDepth 100000 in
set_option maxHeartbeats 4000000 in
theorem kX5_addSight_26 {ad adK adV : Nat → Nat} {tS tF : Nat} {tX sK sV : Nat → Nat} {p : Program} {l : Launch} {e : Env} {s : State} {m : MethodId} {args : Array Value} {below : List Frame} {meth : Method} {c : Code} {A : Nat → Prop} {D : va_G} {cI cF cC cS cO cB cZ : ClassId} {Q : State → Prop} {q : Nat → Nat} (C : vC (vE ad adK adV tS tF tX sK sV) p l s m args meth c A D (vT7 cI cF cC cS cO cB cZ) cX5_addSight 3 RX5) {u0 : vH} (RET : ∀ (pc : Nat) (lv : List (Nat × Value)), decode cX5_addSight pc = .ok (.return_, 1) → vV p l e { frames := 4, cells := 0, slots := 0, locals := 92 } s m args below meth c A D 3 0 0 Q (wS q cI cF u0) pc lv []) : ∀ (n : Nat) (x1 : Int32) (x2 : Int32) (u : vH), fX5_addSight_26 n x1 x2 u = some u0 → vV p l e { frames := 4, cells := 0, slots := 0, locals := 92 } s m args below meth c A D 3 0 0 Q (wS q cI cF u) 26 [(0, .ref (q 0)), (1, .int x1), (2, .int x2)] [] := by
  intro n
  induction n with
  | zero => intro x1 x2 u h; rw [fX5_addSight_26] at h; cases h
  | succ n ih =>
    intro x1 x2 u h
    rw [fX5_addSight_26] at h
    refine vi_iload_n C 2 dX5_addSight_26 rfl ?_
    refine vi_if_le (tgt := 78) C dX5_addSight_27 (by decide) (fun hc1 => ?_) (fun hc1 => ?_)
    · have h := ob_t h hc1
      refine vi_aload_n C 0 dX5_addSight_78 rfl ?_
      refine gS_X5_0_8 C dX5_addSight_79 ?_
      refine vi_iconst (v := 0) C dX5_addSight_82 (by decide) ?_
      refine vi_iload_n C 1 dX5_addSight_83 rfl ?_
      obtain ⟨u2, eu2, h⟩ := ob_nm h
      refine sS_X5_5 (n := 0) C (by decide) rfl dX5_addSight_84 eu2.symm ?_
      refine vi_aload_n C 0 dX5_addSight_85 rfl ?_
      refine gS_X5_0_9 C dX5_addSight_86 ?_
      refine vi_iconst (v := 0) C dX5_addSight_89 (by decide) ?_
      refine vi_aload_n C 0 dX5_addSight_90 rfl ?_
      refine gS_X5_0_6 C dX5_addSight_91 ?_
      obtain ⟨u3, eu3, h⟩ := ob_nm h
      refine sS_X5_6 (n := 0) C (by decide) rfl dX5_addSight_94 eu3.symm ?_
      refine vi_aload_n C 0 dX5_addSight_95 rfl ?_
      refine gS_X5_0_10 C dX5_addSight_96 ?_
      refine vi_iconst (v := 0) C dX5_addSight_99 (by decide) ?_
      refine vi_aload_n C 0 dX5_addSight_100 rfl ?_
      refine vi_iload_n C 1 dX5_addSight_101 rfl ?_
      obtain ⟨y5, u4, hgu4, h⟩ := ob_p h
      refine cS_X5_f (As := [.int x1]) (rest := [.int (0 : Int32), .ref (q 7)]) C (mX5_readingOf C.2.2.2.2.2.2.2.2.1 hgu4) 1 rfl tcX5_readingOf tlX5_119 tiX5_readingOf tsX5_readingOf rfl tnX5 tdX5_readingOf ⟨Nat.le_of_ble_eq_true rfl, Nat.le_of_ble_eq_true rfl⟩ rfl (Nat.le_of_ble_eq_true rfl) dX5_addSight_102 ?_
      obtain ⟨u6, eu6, h⟩ := ob_nm h
      refine sS_X5_7 (n := 0) C (by decide) rfl dX5_addSight_105 eu6.symm ?_
      refine vi_aload_n C 0 dX5_addSight_106 rfl ?_
      refine vi_dup C dX5_addSight_107 rfl ?_
      refine gS_X5_0_11 C dX5_addSight_108 ?_
      refine vi_iconst (v := 1) C dX5_addSight_111 (by decide) ?_
      refine vi_iadd C dX5_addSight_112 ?_
      obtain ⟨u7, eu7, h⟩ := ob_nm h
      refine pS_X5_0_11 C dX5_addSight_113 eu7.symm ?_
      exact vi_donev (W := wS q cI cF) RET h dX5_addSight_116
    · have h := ob_f h hc1
      refine vi_aload_n C 0 dX5_addSight_30 rfl ?_
      refine gS_X5_0_8 C dX5_addSight_31 ?_
      refine vi_iload_n C 2 dX5_addSight_34 rfl ?_
      refine vi_aload_n C 0 dX5_addSight_35 rfl ?_
      refine gS_X5_0_8 C dX5_addSight_36 ?_
      refine vi_iload_n C 2 dX5_addSight_39 rfl ?_
      refine vi_iconst (v := 1) C dX5_addSight_40 (by decide) ?_
      refine vi_isub C dX5_addSight_41 ?_
      obtain ⟨hz8, h⟩ := ob_if h
      refine lS_X5_5 (n := (Int32.toNatClampNeg (x2 - (1 : Int32)))) C hz8 rfl dX5_addSight_42 ?_
      obtain ⟨hz9, h⟩ := ob_if h
      obtain ⟨u10, eu10, h⟩ := ob_nm h
      refine sS_X5_5 (n := (Int32.toNatClampNeg x2)) C hz9 rfl dX5_addSight_43 eu10.symm ?_
      refine vi_aload_n C 0 dX5_addSight_44 rfl ?_
      refine gS_X5_0_9 C dX5_addSight_45 ?_
      refine vi_iload_n C 2 dX5_addSight_48 rfl ?_
      refine vi_aload_n C 0 dX5_addSight_49 rfl ?_
      refine gS_X5_0_9 C dX5_addSight_50 ?_
      refine vi_iload_n C 2 dX5_addSight_53 rfl ?_
      refine vi_iconst (v := 1) C dX5_addSight_54 (by decide) ?_
      refine vi_isub C dX5_addSight_55 ?_
      obtain ⟨hz11, h⟩ := ob_if h
      refine lS_X5_6 (n := (Int32.toNatClampNeg (x2 - (1 : Int32)))) C hz11 rfl dX5_addSight_56 ?_
      obtain ⟨hz12, h⟩ := ob_if h
      obtain ⟨u13, eu13, h⟩ := ob_nm h
      refine sS_X5_6 (n := (Int32.toNatClampNeg x2)) C hz12 rfl dX5_addSight_57 eu13.symm ?_
      refine vi_aload_n C 0 dX5_addSight_58 rfl ?_
      refine gS_X5_0_10 C dX5_addSight_59 ?_
      refine vi_iload_n C 2 dX5_addSight_62 rfl ?_
      refine vi_aload_n C 0 dX5_addSight_63 rfl ?_
      refine gS_X5_0_10 C dX5_addSight_64 ?_
      refine vi_iload_n C 2 dX5_addSight_67 rfl ?_
      refine vi_iconst (v := 1) C dX5_addSight_68 (by decide) ?_
      refine vi_isub C dX5_addSight_69 ?_
      obtain ⟨hz14, h⟩ := ob_if h
      refine lS_X5_7 (n := (Int32.toNatClampNeg (x2 - (1 : Int32)))) C hz14 rfl dX5_addSight_70 ?_
      obtain ⟨hz15, h⟩ := ob_if h
      obtain ⟨u16, eu16, h⟩ := ob_nm h
      refine sS_X5_7 (n := (Int32.toNatClampNeg x2)) C hz15 rfl dX5_addSight_71 eu16.symm ?_
      obtain ⟨y17, ey17, h⟩ := ob_nm h
      refine vi_iinc (v := y17) (lv' := [(2, .int y17), (0, .ref (q 0)), (1, .int x1)]) C 2 dX5_addSight_72 rfl (by rw [ey17]; rfl) (by decide) rfl ?_
      refine vi_goto (tgt := 26) C dX5_addSight_75 (by decide) ?_
      refine vi_sub C [1, 2, 0] rfl ?_
      exact ih _ _ _ h
def fX5_addSight (x1 : Int32) (u : vH) : Option (vH) := (if (10 : Int32) ≤ u.1 0 7 then bd (((u.1 0 7) - (1 : Int32) : Int32)) fun y2 => fX5_addSight_26 vF x1 y2 u else bd ((up2 u.1 0 7 ((u.1 0 7) + (1 : Int32)), u.2)) fun u3 => bd (((u3.1 0 7) - (1 : Int32) : Int32)) fun y4 => fX5_addSight_26 vF x1 y4 u3)
set_option maxRecDepth 100000 in
set_option maxHeartbeats 4000000 in
theorem kX5_addSight_e {ad adK adV : Nat → Nat} {tS tF : Nat} {tX sK sV : Nat → Nat} {p : Program} {l : Launch} {e : Env} {s : State} {m : MethodId} {args : Array Value} {below : List Frame} {meth : Method} {c : Code} {A : Nat → Prop} {D : va_G} {cI cF cC cS cO cB cZ : ClassId} {Q : State → Prop} {q : Nat → Nat} (C : vC (vE ad adK adV tS tF tX sK sV) p l s m args meth c A D (vT7 cI cF cC cS cO cB cZ) cX5_addSight 3 RX5) {u0 : vH} (RET : ∀ (pc : Nat) (lv : List (Nat × Value)), decode cX5_addSight pc = .ok (.return_, 1) → vV p l e { frames := 4, cells := 0, slots := 0, locals := 92 } s m args below meth c A D 3 0 0 Q (wS q cI cF u0) pc lv []) {x1 : Int32} {u : vH} (h : fX5_addSight x1 u = some u0) : vV p l e { frames := 4, cells := 0, slots := 0, locals := 92 } s m args below meth c A D 3 0 0 Q (wS q cI cF u) 0 [(0, .ref (q 0)), (1, .int x1)] [] := by
  rw [fX5_addSight] at h
  refine vi_aload_n C 0 dX5_addSight_0 rfl ?_
  refine gS_X5_0_7 C dX5_addSight_1 ?_
  refine vi_bipush (v := 10) C dX5_addSight_4 (by decide) ?_
  refine vi_icmp_ge (tgt := 19) C dX5_addSight_6 (by decide) (fun hc1 => ?_) (fun hc1 => ?_)
  · have h := ob_t h hc1
    refine vi_aload_n C 0 dX5_addSight_19 rfl ?_
    refine gS_X5_0_7 C dX5_addSight_20 ?_
    refine vi_iconst (v := 1) C dX5_addSight_23 (by decide) ?_
    refine vi_isub C dX5_addSight_24 ?_
    obtain ⟨y2, ey2, h⟩ := ob_nm h
    refine vi_nmi ey2 ?_
    refine vi_istore_n (lv' := [(2, .int y2), (0, .ref (q 0)), (1, .int x1)]) C dX5_addSight_25 rfl (by decide) rfl ?_
    refine vi_sub C [1, 2, 0] rfl ?_
    exact kX5_addSight_26 C RET  vF _ _ _ h
  · have h := ob_f h hc1
    refine vi_aload_n C 0 dX5_addSight_9 rfl ?_
    refine vi_dup C dX5_addSight_10 rfl ?_
    refine gS_X5_0_7 C dX5_addSight_11 ?_
    refine vi_iconst (v := 1) C dX5_addSight_14 (by decide) ?_
    refine vi_iadd C dX5_addSight_15 ?_
    obtain ⟨u3, eu3, h⟩ := ob_nm h
    refine pS_X5_0_7 C dX5_addSight_16 eu3.symm ?_
    refine vi_aload_n C 0 dX5_addSight_19 rfl ?_
    refine gS_X5_0_7 C dX5_addSight_20 ?_
    refine vi_iconst (v := 1) C dX5_addSight_23 (by decide) ?_
    refine vi_isub C dX5_addSight_24 ?_
    obtain ⟨y4, ey4, h⟩ := ob_nm h
    refine vi_nmi ey4 ?_
    refine vi_istore_n (lv' := [(2, .int y4), (0, .ref (q 0)), (1, .int x1)]) C dX5_addSight_25 rfl (by decide) rfl ?_
    refine vi_sub C [1, 2, 0] rfl ?_
    exact kX5_addSight_26 C RET  vF _ _ _ h
theorem mX5_addSight {ad adK adV : Nat → Nat} {tS tF : Nat} {tX sK sV : Nat → Nat} (hE : vEok (vE ad adK adV tS tF tX sK sV)) {l : Launch} {D : va_G} {cI cF cC cS cO cB cZ : ClassId} {q : Nat → Nat} {u0 : vH}  {x1 : Int32} {u : vH} (h : fX5_addSight x1 u = some u0) : vM (vE ad adK adV tS tF tX sK sV) l yX5_addSight cX5_addSight 3 none 4 92 D (vT7 cI cF cC cS cO cB cZ) [.ref (q 0), .int x1] (wS q cI cF u) (vQv D (wS q cI cF u0)) :=
  vM_of hE (by decide +kernel) (Nat.le_of_ble_eq_true rfl) (fun p e s m args below meth c A C hr => kX5_addSight_e C (vi_retv C hr) h)
-- ---- X5_give
def fX5_give (x1 : Int32) (x2 : Int32) (u : vH) : Option (vH) := if x1 < 0 ∨ 8 ≤ Int32.toNatClampNeg x1 then none else if x1 < 0 ∨ 8 ≤ Int32.toNatClampNeg x1 then none else bd ((up2 u.1 2 (Int32.toNatClampNeg x1) ((u.1 2 (Int32.toNatClampNeg x1)) + x2), u.2)) fun u3 => bd ((up2 u3.1 0 12 ((u3.1 0 12) + x2), u3.2)) fun u4 => some u4
set_option maxRecDepth 100000 in
set_option maxHeartbeats 4000000 in
theorem kX5_give_e {ad adK adV : Nat → Nat} {tS tF : Nat} {tX sK sV : Nat → Nat} {p : Program} {l : Launch} {e : Env} {s : State} {m : MethodId} {args : Array Value} {below : List Frame} {meth : Method} {c : Code} {A : Nat → Prop} {D : va_G} {cI cF cC cS cO cB cZ : ClassId} {Q : State → Prop} {q : Nat → Nat} (C : vC (vE ad adK adV tS tF tX sK sV) p l s m args meth c A D (vT7 cI cF cC cS cO cB cZ) cX5_give 3 RX5) {u0 : vH} (RET : ∀ (pc : Nat) (lv : List (Nat × Value)), decode cX5_give pc = .ok (.return_, 1) → vV p l e { frames := 0, cells := 0, slots := 0, locals := 0 } s m args below meth c A D 3 0 0 Q (wS q cI cF u0) pc lv []) {x1 : Int32} {x2 : Int32} {u : vH} (h : fX5_give x1 x2 u = some u0) : vV p l e { frames := 0, cells := 0, slots := 0, locals := 0 } s m args below meth c A D 3 0 0 Q (wS q cI cF u) 0 [(0, .ref (q 0)), (1, .int x1), (2, .int x2)] [] := by
  rw [fX5_give] at h
  refine vi_aload_n C 0 dX5_give_0 rfl ?_
  refine gS_X5_0_2 C dX5_give_1 ?_
  refine vi_iload_n C 1 dX5_give_4 rfl ?_
  refine vi_dup2 C dX5_give_5 rfl rfl ?_
  obtain ⟨hz1, h⟩ := ob_if h
  refine lS_X5_2 (n := (Int32.toNatClampNeg x1)) C hz1 rfl dX5_give_6 ?_
  refine vi_iload_n C 2 dX5_give_7 rfl ?_
  refine vi_iadd C dX5_give_8 ?_
  obtain ⟨hz2, h⟩ := ob_if h
  obtain ⟨u3, eu3, h⟩ := ob_nm h
  refine sS_X5_2 (n := (Int32.toNatClampNeg x1)) C hz2 rfl dX5_give_9 eu3.symm ?_
  refine vi_aload_n C 0 dX5_give_10 rfl ?_
  refine vi_dup C dX5_give_11 rfl ?_
  refine gS_X5_0_12 C dX5_give_12 ?_
  refine vi_iload_n C 2 dX5_give_15 rfl ?_
  refine vi_iadd C dX5_give_16 ?_
  obtain ⟨u4, eu4, h⟩ := ob_nm h
  refine pS_X5_0_12 C dX5_give_17 eu4.symm ?_
  exact vi_donev (W := wS q cI cF) RET h dX5_give_20
theorem mX5_give {ad adK adV : Nat → Nat} {tS tF : Nat} {tX sK sV : Nat → Nat} (hE : vEok (vE ad adK adV tS tF tX sK sV)) {l : Launch} {D : va_G} {cI cF cC cS cO cB cZ : ClassId} {q : Nat → Nat} {u0 : vH}  {x1 : Int32} {x2 : Int32} {u : vH} (h : fX5_give x1 x2 u = some u0) : vM (vE ad adK adV tS tF tX sK sV) l yX5_give cX5_give 3 none 0 0 D (vT7 cI cF cC cS cO cB cZ) [.ref (q 0), .int x1, .int x2] (wS q cI cF u) (vQv D (wS q cI cF u0)) :=
  vM_of hE (by decide +kernel) (Nat.le_of_ble_eq_true rfl) (fun p e s m args below meth c A C hr => kX5_give_e C (vi_retv C hr) h)
-- ---- X5_passHour
def fX5_passHour_65 (rec_12 : Int32 → vH → Option (vH)) (x1 : Int32) (u : vH) : Option (vH) := (if (u.1 0 6) - (u.1 0 6) / (4 : Int32) * (4 : Int32) = 0 then if x1 < 0 ∨ 8 ≤ Int32.toNatClampNeg x1 then none else if x1 < 0 ∨ 8 ≤ Int32.toNatClampNeg x1 then none else bd ((up2 u.1 3 (Int32.toNatClampNeg x1) (((u.1 3 (Int32.toNatClampNeg x1)) + (1 : Int32)) - ((u.1 3 (Int32.toNatClampNeg x1)) + (1 : Int32)) / (4 : Int32) * (4 : Int32)), u.2)) fun u5 => bd ((x1 + 1 : Int32)) fun y6 => rec_12 y6 u5 else bd ((x1 + 1 : Int32)) fun y2 => rec_12 y2 u)
set_option maxRecDepth 100000 in
set_option maxHeartbeats 4000000 in
theorem kX5_passHour_65 {ad adK adV : Nat → Nat} {tS tF : Nat} {tX sK sV : Nat → Nat} {p : Program} {l : Launch} {e : Env} {s : State} {m : MethodId} {args : Array Value} {below : List Frame} {meth : Method} {c : Code} {A : Nat → Prop} {D : va_G} {cI cF cC cS cO cB cZ : ClassId} {Q : State → Prop} {q : Nat → Nat} (C : vC (vE ad adK adV tS tF tX sK sV) p l s m args meth c A D (vT7 cI cF cC cS cO cB cZ) cX5_passHour 2 RX5) {u0 : vH} (RET : ∀ (pc : Nat) (lv : List (Nat × Value)), decode cX5_passHour pc = .ok (.return_, 1) → vV p l e { frames := 2, cells := 0, slots := 0, locals := 44 } s m args below meth c A D 2 0 0 Q (wS q cI cF u0) pc lv []) {rec_12 : Int32 → vH → Option (vH)} (REC_12 : ∀ (x1 : Int32) (u : vH), rec_12 x1 u = some u0 → vV p l e { frames := 2, cells := 0, slots := 0, locals := 44 } s m args below meth c A D 2 0 0 Q (wS q cI cF u) 12 [(0, .ref (q 0)), (1, .int x1)] []) : ∀ (x1 : Int32) (u : vH), fX5_passHour_65 rec_12 x1 u = some u0 → vV p l e { frames := 2, cells := 0, slots := 0, locals := 44 } s m args below meth c A D 2 0 0 Q (wS q cI cF u) 65 [(0, .ref (q 0)), (1, .int x1)] [] := by
  intro x1 u h
  rw [fX5_passHour_65] at h
  refine vi_aload_n C 0 dX5_passHour_65 rfl ?_
  refine gS_X5_0_6 C dX5_passHour_66 ?_
  refine vi_iconst (v := 4) C dX5_passHour_69 (by decide) ?_
  refine vi_irem C dX5_passHour_70 (by decide) ?_
  refine vi_if_ne (tgt := 90) C dX5_passHour_71 (by decide) (fun hc1 => ?_) (fun hc1 => ?_)
  · have h := ob_f h hc1
    obtain ⟨y2, ey2, h⟩ := ob_nm h
    refine vi_iinc (v := y2) (lv' := [(1, .int y2), (0, .ref (q 0))]) C 1 dX5_passHour_90 rfl (by rw [ey2]; rfl) (by decide) rfl ?_
    refine vi_goto (tgt := 12) C dX5_passHour_93 (by decide) ?_
    refine vi_sub C [1, 0] rfl ?_
    exact REC_12 _ _ h
  · have h := ob_t h hc1
    refine vi_aload_n C 0 dX5_passHour_74 rfl ?_
    refine gS_X5_0_3 C dX5_passHour_75 ?_
    refine vi_iload_n C 1 dX5_passHour_78 rfl ?_
    refine vi_aload_n C 0 dX5_passHour_79 rfl ?_
    refine gS_X5_0_3 C dX5_passHour_80 ?_
    refine vi_iload_n C 1 dX5_passHour_83 rfl ?_
    obtain ⟨hz3, h⟩ := ob_if h
    refine lS_X5_3 (n := (Int32.toNatClampNeg x1)) C hz3 rfl dX5_passHour_84 ?_
    refine vi_iconst (v := 1) C dX5_passHour_85 (by decide) ?_
    refine vi_iadd C dX5_passHour_86 ?_
    refine vi_iconst (v := 4) C dX5_passHour_87 (by decide) ?_
    refine vi_irem C dX5_passHour_88 (by decide) ?_
    obtain ⟨hz4, h⟩ := ob_if h
    obtain ⟨u5, eu5, h⟩ := ob_nm h
    refine sS_X5_3 (n := (Int32.toNatClampNeg x1)) C hz4 rfl dX5_passHour_89 eu5.symm ?_
    obtain ⟨y6, ey6, h⟩ := ob_nm h
    refine vi_iinc (v := y6) (lv' := [(1, .int y6), (0, .ref (q 0))]) C 1 dX5_passHour_90 rfl (by rw [ey6]; rfl) (by decide) rfl ?_
    refine vi_goto (tgt := 12) C dX5_passHour_93 (by decide) ?_
    refine vi_sub C [1, 0] rfl ?_
    exact REC_12 _ _ h
def fX5_passHour_12 : Nat → Int32 → vH → Option (vH)
  | 0, _, _ => none
  | n + 1, x1, u => (if u.1 0 0 ≤ x1 then some u else if x1 < 0 ∨ 8 ≤ Int32.toNatClampNeg x1 then none else (fX5_turned (u.1 1 (Int32.toNatClampNeg x1)) (1 : Int32)).bind fun y3 => if x1 < 0 ∨ 8 ≤ Int32.toNatClampNeg x1 then none else bd ((up2 u.1 1 (Int32.toNatClampNeg x1) y3, u.2)) fun u5 => if x1 < 0 ∨ 8 ≤ Int32.toNatClampNeg x1 then none else (if u5.1 2 (Int32.toNatClampNeg x1) ≤ 0 then fX5_passHour_65 (fun a0 a1 => fX5_passHour_12 n  a0 a1) x1 u5 else if x1 < 0 ∨ 8 ≤ Int32.toNatClampNeg x1 then none else if x1 < 0 ∨ 8 ≤ Int32.toNatClampNeg x1 then none else bd ((up2 u5.1 2 (Int32.toNatClampNeg x1) ((u5.1 2 (Int32.toNatClampNeg x1)) - (1 : Int32)), u5.2)) fun u10 => bd ((up2 u10.1 0 13 ((u10.1 0 13) + (1 : Int32)), u10.2)) fun u11 => fX5_passHour_65 (fun a0 a1 => fX5_passHour_12 n  a0 a1) x1 u11))
set_option maxRecDepth 100000 in
set_option maxHeartbeats 4000000 in
theorem kX5_passHour_12 {ad adK adV : Nat → Nat} {tS tF : Nat} {tX sK sV : Nat → Nat} {p : Program} {l : Launch} {e : Env} {s : State} {m : MethodId} {args : Array Value} {below : List Frame} {meth : Method} {c : Code} {A : Nat → Prop} {D : va_G} {cI cF cC cS cO cB cZ : ClassId} {Q : State → Prop} {q : Nat → Nat} (C : vC (vE ad adK adV tS tF tX sK sV) p l s m args meth c A D (vT7 cI cF cC cS cO cB cZ) cX5_passHour 2 RX5) {u0 : vH} (RET : ∀ (pc : Nat) (lv : List (Nat × Value)), decode cX5_passHour pc = .ok (.return_, 1) → vV p l e { frames := 2, cells := 0, slots := 0, locals := 44 } s m args below meth c A D 2 0 0 Q (wS q cI cF u0) pc lv []) : ∀ (n : Nat) (x1 : Int32) (u : vH), fX5_passHour_12 n x1 u = some u0 → vV p l e { frames := 2, cells := 0, slots := 0, locals := 44 } s m args below meth c A D 2 0 0 Q (wS q cI cF u) 12 [(0, .ref (q 0)), (1, .int x1)] [] := by
  intro n
  induction n with
  | zero => intro x1 u h; rw [fX5_passHour_12] at h; cases h
  | succ n ih =>
    intro x1 u h
    rw [fX5_passHour_12] at h
    refine vi_iload_n C 1 dX5_passHour_12 rfl ?_
    refine vi_aload_n C 0 dX5_passHour_13 rfl ?_
    refine gS_X5_0_0 C dX5_passHour_14 ?_
    refine vi_icmp_ge (tgt := 96) C dX5_passHour_17 (by decide) (fun hc1 => ?_) (fun hc1 => ?_)
    · have h := ob_t h hc1
      exact vi_donev (W := wS q cI cF) RET h dX5_passHour_96
    · have h := ob_f h hc1
      refine vi_aload_n C 0 dX5_passHour_20 rfl ?_
      refine gS_X5_0_1 C dX5_passHour_21 ?_
      refine vi_iload_n C 1 dX5_passHour_24 rfl ?_
      refine vi_aload_n C 0 dX5_passHour_25 rfl ?_
      refine gS_X5_0_1 C dX5_passHour_26 ?_
      refine vi_iload_n C 1 dX5_passHour_29 rfl ?_
      obtain ⟨hz2, h⟩ := ob_if h
      refine lS_X5_1 (n := (Int32.toNatClampNeg x1)) C hz2 rfl dX5_passHour_30 ?_
      refine vi_iconst (v := 1) C dX5_passHour_31 (by decide) ?_
      obtain ⟨y3, hgy3, h⟩ := ob_bd h
      refine vi_callS0i (As := [.int (u.1 1 (Int32.toNatClampNeg x1)), .int (1 : Int32)]) (rest := [.int x1, .ref (q 1)]) C (mX5_turned C.2.2.2.2.2.2.2.2.1 hgy3) 2 rfl tcX5_turned tlX5_123 ttX5_turned tnX5 tdX5_turned ⟨Nat.le_of_ble_eq_true rfl, Nat.le_of_ble_eq_true rfl⟩ rfl (Nat.le_of_ble_eq_true rfl) dX5_passHour_32 ?_
      obtain ⟨hz4, h⟩ := ob_if h
      obtain ⟨u5, eu5, h⟩ := ob_nm h
      refine sS_X5_1 (n := (Int32.toNatClampNeg x1)) C hz4 rfl dX5_passHour_35 eu5.symm ?_
      refine vi_aload_n C 0 dX5_passHour_36 rfl ?_
      refine gS_X5_0_2 C dX5_passHour_37 ?_
      refine vi_iload_n C 1 dX5_passHour_40 rfl ?_
      obtain ⟨hz6, h⟩ := ob_if h
      refine lS_X5_2 (n := (Int32.toNatClampNeg x1)) C hz6 rfl dX5_passHour_41 ?_
      refine vi_if_le (tgt := 65) C dX5_passHour_42 (by decide) (fun hc7 => ?_) (fun hc7 => ?_)
      · have h := ob_t h hc7
        refine vi_sub C [0, 1] rfl ?_
        exact kX5_passHour_65 C RET ih  _ _ h
      · have h := ob_f h hc7
        refine vi_aload_n C 0 dX5_passHour_45 rfl ?_
        refine gS_X5_0_2 C dX5_passHour_46 ?_
        refine vi_iload_n C 1 dX5_passHour_49 rfl ?_
        refine vi_dup2 C dX5_passHour_50 rfl rfl ?_
        obtain ⟨hz8, h⟩ := ob_if h
        refine lS_X5_2 (n := (Int32.toNatClampNeg x1)) C hz8 rfl dX5_passHour_51 ?_
        refine vi_iconst (v := 1) C dX5_passHour_52 (by decide) ?_
        refine vi_isub C dX5_passHour_53 ?_
        obtain ⟨hz9, h⟩ := ob_if h
        obtain ⟨u10, eu10, h⟩ := ob_nm h
        refine sS_X5_2 (n := (Int32.toNatClampNeg x1)) C hz9 rfl dX5_passHour_54 eu10.symm ?_
        refine vi_aload_n C 0 dX5_passHour_55 rfl ?_
        refine vi_dup C dX5_passHour_56 rfl ?_
        refine gS_X5_0_13 C dX5_passHour_57 ?_
        refine vi_iconst (v := 1) C dX5_passHour_60 (by decide) ?_
        refine vi_iadd C dX5_passHour_61 ?_
        obtain ⟨u11, eu11, h⟩ := ob_nm h
        refine pS_X5_0_13 C dX5_passHour_62 eu11.symm ?_
        refine vi_sub C [0, 1] rfl ?_
        exact kX5_passHour_65 C RET ih  _ _ h
def fX5_passHour (u : vH) : Option (vH) := bd ((up2 u.1 0 6 ((u.1 0 6) + (1 : Int32)), u.2)) fun u1 => fX5_passHour_12 vF (0 : Int32) u1
set_option maxRecDepth 100000 in
set_option maxHeartbeats 4000000 in
theorem kX5_passHour_e {ad adK adV : Nat → Nat} {tS tF : Nat} {tX sK sV : Nat → Nat} {p : Program} {l : Launch} {e : Env} {s : State} {m : MethodId} {args : Array Value} {below : List Frame} {meth : Method} {c : Code} {A : Nat → Prop} {D : va_G} {cI cF cC cS cO cB cZ : ClassId} {Q : State → Prop} {q : Nat → Nat} (C : vC (vE ad adK adV tS tF tX sK sV) p l s m args meth c A D (vT7 cI cF cC cS cO cB cZ) cX5_passHour 2 RX5) {u0 : vH} (RET : ∀ (pc : Nat) (lv : List (Nat × Value)), decode cX5_passHour pc = .ok (.return_, 1) → vV p l e { frames := 2, cells := 0, slots := 0, locals := 44 } s m args below meth c A D 2 0 0 Q (wS q cI cF u0) pc lv []) {u : vH} (h : fX5_passHour u = some u0) : vV p l e { frames := 2, cells := 0, slots := 0, locals := 44 } s m args below meth c A D 2 0 0 Q (wS q cI cF u) 0 [(0, .ref (q 0))] [] := by
  rw [fX5_passHour] at h
  refine vi_aload_n C 0 dX5_passHour_0 rfl ?_
  refine vi_dup C dX5_passHour_1 rfl ?_
  refine gS_X5_0_6 C dX5_passHour_2 ?_
  refine vi_iconst (v := 1) C dX5_passHour_5 (by decide) ?_
  refine vi_iadd C dX5_passHour_6 ?_
  obtain ⟨u1, eu1, h⟩ := ob_nm h
  refine pS_X5_0_6 C dX5_passHour_7 eu1.symm ?_
  refine vi_iconst (v := 0) C dX5_passHour_10 (by decide) ?_
  refine vi_istore_n (lv' := [(1, .int (0 : Int32)), (0, .ref (q 0))]) C dX5_passHour_11 rfl (by decide) rfl ?_
  refine vi_sub C [1, 0] rfl ?_
  exact kX5_passHour_12 C RET  vF _ _ h
theorem mX5_passHour {ad adK adV : Nat → Nat} {tS tF : Nat} {tX sK sV : Nat → Nat} (hE : vEok (vE ad adK adV tS tF tX sK sV)) {l : Launch} {D : va_G} {cI cF cC cS cO cB cZ : ClassId} {q : Nat → Nat} {u0 : vH}  {u : vH} (h : fX5_passHour u = some u0) : vM (vE ad adK adV tS tF tX sK sV) l yX5_passHour cX5_passHour 2 none 2 44 D (vT7 cI cF cC cS cO cB cZ) [.ref (q 0)] (wS q cI cF u) (vQv D (wS q cI cF u0)) :=
  vM_of hE (by decide +kernel) (Nat.le_of_ble_eq_true rfl) (fun p e s m args below meth c A C hr => kX5_passHour_e C (vi_retv C hr) h)
-- ---- X5_carryOut
def fX5_carryOut (x1 : Nat) (x2 : Int32) (x3 : Int32) (u : vH) : Option (vH) := if x1 < 10 then if nI x1 < 0 ∨ 10 ≤ Int32.toNatClampNeg (nI x1) then none else (if vsw.getD (Int32.toNatClampNeg (nI x1)) 0 = 1 then (fX5_addSailor x3 u).bind fun u3 => some u3 else (if vsw.getD (Int32.toNatClampNeg (nI x1)) 0 = 2 then (fX5_removeSailor x2 u).bind fun u5 => some u5 else (if vsw.getD (Int32.toNatClampNeg (nI x1)) 0 = 3 then (fX5_addSight x2 u).bind fun u7 => some u7 else (if vsw.getD (Int32.toNatClampNeg (nI x1)) 0 = 4 then if x2 < 0 ∨ 8 ≤ Int32.toNatClampNeg x2 then none else bd ((up2 u.1 1 (Int32.toNatClampNeg x2) x3, u.2)) fun u10 => some u10 else (if vsw.getD (Int32.toNatClampNeg (nI x1)) 0 = 5 then (fX5_give x2 x3 u).bind fun u12 => some u12 else (if vsw.getD (Int32.toNatClampNeg (nI x1)) 0 = 6 then if x2 < 0 ∨ 8 ≤ Int32.toNatClampNeg x2 then none else bd ((up2 u.1 3 (Int32.toNatClampNeg x2) x3, u.2)) fun u15 => some u15 else (if vsw.getD (Int32.toNatClampNeg (nI x1)) 0 = 7 then if x2 < 0 ∨ 4 ≤ Int32.toNatClampNeg x2 then none else bd ((up2 u.1 4 (Int32.toNatClampNeg x2) x3, u.2)) fun u18 => some u18 else (if vsw.getD (Int32.toNatClampNeg (nI x1)) 0 = 8 then bd ((up2 u.1 0 5 x3, u.2)) fun u20 => some u20 else (fX5_passHour u).bind fun u22 => some u22)))))))) else none
set_option maxRecDepth 100000 in
set_option maxHeartbeats 4000000 in
theorem kX5_carryOut_e {ad adK adV : Nat → Nat} {tS tF : Nat} {tX sK sV : Nat → Nat} {p : Program} {l : Launch} {e : Env} {s : State} {m : MethodId} {args : Array Value} {below : List Frame} {meth : Method} {c : Code} {A : Nat → Prop} {D : va_G} {cI cF cC cS cO cB cZ : ClassId} {Q : State → Prop} {q : Nat → Nat} (C : vC (vE ad adK adV tS tF tX sK sV) p l s m args meth c A D (vT7 cI cF cC cS cO cB cZ) cX5_carryOut 4 RX5) {u0 : vH} (RET : ∀ (pc : Nat) (lv : List (Nat × Value)), decode cX5_carryOut pc = .ok (.return_, 1) → vV p l e { frames := 5, cells := 0, slots := 0, locals := 114 } s m args below meth c A D 4 0 0 Q (wS q cI cF u0) pc lv []) {x1 : Nat} {x2 : Int32} {x3 : Int32} {u : vH} (h : fX5_carryOut x1 x2 x3 u = some u0) : vV p l e { frames := 5, cells := 0, slots := 0, locals := 114 } s m args below meth c A D 4 0 0 Q (wS q cI cF u) 0 [(0, .ref (q 0)), (1, .ref (ad x1)), (2, .int x2), (3, .int x3)] [] := by
  rw [fX5_carryOut] at h
  refine vi_getSw C tfX5_70 dX5_carryOut_0 ?_
  refine vi_aload_n C 1 dX5_carryOut_3 rfl ?_
  obtain ⟨hz1, h⟩ := ob_ok h
  refine vi_callOrd (rest := [.ref tS]) C hz1 tlX5_75 ⟨Nat.le_of_ble_eq_true rfl, Nat.le_of_ble_eq_true rfl⟩ (Nat.le_of_ble_eq_true rfl) dX5_carryOut_4 ?_
  obtain ⟨hz2, h⟩ := ob_if h
  refine vi_ldSw (n := (Int32.toNatClampNeg (nI x1))) C hz2 rfl dX5_carryOut_7 ?_
  by_cases hc4 : vsw.getD (Int32.toNatClampNeg (nI x1)) 0 = 1
  · have h := ob_t h hc4
    refine vi_tswIn (off := 48) (tgt := 56) C dX5_carryOut_8 (by rw [hc4]; decide) (by rw [hc4]; decide) (by rw [hc4]; rfl) (by decide) ?_
    refine vi_aload_n C 0 dX5_carryOut_56 rfl ?_
    refine vi_iload_n C 3 dX5_carryOut_57 rfl ?_
    obtain ⟨u3, hgu3, h⟩ := ob_bd h
    refine cS_X5_v (As := [.int x3]) (rest := []) C (mX5_addSailor C.2.2.2.2.2.2.2.2.1 hgu3) 1 rfl tcX5_addSailor tlX5_99 tiX5_addSailor tsX5_addSailor rfl tnX5 tdX5_addSailor ⟨Nat.le_of_ble_eq_true rfl, Nat.le_of_ble_eq_true rfl⟩ rfl (Nat.le_of_ble_eq_true rfl) dX5_carryOut_58 ?_
    refine vi_goto (tgt := 131) C dX5_carryOut_61 (by decide) ?_
    exact vi_donev (W := wS q cI cF) RET h dX5_carryOut_131
  · replace h := ob_f h hc4
    by_cases hc6 : vsw.getD (Int32.toNatClampNeg (nI x1)) 0 = 2
    · have h := ob_t h hc6
      refine vi_tswIn (off := 56) (tgt := 64) C dX5_carryOut_8 (by rw [hc6]; decide) (by rw [hc6]; decide) (by rw [hc6]; rfl) (by decide) ?_
      refine vi_aload_n C 0 dX5_carryOut_64 rfl ?_
      refine vi_iload_n C 2 dX5_carryOut_65 rfl ?_
      obtain ⟨u5, hgu5, h⟩ := ob_bd h
      refine cS_X5_v (As := [.int x2]) (rest := []) C (mX5_removeSailor C.2.2.2.2.2.2.2.2.1 hgu5) 1 rfl tcX5_removeSailor tlX5_103 tiX5_removeSailor tsX5_removeSailor rfl tnX5 tdX5_removeSailor ⟨Nat.le_of_ble_eq_true rfl, Nat.le_of_ble_eq_true rfl⟩ rfl (Nat.le_of_ble_eq_true rfl) dX5_carryOut_66 ?_
      refine vi_goto (tgt := 131) C dX5_carryOut_69 (by decide) ?_
      exact vi_donev (W := wS q cI cF) RET h dX5_carryOut_131
    · replace h := ob_f h hc6
      by_cases hc8 : vsw.getD (Int32.toNatClampNeg (nI x1)) 0 = 3
      · have h := ob_t h hc8
        refine vi_tswIn (off := 64) (tgt := 72) C dX5_carryOut_8 (by rw [hc8]; decide) (by rw [hc8]; decide) (by rw [hc8]; rfl) (by decide) ?_
        refine vi_aload_n C 0 dX5_carryOut_72 rfl ?_
        refine vi_iload_n C 2 dX5_carryOut_73 rfl ?_
        obtain ⟨u7, hgu7, h⟩ := ob_bd h
        refine cS_X5_v (As := [.int x2]) (rest := []) C (mX5_addSight C.2.2.2.2.2.2.2.2.1 hgu7) 1 rfl tcX5_addSight tlX5_106 tiX5_addSight tsX5_addSight rfl tnX5 tdX5_addSight ⟨Nat.le_of_ble_eq_true rfl, Nat.le_of_ble_eq_true rfl⟩ rfl (Nat.le_of_ble_eq_true rfl) dX5_carryOut_74 ?_
        refine vi_goto (tgt := 131) C dX5_carryOut_77 (by decide) ?_
        exact vi_donev (W := wS q cI cF) RET h dX5_carryOut_131
      · replace h := ob_f h hc8
        by_cases hc11 : vsw.getD (Int32.toNatClampNeg (nI x1)) 0 = 4
        · have h := ob_t h hc11
          refine vi_tswIn (off := 72) (tgt := 80) C dX5_carryOut_8 (by rw [hc11]; decide) (by rw [hc11]; decide) (by rw [hc11]; rfl) (by decide) ?_
          refine vi_aload_n C 0 dX5_carryOut_80 rfl ?_
          refine gS_X5_0_1 C dX5_carryOut_81 ?_
          refine vi_iload_n C 2 dX5_carryOut_84 rfl ?_
          refine vi_iload_n C 3 dX5_carryOut_85 rfl ?_
          obtain ⟨hz9, h⟩ := ob_if h
          obtain ⟨u10, eu10, h⟩ := ob_nm h
          refine sS_X5_1 (n := (Int32.toNatClampNeg x2)) C hz9 rfl dX5_carryOut_86 eu10.symm ?_
          refine vi_goto (tgt := 131) C dX5_carryOut_87 (by decide) ?_
          exact vi_donev (W := wS q cI cF) RET h dX5_carryOut_131
        · replace h := ob_f h hc11
          by_cases hc13 : vsw.getD (Int32.toNatClampNeg (nI x1)) 0 = 5
          · have h := ob_t h hc13
            refine vi_tswIn (off := 82) (tgt := 90) C dX5_carryOut_8 (by rw [hc13]; decide) (by rw [hc13]; decide) (by rw [hc13]; rfl) (by decide) ?_
            refine vi_aload_n C 0 dX5_carryOut_90 rfl ?_
            refine vi_iload_n C 2 dX5_carryOut_91 rfl ?_
            refine vi_iload_n C 3 dX5_carryOut_92 rfl ?_
            obtain ⟨u12, hgu12, h⟩ := ob_bd h
            refine cS_X5_v (As := [.int x2, .int x3]) (rest := []) C (mX5_give C.2.2.2.2.2.2.2.2.1 hgu12) 2 rfl tcX5_give tlX5_109 tiX5_give tsX5_give rfl tnX5 tdX5_give ⟨Nat.le_of_ble_eq_true rfl, Nat.le_of_ble_eq_true rfl⟩ rfl (Nat.le_of_ble_eq_true rfl) dX5_carryOut_93 ?_
            refine vi_goto (tgt := 131) C dX5_carryOut_96 (by decide) ?_
            exact vi_donev (W := wS q cI cF) RET h dX5_carryOut_131
          · replace h := ob_f h hc13
            by_cases hc16 : vsw.getD (Int32.toNatClampNeg (nI x1)) 0 = 6
            · have h := ob_t h hc16
              refine vi_tswIn (off := 91) (tgt := 99) C dX5_carryOut_8 (by rw [hc16]; decide) (by rw [hc16]; decide) (by rw [hc16]; rfl) (by decide) ?_
              refine vi_aload_n C 0 dX5_carryOut_99 rfl ?_
              refine gS_X5_0_3 C dX5_carryOut_100 ?_
              refine vi_iload_n C 2 dX5_carryOut_103 rfl ?_
              refine vi_iload_n C 3 dX5_carryOut_104 rfl ?_
              obtain ⟨hz14, h⟩ := ob_if h
              obtain ⟨u15, eu15, h⟩ := ob_nm h
              refine sS_X5_3 (n := (Int32.toNatClampNeg x2)) C hz14 rfl dX5_carryOut_105 eu15.symm ?_
              refine vi_goto (tgt := 131) C dX5_carryOut_106 (by decide) ?_
              exact vi_donev (W := wS q cI cF) RET h dX5_carryOut_131
            · replace h := ob_f h hc16
              by_cases hc19 : vsw.getD (Int32.toNatClampNeg (nI x1)) 0 = 7
              · have h := ob_t h hc19
                refine vi_tswIn (off := 101) (tgt := 109) C dX5_carryOut_8 (by rw [hc19]; decide) (by rw [hc19]; decide) (by rw [hc19]; rfl) (by decide) ?_
                refine vi_aload_n C 0 dX5_carryOut_109 rfl ?_
                refine gS_X5_0_4 C dX5_carryOut_110 ?_
                refine vi_iload_n C 2 dX5_carryOut_113 rfl ?_
                refine vi_iload_n C 3 dX5_carryOut_114 rfl ?_
                obtain ⟨hz17, h⟩ := ob_if h
                obtain ⟨u18, eu18, h⟩ := ob_nm h
                refine sS_X5_4 (n := (Int32.toNatClampNeg x2)) C hz17 rfl dX5_carryOut_115 eu18.symm ?_
                refine vi_goto (tgt := 131) C dX5_carryOut_116 (by decide) ?_
                exact vi_donev (W := wS q cI cF) RET h dX5_carryOut_131
              · replace h := ob_f h hc19
                by_cases hc21 : vsw.getD (Int32.toNatClampNeg (nI x1)) 0 = 8
                · have h := ob_t h hc21
                  refine vi_tswIn (off := 111) (tgt := 119) C dX5_carryOut_8 (by rw [hc21]; decide) (by rw [hc21]; decide) (by rw [hc21]; rfl) (by decide) ?_
                  refine vi_aload_n C 0 dX5_carryOut_119 rfl ?_
                  refine vi_iload_n C 3 dX5_carryOut_120 rfl ?_
                  obtain ⟨u20, eu20, h⟩ := ob_nm h
                  refine pS_X5_0_5 C dX5_carryOut_121 eu20.symm ?_
                  refine vi_goto (tgt := 131) C dX5_carryOut_124 (by decide) ?_
                  exact vi_donev (W := wS q cI cF) RET h dX5_carryOut_131
                · replace h := ob_f h hc21
                  refine vi_tswOut (tgt := 127) C dX5_carryOut_8 (by have thc4 := lv_neT hc4 (a := 1) (by decide); have thc6 := lv_neT hc6 (a := 2) (by decide); have thc8 := lv_neT hc8 (a := 3) (by decide); have thc11 := lv_neT hc11 (a := 4) (by decide); have thc13 := lv_neT hc13 (a := 5) (by decide); have thc16 := lv_neT hc16 (a := 6) (by decide); have thc19 := lv_neT hc19 (a := 7) (by decide); have thc21 := lv_neT hc21 (a := 8) (by decide); omega) (by decide) ?_
                  refine vi_aload_n C 0 dX5_carryOut_127 rfl ?_
                  obtain ⟨u22, hgu22, h⟩ := ob_bd h
                  refine cS_X5_v (As := []) (rest := []) C (mX5_passHour C.2.2.2.2.2.2.2.2.1 hgu22) 0 rfl tcX5_passHour tlX5_113 tiX5_passHour tsX5_passHour rfl tnX5 tdX5_passHour ⟨Nat.le_of_ble_eq_true rfl, Nat.le_of_ble_eq_true rfl⟩ rfl (Nat.le_of_ble_eq_true rfl) dX5_carryOut_128 ?_
                  exact vi_donev (W := wS q cI cF) RET h dX5_carryOut_131
theorem mX5_carryOut {ad adK adV : Nat → Nat} {tS tF : Nat} {tX sK sV : Nat → Nat} (hE : vEok (vE ad adK adV tS tF tX sK sV)) {l : Launch} {D : va_G} {cI cF cC cS cO cB cZ : ClassId} {q : Nat → Nat} {u0 : vH}  {x1 : Nat} {x2 : Int32} {x3 : Int32} {u : vH} (h : fX5_carryOut x1 x2 x3 u = some u0) : vM (vE ad adK adV tS tF tX sK sV) l yX5_carryOut cX5_carryOut 4 none 5 114 D (vT7 cI cF cC cS cO cB cZ) [.ref (q 0), .ref (ad x1), .int x2, .int x3] (wS q cI cF u) (vQv D (wS q cI cF u0)) :=
  vM_of hE (by decide +kernel) (Nat.le_of_ble_eq_true rfl) (fun p e s m args below meth c A C hr => kX5_carryOut_e C (vi_retv C hr) h)
