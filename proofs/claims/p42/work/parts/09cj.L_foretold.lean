def hf_L_foretold_258 (x1 : Int32) (x2 : Int32) (x3 : Int32) (u : vZ) : Option (Int32 × Int32 × vZ) := obp (fX7_restore u) fun y2 u1 => (if y2 = x1 then (if x2 = 0 then some ((0 : Int32), x3, u1) else some ((1 : Int32), x3, u1)) else some ((0 : Int32), x3, u1))
set_option maxRecDepth 100000 in
set_option maxHeartbeats 4000000 in
theorem hk_L_foretold_258 {ad adK adV : Nat → Nat} {tS tF : Nat} {tX sK sV : Nat → Nat} {p : Program} {l : Launch} {e : Env} {s : State} {m : MethodId} {args : Array Value} {below : List Frame} {meth : Method} {c : Code} {A : Nat → Prop} {D : va_G} {cI cF cC cS cO cB cZ : ClassId} {Q : State → Prop} {q0 qs qo qt qv qr qx ql : Nat → Nat} {qh : Nat → Nat → Nat} {a0 : Nat} (C : vC (vE ad adK adV tS tF tX sK sV) p l s m args meth c A D (vT7 cI cF cC cS cO cB cZ) cL_foretold 12 RL) {r0 : Int32} {r_o1 : Int32} {u0 : vZ} (RET : ∀ (q : Nat → Nat) (kc ks : Nat) (pc : Nat) (lv : List (Nat × Value)), True → decode cL_foretold pc = .ok (.ireturn, 1) → (r0 = 0 ∨ r0 = 1) → vV p l e { frames := 8, cells := 0, slots := 0, locals := 180 } s m args below meth c A D 12 0 0 Q ([(a0, .inr (8, [.int r_o1]))] ++ wX q0 qs qo qt qv qr qx ql ad qh cI cF cC cS cO u0) pc lv [.int r0]) : ∀ (x1 : Int32) (x2 : Int32) (x3 : Int32) (u : vZ), True → hf_L_foretold_258 x1 x2 x3 u = some (r0, r_o1, u0) → vV p l e { frames := 8, cells := 0, slots := 0, locals := 180 } s m args below meth c A D 12 0 0 Q ([(a0, .inr (8, [.int x3]))] ++ wX q0 qs qo qt qv qr qx ql ad qh cI cF cC cS cO u) 258 [(0, .ref (q0 0)), (2, .int x1), (3, .int x2)] [] := by
  intro x1 x2 x3 u hkc h
  rw [hf_L_foretold_258] at h
  refine vi_aload_n C 0 dL_foretold_258 rfl ?_
  obtain ⟨y2, u1, hgu1, h⟩ := ob_p h
  refine cY_i (As := []) (rest := []) (ud := u1) C 1 (mX7_restore C.2.2.2.2.2.2.2.2.1 hgu1) 0 rfl tcX7_restore tlL_220 tiX7_restore tsX7_restore rfl tnX7 tdX7_restore ⟨Nat.le_of_ble_eq_true rfl, Nat.le_of_ble_eq_true rfl⟩ ⟨Nat.le_refl 0, Nat.le_refl 0⟩ rfl rfl (Nat.le_of_ble_eq_true rfl) dL_foretold_259 ?_
  refine vi_iload_n C 1 dL_foretold_262 rfl ?_
  refine vi_icmp_ne (tgt := 274) C dL_foretold_263 (by decide) (fun hc3 => ?_) (fun hc3 => ?_)
  · have h := ob_f h hc3
    refine vi_iconst (v := 0) C dL_foretold_274 (by decide) ?_
    cases h
    exact RET (fun j => [].getD j 0) 0 0 _ _ hkc dL_foretold_275 (by decide)
  · have h := ob_t h hc3
    refine vi_iload_n C 2 dL_foretold_266 rfl ?_
    refine vi_if_eq (tgt := 274) C dL_foretold_267 (by decide) (fun hc4 => ?_) (fun hc4 => ?_)
    · have h := ob_t h hc4
      refine vi_iconst (v := 0) C dL_foretold_274 (by decide) ?_
      cases h
      exact RET (fun j => [].getD j 0) 0 0 _ _ hkc dL_foretold_275 (by decide)
    · have h := ob_f h hc4
      refine vi_iconst (v := 1) C dL_foretold_270 (by decide) ?_
      refine vi_goto (tgt := 275) C dL_foretold_271 (by decide) ?_
      cases h
      exact RET (fun j => [].getD j 0) 0 0 _ _ hkc dL_foretold_275 (by decide)
def hf_L_foretold_236 (x1 : Int32) (x2 : Int32) (x3 : Int32) (x4 : Int32) (x5 : Int32) (x6 : Int32) (x7 : Int32) (u : vZ) : Option (Int32 × Int32 × vZ) := bd ((x6 &&& x5 : Int32)) fun y1 => (if x4 = x2 then (if 0 < x3 then bd ((y1 &&& (0 : Int32) : Int32)) fun y5 => hf_L_foretold_258 x1 y5 x7 u else bd ((y1 &&& (1 : Int32) : Int32)) fun y6 => hf_L_foretold_258 x1 y6 x7 u) else bd ((y1 &&& (1 : Int32) : Int32)) fun y3 => hf_L_foretold_258 x1 y3 x7 u)
set_option maxRecDepth 100000 in
set_option maxHeartbeats 4000000 in
theorem hk_L_foretold_236 {ad adK adV : Nat → Nat} {tS tF : Nat} {tX sK sV : Nat → Nat} {p : Program} {l : Launch} {e : Env} {s : State} {m : MethodId} {args : Array Value} {below : List Frame} {meth : Method} {c : Code} {A : Nat → Prop} {D : va_G} {cI cF cC cS cO cB cZ : ClassId} {Q : State → Prop} {q0 qs qo qt qv qr qx ql : Nat → Nat} {qh : Nat → Nat → Nat} {a0 : Nat} (C : vC (vE ad adK adV tS tF tX sK sV) p l s m args meth c A D (vT7 cI cF cC cS cO cB cZ) cL_foretold 12 RL) {r0 : Int32} {r_o1 : Int32} {u0 : vZ} (RET : ∀ (q : Nat → Nat) (kc ks : Nat) (pc : Nat) (lv : List (Nat × Value)), True → decode cL_foretold pc = .ok (.ireturn, 1) → (r0 = 0 ∨ r0 = 1) → vV p l e { frames := 8, cells := 0, slots := 0, locals := 180 } s m args below meth c A D 12 0 0 Q ([(a0, .inr (8, [.int r_o1]))] ++ wX q0 qs qo qt qv qr qx ql ad qh cI cF cC cS cO u0) pc lv [.int r0]) : ∀ (x1 : Int32) (x2 : Int32) (x3 : Int32) (x4 : Int32) (x5 : Int32) (x6 : Int32) (x7 : Int32) (u : vZ), True → hf_L_foretold_236 x1 x2 x3 x4 x5 x6 x7 u = some (r0, r_o1, u0) → vV p l e { frames := 8, cells := 0, slots := 0, locals := 180 } s m args below meth c A D 12 0 0 Q ([(a0, .inr (8, [.int x7]))] ++ wX q0 qs qo qt qv qr qx ql ad qh cI cF cC cS cO u) 236 [(0, .ref (q0 0)), (2, .int x1), (5, .int x2), (6, .int x3), (7, .int x4)] [.int x5, .int x6] := by
  intro x1 x2 x3 x4 x5 x6 x7 u hkc h
  rw [hf_L_foretold_236] at h
  refine vi_iand C dL_foretold_236 ?_
  obtain ⟨y1, ey1, h⟩ := ob_nm h
  refine vi_nmi ey1 ?_
  refine vi_istore_n (lv' := [(3, .int y1), (0, .ref (q0 0)), (2, .int x1), (5, .int x2), (6, .int x3), (7, .int x4)]) C dL_foretold_237 rfl (by decide) rfl ?_
  refine vi_iload_n C 0 dL_foretold_238 rfl ?_
  refine vi_iload C 5 dL_foretold_239 rfl ?_
  refine vi_iload C 3 dL_foretold_241 rfl ?_
  refine vi_icmp_ne (tgt := 251) C dL_foretold_243 (by decide) (fun hc2 => ?_) (fun hc2 => ?_)
  · have h := ob_f h hc2
    refine vi_iconst (v := 1) C dL_foretold_251 (by decide) ?_
    refine vi_goto (tgt := 256) C dL_foretold_252 (by decide) ?_
    refine vi_iand C dL_foretold_256 ?_
    obtain ⟨y3, ey3, h⟩ := ob_nm h
    refine vi_nmi ey3 ?_
    refine vi_istore_n (lv' := [(3, .int y3), (0, .ref (q0 0)), (2, .int x1), (5, .int x2), (6, .int x3), (7, .int x4)]) C dL_foretold_257 rfl (by decide) rfl ?_
    refine vi_sub C [1, 2, 0] rfl ?_
    exact hk_L_foretold_258 C RET   _ _ _ _ hkc h
  · have h := ob_t h hc2
    refine vi_iload C 4 dL_foretold_246 rfl ?_
    refine vi_if_gt (tgt := 255) C dL_foretold_248 (by decide) (fun hc4 => ?_) (fun hc4 => ?_)
    · have h := ob_t h hc4
      refine vi_iconst (v := 0) C dL_foretold_255 (by decide) ?_
      refine vi_iand C dL_foretold_256 ?_
      obtain ⟨y5, ey5, h⟩ := ob_nm h
      refine vi_nmi ey5 ?_
      refine vi_istore_n (lv' := [(3, .int y5), (0, .ref (q0 0)), (2, .int x1), (5, .int x2), (6, .int x3), (7, .int x4)]) C dL_foretold_257 rfl (by decide) rfl ?_
      refine vi_sub C [1, 2, 0] rfl ?_
      exact hk_L_foretold_258 C RET   _ _ _ _ hkc h
    · have h := ob_f h hc4
      refine vi_iconst (v := 1) C dL_foretold_251 (by decide) ?_
      refine vi_goto (tgt := 256) C dL_foretold_252 (by decide) ?_
      refine vi_iand C dL_foretold_256 ?_
      obtain ⟨y6, ey6, h⟩ := ob_nm h
      refine vi_nmi ey6 ?_
      refine vi_istore_n (lv' := [(3, .int y6), (0, .ref (q0 0)), (2, .int x1), (5, .int x2), (6, .int x3), (7, .int x4)]) C dL_foretold_257 rfl (by decide) rfl ?_
      refine vi_sub C [1, 2, 0] rfl ?_
      exact hk_L_foretold_258 C RET   _ _ _ _ hkc h
def hf_L_foretold_128 (rec_71 : Int32 → Int32 → Int32 → Int32 → Int32 → Int32 → Int32 → Int32 → Int32 → Int32 → Int32 → vZ → Option (Int32 × Int32 × vZ)) (x1 : Int32) (x2 : Int32) (x3 : Int32) (x4 : Int32) (x5 : Int32) (x6 : Int32) (x7 : Int32) (x8 : Int32) (x9 : Int32) (x10 : Int32) (x11 : Int32) (u : vZ) : Option (Int32 × Int32 × vZ) := bd ((x10 &&& x9 : Int32)) fun y1 => obp (fX7_hour u) fun y3 u2 => bd ((((x7 <<< ((1 : Int32) &&& 31)) ||| (x7 >>> ((15 : Int32) &&& 31))) &&& (65535 : Int32) : Int32)) fun y4 => bd ((x8 + 1 : Int32)) fun y5 => rec_71 x1 y1 x2 x3 x4 x5 y3 x6 y4 y5 x11 u2
set_option maxRecDepth 100000 in
set_option maxHeartbeats 4000000 in
theorem hk_L_foretold_128 {ad adK adV : Nat → Nat} {tS tF : Nat} {tX sK sV : Nat → Nat} {p : Program} {l : Launch} {e : Env} {s : State} {m : MethodId} {args : Array Value} {below : List Frame} {meth : Method} {c : Code} {A : Nat → Prop} {D : va_G} {cI cF cC cS cO cB cZ : ClassId} {Q : State → Prop} {q0 qs qo qt qv qr qx ql : Nat → Nat} {qh : Nat → Nat → Nat} {a0 : Nat} (C : vC (vE ad adK adV tS tF tX sK sV) p l s m args meth c A D (vT7 cI cF cC cS cO cB cZ) cL_foretold 12 RL) {r0 : Int32} {r_o1 : Int32} {u0 : vZ} (RET : ∀ (q : Nat → Nat) (kc ks : Nat) (pc : Nat) (lv : List (Nat × Value)), True → decode cL_foretold pc = .ok (.ireturn, 1) → (r0 = 0 ∨ r0 = 1) → vV p l e { frames := 8, cells := 0, slots := 0, locals := 180 } s m args below meth c A D 12 0 0 Q ([(a0, .inr (8, [.int r_o1]))] ++ wX q0 qs qo qt qv qr qx ql ad qh cI cF cC cS cO u0) pc lv [.int r0]) {rec_71 : Int32 → Int32 → Int32 → Int32 → Int32 → Int32 → Int32 → Int32 → Int32 → Int32 → Int32 → vZ → Option (Int32 × Int32 × vZ)} (REC_71 : ∀ (x1 : Int32) (x2 : Int32) (x3 : Int32) (x4 : Int32) (x5 : Int32) (x6 : Int32) (x7 : Int32) (x8 : Int32) (x9 : Int32) (x10 : Int32) (x11 : Int32) (u : vZ), True → rec_71 x1 x2 x3 x4 x5 x6 x7 x8 x9 x10 x11 u = some (r0, r_o1, u0) → vV p l e { frames := 8, cells := 0, slots := 0, locals := 180 } s m args below meth c A D 12 0 0 Q ([(a0, .inr (8, [.int x11]))] ++ wX q0 qs qo qt qv qr qx ql ad qh cI cF cC cS cO u) 71 [(0, .ref (q0 0)), (2, .int x1), (3, .int x2), (4, .int x3), (5, .int x4), (6, .int x5), (7, .int x6), (8, .int x7), (9, .int x8), (10, .int x9), (11, .int x10)] []) : ∀ (x1 : Int32) (x2 : Int32) (x3 : Int32) (x4 : Int32) (x5 : Int32) (x6 : Int32) (x7 : Int32) (x8 : Int32) (x9 : Int32) (x10 : Int32) (x11 : Int32) (u : vZ), True → hf_L_foretold_128 rec_71 x1 x2 x3 x4 x5 x6 x7 x8 x9 x10 x11 u = some (r0, r_o1, u0) → vV p l e { frames := 8, cells := 0, slots := 0, locals := 180 } s m args below meth c A D 12 0 0 Q ([(a0, .inr (8, [.int x11]))] ++ wX q0 qs qo qt qv qr qx ql ad qh cI cF cC cS cO u) 128 [(0, .ref (q0 0)), (2, .int x1), (4, .int x2), (5, .int x3), (6, .int x4), (7, .int x5), (9, .int x6), (10, .int x7), (11, .int x8)] [.int x9, .int x10] := by
  intro x1 x2 x3 x4 x5 x6 x7 x8 x9 x10 x11 u hkc h
  rw [hf_L_foretold_128] at h
  refine vi_iand C dL_foretold_128 ?_
  obtain ⟨y1, ey1, h⟩ := ob_nm h
  refine vi_nmi ey1 ?_
  refine vi_istore_n (lv' := [(3, .int y1), (0, .ref (q0 0)), (2, .int x1), (4, .int x2), (5, .int x3), (6, .int x4), (7, .int x5), (9, .int x6), (10, .int x7), (11, .int x8)]) C dL_foretold_129 rfl (by decide) rfl ?_
  refine vi_aload_n C 1 dL_foretold_130 rfl ?_
  obtain ⟨y3, u2, hgu2, h⟩ := ob_p h
  refine cY_i (As := []) (rest := []) (ud := u2) C 1 (mX7_hour C.2.2.2.2.2.2.2.2.1 hgu2) 0 rfl tcX7_hour tlL_74 tiX7_hour tsX7_hour rfl tnX7 tdX7_hour ⟨Nat.le_of_ble_eq_true rfl, Nat.le_of_ble_eq_true rfl⟩ ⟨Nat.le_refl 0, Nat.le_refl 0⟩ rfl rfl (Nat.le_of_ble_eq_true rfl) dL_foretold_131 ?_
  refine vi_istore (lv' := [(8, .int y3), (3, .int y1), (0, .ref (q0 0)), (2, .int x1), (4, .int x2), (5, .int x3), (6, .int x4), (7, .int x5), (9, .int x6), (10, .int x7), (11, .int x8)]) C dL_foretold_134 (by decide) rfl ?_
  refine vi_iload C 9 dL_foretold_136 rfl ?_
  refine vi_iconst (v := 1) C dL_foretold_138 (by decide) ?_
  refine vi_ishl C dL_foretold_139 ?_
  refine vi_iload C 9 dL_foretold_140 rfl ?_
  refine vi_bipush (v := 15) C dL_foretold_142 (by decide) ?_
  refine vi_ishr C dL_foretold_144 ?_
  refine vi_ior C dL_foretold_145 ?_
  refine vi_ldc (v := 65535) C dL_foretold_146 tkL_36 ?_
  refine vi_iand C dL_foretold_148 ?_
  obtain ⟨y4, ey4, h⟩ := ob_nm h
  refine vi_nmi ey4 ?_
  refine vi_istore (lv' := [(10, .int y4), (8, .int y3), (3, .int y1), (0, .ref (q0 0)), (2, .int x1), (4, .int x2), (5, .int x3), (6, .int x4), (7, .int x5), (9, .int x6), (11, .int x8)]) C dL_foretold_149 (by decide) rfl ?_
  obtain ⟨y5, ey5, h⟩ := ob_nm h
  refine vi_iinc (v := y5) (lv' := [(11, .int y5), (10, .int y4), (8, .int y3), (3, .int y1), (0, .ref (q0 0)), (2, .int x1), (4, .int x2), (5, .int x3), (6, .int x4), (7, .int x5), (9, .int x6)]) C 10 dL_foretold_151 rfl (by rw [ey5]; rfl) (by decide) rfl ?_
  refine vi_goto (tgt := 71) C dL_foretold_154 (by decide) ?_
  refine vi_sub C [4, 5, 3, 6, 7, 8, 9, 2, 10, 1, 0] rfl ?_
  exact REC_71 _ _ _ _ _ _ _ _ _ _ _ _ hkc h
def hf_L_foretold_113 (rec_71 : Int32 → Int32 → Int32 → Int32 → Int32 → Int32 → Int32 → Int32 → Int32 → Int32 → Int32 → vZ → Option (Int32 × Int32 × vZ)) (x1 : Int32) (x2 : Int32) (x3 : Int32) (x4 : Int32) (x5 : Int32) (x6 : Int32) (x7 : Int32) (x8 : Int32) (x9 : Int32) (x10 : Int32) (x11 : Int32) (x12 : Int32) (u : vZ) : Option (Int32 × Int32 × vZ) := (if x10 = x9 then hf_L_foretold_128 rec_71 x1 x2 x3 x4 x5 x6 x7 x8 (1 : Int32) x11 x12 u else (if x8 ≤ x5 then hf_L_foretold_128 rec_71 x1 x2 x3 x4 x5 x6 x7 x8 (0 : Int32) x11 x12 u else hf_L_foretold_128 rec_71 x1 x2 x3 x4 x5 x6 x7 x8 (1 : Int32) x11 x12 u))
set_option maxRecDepth 100000 in
set_option maxHeartbeats 4000000 in
theorem hk_L_foretold_113 {ad adK adV : Nat → Nat} {tS tF : Nat} {tX sK sV : Nat → Nat} {p : Program} {l : Launch} {e : Env} {s : State} {m : MethodId} {args : Array Value} {below : List Frame} {meth : Method} {c : Code} {A : Nat → Prop} {D : va_G} {cI cF cC cS cO cB cZ : ClassId} {Q : State → Prop} {q0 qs qo qt qv qr qx ql : Nat → Nat} {qh : Nat → Nat → Nat} {a0 : Nat} (C : vC (vE ad adK adV tS tF tX sK sV) p l s m args meth c A D (vT7 cI cF cC cS cO cB cZ) cL_foretold 12 RL) {r0 : Int32} {r_o1 : Int32} {u0 : vZ} (RET : ∀ (q : Nat → Nat) (kc ks : Nat) (pc : Nat) (lv : List (Nat × Value)), True → decode cL_foretold pc = .ok (.ireturn, 1) → (r0 = 0 ∨ r0 = 1) → vV p l e { frames := 8, cells := 0, slots := 0, locals := 180 } s m args below meth c A D 12 0 0 Q ([(a0, .inr (8, [.int r_o1]))] ++ wX q0 qs qo qt qv qr qx ql ad qh cI cF cC cS cO u0) pc lv [.int r0]) {rec_71 : Int32 → Int32 → Int32 → Int32 → Int32 → Int32 → Int32 → Int32 → Int32 → Int32 → Int32 → vZ → Option (Int32 × Int32 × vZ)} (REC_71 : ∀ (x1 : Int32) (x2 : Int32) (x3 : Int32) (x4 : Int32) (x5 : Int32) (x6 : Int32) (x7 : Int32) (x8 : Int32) (x9 : Int32) (x10 : Int32) (x11 : Int32) (u : vZ), True → rec_71 x1 x2 x3 x4 x5 x6 x7 x8 x9 x10 x11 u = some (r0, r_o1, u0) → vV p l e { frames := 8, cells := 0, slots := 0, locals := 180 } s m args below meth c A D 12 0 0 Q ([(a0, .inr (8, [.int x11]))] ++ wX q0 qs qo qt qv qr qx ql ad qh cI cF cC cS cO u) 71 [(0, .ref (q0 0)), (2, .int x1), (3, .int x2), (4, .int x3), (5, .int x4), (6, .int x5), (7, .int x6), (8, .int x7), (9, .int x8), (10, .int x9), (11, .int x10)] []) : ∀ (x1 : Int32) (x2 : Int32) (x3 : Int32) (x4 : Int32) (x5 : Int32) (x6 : Int32) (x7 : Int32) (x8 : Int32) (x9 : Int32) (x10 : Int32) (x11 : Int32) (x12 : Int32) (u : vZ), True → hf_L_foretold_113 rec_71 x1 x2 x3 x4 x5 x6 x7 x8 x9 x10 x11 x12 u = some (r0, r_o1, u0) → vV p l e { frames := 8, cells := 0, slots := 0, locals := 180 } s m args below meth c A D 12 0 0 Q ([(a0, .inr (8, [.int x12]))] ++ wX q0 qs qo qt qv qr qx ql ad qh cI cF cC cS cO u) 113 [(0, .ref (q0 0)), (2, .int x1), (4, .int x2), (5, .int x3), (6, .int x4), (7, .int x5), (9, .int x6), (10, .int x7), (11, .int x8)] [.int x9, .int x10, .int x11] := by
  intro x1 x2 x3 x4 x5 x6 x7 x8 x9 x10 x11 x12 u hkc h
  rw [hf_L_foretold_113] at h
  refine vi_icmp_eq (tgt := 123) C dL_foretold_113 (by decide) (fun hc1 => ?_) (fun hc1 => ?_)
  · have h := ob_t h hc1
    refine vi_iconst (v := 1) C dL_foretold_123 (by decide) ?_
    refine vi_goto (tgt := 128) C dL_foretold_124 (by decide) ?_
    refine vi_sub C [0, 1, 2, 3, 4, 5, 6, 7, 8] rfl ?_
    exact hk_L_foretold_128 C RET REC_71  _ _ _ _ _ _ _ _ _ _ _ _ hkc h
  · have h := ob_f h hc1
    refine vi_iload C 8 dL_foretold_116 rfl ?_
    refine vi_iload C 5 dL_foretold_118 rfl ?_
    refine vi_icmp_le (tgt := 127) C dL_foretold_120 (by decide) (fun hc2 => ?_) (fun hc2 => ?_)
    · have h := ob_t h hc2
      refine vi_iconst (v := 0) C dL_foretold_127 (by decide) ?_
      refine vi_sub C [0, 1, 2, 3, 4, 5, 6, 7, 8] rfl ?_
      exact hk_L_foretold_128 C RET REC_71  _ _ _ _ _ _ _ _ _ _ _ _ hkc h
    · have h := ob_f h hc2
      refine vi_iconst (v := 1) C dL_foretold_123 (by decide) ?_
      refine vi_goto (tgt := 128) C dL_foretold_124 (by decide) ?_
      refine vi_sub C [0, 1, 2, 3, 4, 5, 6, 7, 8] rfl ?_
      exact hk_L_foretold_128 C RET REC_71  _ _ _ _ _ _ _ _ _ _ _ _ hkc h
def hf_L_foretold_98 (rec_71 : Int32 → Int32 → Int32 → Int32 → Int32 → Int32 → Int32 → Int32 → Int32 → Int32 → Int32 → vZ → Option (Int32 × Int32 × vZ)) (x1 : Int32) (x2 : Int32) (x3 : Int32) (x4 : Int32) (x5 : Int32) (x6 : Int32) (x7 : Int32) (x8 : Int32) (x9 : Int32) (x10 : Int32) (x11 : Int32) (u : vZ) : Option (Int32 × Int32 × vZ) := obp (fX7_sailorOf x2 (5 : Int32) u) fun y2 u1 => (if y2 ≤ 0 then hf_L_foretold_113 rec_71 x1 x2 x3 x4 x5 x6 x7 x8 (0 : Int32) x9 x10 x11 u1 else hf_L_foretold_113 rec_71 x1 x2 x3 x4 x5 x6 x7 x8 (1 : Int32) x9 x10 x11 u1)
set_option maxRecDepth 100000 in
set_option maxHeartbeats 4000000 in
theorem hk_L_foretold_98 {ad adK adV : Nat → Nat} {tS tF : Nat} {tX sK sV : Nat → Nat} {p : Program} {l : Launch} {e : Env} {s : State} {m : MethodId} {args : Array Value} {below : List Frame} {meth : Method} {c : Code} {A : Nat → Prop} {D : va_G} {cI cF cC cS cO cB cZ : ClassId} {Q : State → Prop} {q0 qs qo qt qv qr qx ql : Nat → Nat} {qh : Nat → Nat → Nat} {a0 : Nat} (C : vC (vE ad adK adV tS tF tX sK sV) p l s m args meth c A D (vT7 cI cF cC cS cO cB cZ) cL_foretold 12 RL) {r0 : Int32} {r_o1 : Int32} {u0 : vZ} (RET : ∀ (q : Nat → Nat) (kc ks : Nat) (pc : Nat) (lv : List (Nat × Value)), True → decode cL_foretold pc = .ok (.ireturn, 1) → (r0 = 0 ∨ r0 = 1) → vV p l e { frames := 8, cells := 0, slots := 0, locals := 180 } s m args below meth c A D 12 0 0 Q ([(a0, .inr (8, [.int r_o1]))] ++ wX q0 qs qo qt qv qr qx ql ad qh cI cF cC cS cO u0) pc lv [.int r0]) {rec_71 : Int32 → Int32 → Int32 → Int32 → Int32 → Int32 → Int32 → Int32 → Int32 → Int32 → Int32 → vZ → Option (Int32 × Int32 × vZ)} (REC_71 : ∀ (x1 : Int32) (x2 : Int32) (x3 : Int32) (x4 : Int32) (x5 : Int32) (x6 : Int32) (x7 : Int32) (x8 : Int32) (x9 : Int32) (x10 : Int32) (x11 : Int32) (u : vZ), True → rec_71 x1 x2 x3 x4 x5 x6 x7 x8 x9 x10 x11 u = some (r0, r_o1, u0) → vV p l e { frames := 8, cells := 0, slots := 0, locals := 180 } s m args below meth c A D 12 0 0 Q ([(a0, .inr (8, [.int x11]))] ++ wX q0 qs qo qt qv qr qx ql ad qh cI cF cC cS cO u) 71 [(0, .ref (q0 0)), (2, .int x1), (3, .int x2), (4, .int x3), (5, .int x4), (6, .int x5), (7, .int x6), (8, .int x7), (9, .int x8), (10, .int x9), (11, .int x10)] []) : ∀ (x1 : Int32) (x2 : Int32) (x3 : Int32) (x4 : Int32) (x5 : Int32) (x6 : Int32) (x7 : Int32) (x8 : Int32) (x9 : Int32) (x10 : Int32) (x11 : Int32) (u : vZ), True → hf_L_foretold_98 rec_71 x1 x2 x3 x4 x5 x6 x7 x8 x9 x10 x11 u = some (r0, r_o1, u0) → vV p l e { frames := 8, cells := 0, slots := 0, locals := 180 } s m args below meth c A D 12 0 0 Q ([(a0, .inr (8, [.int x11]))] ++ wX q0 qs qo qt qv qr qx ql ad qh cI cF cC cS cO u) 98 [(0, .ref (q0 0)), (2, .int x1), (4, .int x2), (5, .int x3), (6, .int x4), (7, .int x5), (9, .int x6), (10, .int x7), (11, .int x8)] [.int x9, .int x10] := by
  intro x1 x2 x3 x4 x5 x6 x7 x8 x9 x10 x11 u hkc h
  rw [hf_L_foretold_98] at h
  refine vi_aload_n C 0 dL_foretold_98 rfl ?_
  refine vi_iload C 2 dL_foretold_99 rfl ?_
  refine vi_iconst (v := 5) C dL_foretold_101 (by decide) ?_
  obtain ⟨y2, u1, hgu1, h⟩ := ob_p h
  refine cY_i (As := [.int x2, .int (5 : Int32)]) (rest := [.int x9, .int x10]) (ud := u1) C 1 (mX7_sailorOf C.2.2.2.2.2.2.2.2.1 hgu1) 2 rfl tcX7_sailorOf tlL_110 tiX7_sailorOf tsX7_sailorOf rfl tnX7 tdX7_sailorOf ⟨Nat.le_of_ble_eq_true rfl, Nat.le_of_ble_eq_true rfl⟩ ⟨Nat.le_refl 0, Nat.le_refl 0⟩ rfl rfl (Nat.le_of_ble_eq_true rfl) dL_foretold_102 ?_
  refine vi_if_le (tgt := 112) C dL_foretold_105 (by decide) (fun hc3 => ?_) (fun hc3 => ?_)
  · have h := ob_t h hc3
    refine vi_iconst (v := 0) C dL_foretold_112 (by decide) ?_
    refine vi_sub C [0, 1, 2, 3, 4, 5, 6, 7, 8] rfl ?_
    exact hk_L_foretold_113 C RET REC_71  _ _ _ _ _ _ _ _ _ _ _ _ _ hkc h
  · have h := ob_f h hc3
    refine vi_iconst (v := 1) C dL_foretold_108 (by decide) ?_
    refine vi_goto (tgt := 113) C dL_foretold_109 (by decide) ?_
    refine vi_sub C [0, 1, 2, 3, 4, 5, 6, 7, 8] rfl ?_
    exact hk_L_foretold_113 C RET REC_71  _ _ _ _ _ _ _ _ _ _ _ _ _ hkc h
def hf_L_foretold_71 : Nat → Int32 → Int32 → Int32 → Int32 → Int32 → Int32 → Int32 → Int32 → Int32 → Int32 → Int32 → vZ → Option (Int32 × Int32 × vZ)
  | 0, _, _, _, _, _, _, _, _, _, _, _, _ => none
  | n + 1, x1, x2, x3, x4, x5, x6, x7, x8, x9, x10, x11, u => (if x4 ≤ x10 then obp (fX7_sailorOf x3 (5 : Int32) u) fun y3 u2 => (if y3 = x5 then obp (fX7_sailorOf x3 (0 : Int32) u2) fun y6 u5 => (if y6 = x9 then obp (fX7_account (5 : Int32) u5) fun y9 u8 => (if y9 = x7 then obp (fX7_account (5 : Int32) u8) fun y12 u11 => obp (fX7_account (7 : Int32) u11) fun y14 u13 => obp (fX7_account (8 : Int32) u13) fun y16 u15 => obp (fX7_account (6 : Int32) u15) fun y18 u17 => (if (y12 + y14) + y16 = y18 then obp (fX7_account (7 : Int32) u17) fun y21 u20 => (if y21 < x8 then hf_L_foretold_236 x1 x4 x5 x6 (0 : Int32) x2 x11 u20 else hf_L_foretold_236 x1 x4 x5 x6 (1 : Int32) x2 x11 u20) else hf_L_foretold_236 x1 x4 x5 x6 (0 : Int32) x2 x11 u17) else hf_L_foretold_236 x1 x4 x5 x6 (0 : Int32) x2 x11 u8) else hf_L_foretold_236 x1 x4 x5 x6 (0 : Int32) x2 x11 u5) else hf_L_foretold_236 x1 x4 x5 x6 (0 : Int32) x2 x11 u2) else (if x6 = (-100006 : Int32) then hf_L_foretold_98 (fun c0 c1 c2 c3 c4 c5 c6 c7 c8 c9 c10 c11 => hf_L_foretold_71 n  c0 c1 c2 c3 c4 c5 c6 c7 c8 c9 c10 c11) x1 x3 x4 x5 x6 x8 x9 x10 (1 : Int32) x2 x11 u else (if x6 ≤ x10 then hf_L_foretold_98 (fun c0 c1 c2 c3 c4 c5 c6 c7 c8 c9 c10 c11 => hf_L_foretold_71 n  c0 c1 c2 c3 c4 c5 c6 c7 c8 c9 c10 c11) x1 x3 x4 x5 x6 x8 x9 x10 (0 : Int32) x2 x11 u else hf_L_foretold_98 (fun c0 c1 c2 c3 c4 c5 c6 c7 c8 c9 c10 c11 => hf_L_foretold_71 n  c0 c1 c2 c3 c4 c5 c6 c7 c8 c9 c10 c11) x1 x3 x4 x5 x6 x8 x9 x10 (1 : Int32) x2 x11 u)))
set_option maxRecDepth 100000 in
set_option maxHeartbeats 4000000 in
theorem hk_L_foretold_71 {ad adK adV : Nat → Nat} {tS tF : Nat} {tX sK sV : Nat → Nat} {p : Program} {l : Launch} {e : Env} {s : State} {m : MethodId} {args : Array Value} {below : List Frame} {meth : Method} {c : Code} {A : Nat → Prop} {D : va_G} {cI cF cC cS cO cB cZ : ClassId} {Q : State → Prop} {q0 qs qo qt qv qr qx ql : Nat → Nat} {qh : Nat → Nat → Nat} {a0 : Nat} (C : vC (vE ad adK adV tS tF tX sK sV) p l s m args meth c A D (vT7 cI cF cC cS cO cB cZ) cL_foretold 12 RL) {r0 : Int32} {r_o1 : Int32} {u0 : vZ} (RET : ∀ (q : Nat → Nat) (kc ks : Nat) (pc : Nat) (lv : List (Nat × Value)), True → decode cL_foretold pc = .ok (.ireturn, 1) → (r0 = 0 ∨ r0 = 1) → vV p l e { frames := 8, cells := 0, slots := 0, locals := 180 } s m args below meth c A D 12 0 0 Q ([(a0, .inr (8, [.int r_o1]))] ++ wX q0 qs qo qt qv qr qx ql ad qh cI cF cC cS cO u0) pc lv [.int r0]) : ∀ (n : Nat) (x1 : Int32) (x2 : Int32) (x3 : Int32) (x4 : Int32) (x5 : Int32) (x6 : Int32) (x7 : Int32) (x8 : Int32) (x9 : Int32) (x10 : Int32) (x11 : Int32) (u : vZ), True → hf_L_foretold_71 n x1 x2 x3 x4 x5 x6 x7 x8 x9 x10 x11 u = some (r0, r_o1, u0) → vV p l e { frames := 8, cells := 0, slots := 0, locals := 180 } s m args below meth c A D 12 0 0 Q ([(a0, .inr (8, [.int x11]))] ++ wX q0 qs qo qt qv qr qx ql ad qh cI cF cC cS cO u) 71 [(0, .ref (q0 0)), (2, .int x1), (3, .int x2), (4, .int x3), (5, .int x4), (6, .int x5), (7, .int x6), (8, .int x7), (9, .int x8), (10, .int x9), (11, .int x10)] [] := by
  intro n
  induction n with
  | zero => intro x1 x2 x3 x4 x5 x6 x7 x8 x9 x10 x11 u hkc h; rw [hf_L_foretold_71] at h; cases h
  | succ n ih =>
    intro x1 x2 x3 x4 x5 x6 x7 x8 x9 x10 x11 u hkc h
    rw [hf_L_foretold_71] at h
    refine vi_iload C 10 dL_foretold_71 rfl ?_
    refine vi_iload C 4 dL_foretold_73 rfl ?_
    refine vi_icmp_ge (tgt := 157) C dL_foretold_75 (by decide) (fun hc1 => ?_) (fun hc1 => ?_)
    · have h := ob_t h hc1
      refine vi_iload_n C 2 dL_foretold_157 rfl ?_
      refine vi_aload_n C 0 dL_foretold_158 rfl ?_
      refine vi_iload C 3 dL_foretold_159 rfl ?_
      refine vi_iconst (v := 5) C dL_foretold_161 (by decide) ?_
      obtain ⟨y3, u2, hgu2, h⟩ := ob_p h
      refine cY_i (As := [.int x3, .int (5 : Int32)]) (rest := [.int x2]) (ud := u2) C 1 (mX7_sailorOf C.2.2.2.2.2.2.2.2.1 hgu2) 2 rfl tcX7_sailorOf tlL_110 tiX7_sailorOf tsX7_sailorOf rfl tnX7 tdX7_sailorOf ⟨Nat.le_of_ble_eq_true rfl, Nat.le_of_ble_eq_true rfl⟩ ⟨Nat.le_refl 0, Nat.le_refl 0⟩ rfl rfl (Nat.le_of_ble_eq_true rfl) dL_foretold_162 ?_
      refine vi_iload C 5 dL_foretold_165 rfl ?_
      refine vi_icmp_ne (tgt := 235) C dL_foretold_167 (by decide) (fun hc4 => ?_) (fun hc4 => ?_)
      · have h := ob_f h hc4
        refine vi_iconst (v := 0) C dL_foretold_235 (by decide) ?_
        refine vi_sub C [0, 1, 4, 5, 6] rfl ?_
        exact hk_L_foretold_236 C RET   _ _ _ _ _ _ _ _ hkc h
      · have h := ob_t h hc4
        refine vi_aload_n C 0 dL_foretold_170 rfl ?_
        refine vi_iload C 3 dL_foretold_171 rfl ?_
        refine vi_iconst (v := 0) C dL_foretold_173 (by decide) ?_
        obtain ⟨y6, u5, hgu5, h⟩ := ob_p h
        refine cY_i (As := [.int x3, .int (0 : Int32)]) (rest := [.int x2]) (ud := u5) C 1 (mX7_sailorOf C.2.2.2.2.2.2.2.2.1 hgu5) 2 rfl tcX7_sailorOf tlL_110 tiX7_sailorOf tsX7_sailorOf rfl tnX7 tdX7_sailorOf ⟨Nat.le_of_ble_eq_true rfl, Nat.le_of_ble_eq_true rfl⟩ ⟨Nat.le_refl 0, Nat.le_refl 0⟩ rfl rfl (Nat.le_of_ble_eq_true rfl) dL_foretold_174 ?_
        refine vi_iload C 9 dL_foretold_177 rfl ?_
        refine vi_icmp_ne (tgt := 235) C dL_foretold_179 (by decide) (fun hc7 => ?_) (fun hc7 => ?_)
        · have h := ob_f h hc7
          refine vi_iconst (v := 0) C dL_foretold_235 (by decide) ?_
          refine vi_sub C [0, 1, 4, 5, 6] rfl ?_
          exact hk_L_foretold_236 C RET   _ _ _ _ _ _ _ _ hkc h
        · have h := ob_t h hc7
          refine vi_aload_n C 0 dL_foretold_182 rfl ?_
          refine vi_iconst (v := 5) C dL_foretold_183 (by decide) ?_
          obtain ⟨y9, u8, hgu8, h⟩ := ob_p h
          refine cY_i (As := [.int (5 : Int32)]) (rest := [.int x2]) (ud := u8) C 1 (mX7_account C.2.2.2.2.2.2.2.2.1 hgu8) 1 rfl tcX7_account tlL_37 tiX7_account tsX7_account rfl tnX7 tdX7_account ⟨Nat.le_of_ble_eq_true rfl, Nat.le_of_ble_eq_true rfl⟩ ⟨Nat.le_refl 0, Nat.le_refl 0⟩ rfl rfl (Nat.le_of_ble_eq_true rfl) dL_foretold_184 ?_
          refine vi_iload C 7 dL_foretold_187 rfl ?_
          refine vi_icmp_ne (tgt := 235) C dL_foretold_189 (by decide) (fun hc10 => ?_) (fun hc10 => ?_)
          · have h := ob_f h hc10
            refine vi_iconst (v := 0) C dL_foretold_235 (by decide) ?_
            refine vi_sub C [0, 1, 4, 5, 6] rfl ?_
            exact hk_L_foretold_236 C RET   _ _ _ _ _ _ _ _ hkc h
          · have h := ob_t h hc10
            refine vi_aload_n C 0 dL_foretold_192 rfl ?_
            refine vi_iconst (v := 5) C dL_foretold_193 (by decide) ?_
            obtain ⟨y12, u11, hgu11, h⟩ := ob_p h
            refine cY_i (As := [.int (5 : Int32)]) (rest := [.int x2]) (ud := u11) C 1 (mX7_account C.2.2.2.2.2.2.2.2.1 hgu11) 1 rfl tcX7_account tlL_37 tiX7_account tsX7_account rfl tnX7 tdX7_account ⟨Nat.le_of_ble_eq_true rfl, Nat.le_of_ble_eq_true rfl⟩ ⟨Nat.le_refl 0, Nat.le_refl 0⟩ rfl rfl (Nat.le_of_ble_eq_true rfl) dL_foretold_194 ?_
            refine vi_aload_n C 0 dL_foretold_197 rfl ?_
            refine vi_bipush (v := 7) C dL_foretold_198 (by decide) ?_
            obtain ⟨y14, u13, hgu13, h⟩ := ob_p h
            refine cY_i (As := [.int (7 : Int32)]) (rest := [.int y12, .int x2]) (ud := u13) C 1 (mX7_account C.2.2.2.2.2.2.2.2.1 hgu13) 1 rfl tcX7_account tlL_37 tiX7_account tsX7_account rfl tnX7 tdX7_account ⟨Nat.le_of_ble_eq_true rfl, Nat.le_of_ble_eq_true rfl⟩ ⟨Nat.le_refl 0, Nat.le_refl 0⟩ rfl rfl (Nat.le_of_ble_eq_true rfl) dL_foretold_200 ?_
            refine vi_iadd C dL_foretold_203 ?_
            refine vi_aload_n C 0 dL_foretold_204 rfl ?_
            refine vi_bipush (v := 8) C dL_foretold_205 (by decide) ?_
            obtain ⟨y16, u15, hgu15, h⟩ := ob_p h
            refine cY_i (As := [.int (8 : Int32)]) (rest := [.int (y12 + y14), .int x2]) (ud := u15) C 1 (mX7_account C.2.2.2.2.2.2.2.2.1 hgu15) 1 rfl tcX7_account tlL_37 tiX7_account tsX7_account rfl tnX7 tdX7_account ⟨Nat.le_of_ble_eq_true rfl, Nat.le_of_ble_eq_true rfl⟩ ⟨Nat.le_refl 0, Nat.le_refl 0⟩ rfl rfl (Nat.le_of_ble_eq_true rfl) dL_foretold_207 ?_
            refine vi_iadd C dL_foretold_210 ?_
            refine vi_aload_n C 0 dL_foretold_211 rfl ?_
            refine vi_bipush (v := 6) C dL_foretold_212 (by decide) ?_
            obtain ⟨y18, u17, hgu17, h⟩ := ob_p h
            refine cY_i (As := [.int (6 : Int32)]) (rest := [.int ((y12 + y14) + y16), .int x2]) (ud := u17) C 1 (mX7_account C.2.2.2.2.2.2.2.2.1 hgu17) 1 rfl tcX7_account tlL_37 tiX7_account tsX7_account rfl tnX7 tdX7_account ⟨Nat.le_of_ble_eq_true rfl, Nat.le_of_ble_eq_true rfl⟩ ⟨Nat.le_refl 0, Nat.le_refl 0⟩ rfl rfl (Nat.le_of_ble_eq_true rfl) dL_foretold_214 ?_
            refine vi_icmp_ne (tgt := 235) C dL_foretold_217 (by decide) (fun hc19 => ?_) (fun hc19 => ?_)
            · have h := ob_f h hc19
              refine vi_iconst (v := 0) C dL_foretold_235 (by decide) ?_
              refine vi_sub C [0, 1, 4, 5, 6] rfl ?_
              exact hk_L_foretold_236 C RET   _ _ _ _ _ _ _ _ hkc h
            · have h := ob_t h hc19
              refine vi_aload_n C 0 dL_foretold_220 rfl ?_
              refine vi_bipush (v := 7) C dL_foretold_221 (by decide) ?_
              obtain ⟨y21, u20, hgu20, h⟩ := ob_p h
              refine cY_i (As := [.int (7 : Int32)]) (rest := [.int x2]) (ud := u20) C 1 (mX7_account C.2.2.2.2.2.2.2.2.1 hgu20) 1 rfl tcX7_account tlL_37 tiX7_account tsX7_account rfl tnX7 tdX7_account ⟨Nat.le_of_ble_eq_true rfl, Nat.le_of_ble_eq_true rfl⟩ ⟨Nat.le_refl 0, Nat.le_refl 0⟩ rfl rfl (Nat.le_of_ble_eq_true rfl) dL_foretold_223 ?_
              refine vi_iload C 8 dL_foretold_226 rfl ?_
              refine vi_icmp_lt (tgt := 235) C dL_foretold_228 (by decide) (fun hc22 => ?_) (fun hc22 => ?_)
              · have h := ob_t h hc22
                refine vi_iconst (v := 0) C dL_foretold_235 (by decide) ?_
                refine vi_sub C [0, 1, 4, 5, 6] rfl ?_
                exact hk_L_foretold_236 C RET   _ _ _ _ _ _ _ _ hkc h
              · have h := ob_f h hc22
                refine vi_iconst (v := 1) C dL_foretold_231 (by decide) ?_
                refine vi_goto (tgt := 236) C dL_foretold_232 (by decide) ?_
                refine vi_sub C [0, 1, 4, 5, 6] rfl ?_
                exact hk_L_foretold_236 C RET   _ _ _ _ _ _ _ _ hkc h
    · have h := ob_f h hc1
      refine vi_iload_n C 2 dL_foretold_78 rfl ?_
      refine vi_iload C 6 dL_foretold_79 rfl ?_
      refine vi_ldc (v := (-100006)) C dL_foretold_81 tkL_181 ?_
      refine vi_icmp_eq (tgt := 93) C dL_foretold_83 (by decide) (fun hc23 => ?_) (fun hc23 => ?_)
      · have h := ob_t h hc23
        refine vi_iconst (v := 1) C dL_foretold_93 (by decide) ?_
        refine vi_goto (tgt := 98) C dL_foretold_94 (by decide) ?_
        refine vi_sub C [0, 1, 3, 4, 5, 6, 8, 9, 10] rfl ?_
        exact hk_L_foretold_98 C RET ih  _ _ _ _ _ _ _ _ _ _ _ _ hkc h
      · have h := ob_f h hc23
        refine vi_iload C 10 dL_foretold_86 rfl ?_
        refine vi_iload C 6 dL_foretold_88 rfl ?_
        refine vi_icmp_ge (tgt := 97) C dL_foretold_90 (by decide) (fun hc24 => ?_) (fun hc24 => ?_)
        · have h := ob_t h hc24
          refine vi_iconst (v := 0) C dL_foretold_97 (by decide) ?_
          refine vi_sub C [0, 1, 3, 4, 5, 6, 8, 9, 10] rfl ?_
          exact hk_L_foretold_98 C RET ih  _ _ _ _ _ _ _ _ _ _ _ _ hkc h
        · have h := ob_f h hc24
          refine vi_iconst (v := 1) C dL_foretold_93 (by decide) ?_
          refine vi_goto (tgt := 98) C dL_foretold_94 (by decide) ?_
          refine vi_sub C [0, 1, 3, 4, 5, 6, 8, 9, 10] rfl ?_
          exact hk_L_foretold_98 C RET ih  _ _ _ _ _ _ _ _ _ _ _ _ hkc h
def hf_L_foretold (f0_0 : Int32) (u : vZ) : Option (Int32 × Int32 × vZ) := obp (fX7_save u) fun y2 u1 => (if y2 ≤ 0 then hf_L_foretold_258 y2 (1 : Int32) f0_0 u1 else (hf_X8_next y2 f0_0).bind fun z4 => bd ((z4.1 : Int32)) fun y6 => (hf_X8_next (7 : Int32) (z4.2)).bind fun z7 => bd ((z7.1 : Int32)) fun y9 => obp (fX7_would y6 y9 u1) fun y11 u10 => obp (fX7_sinks y6 u10) fun y13 u12 => obp (fX7_account (5 : Int32) u12) fun y15 u14 => obp (fX7_account (7 : Int32) u14) fun y17 u16 => obp (fX7_sailorOf y6 (0 : Int32) u16) fun y19 u18 => hf_L_foretold_71 vF y2 (1 : Int32) y6 y9 y11 y13 y15 y17 y19 (0 : Int32) (z7.2) u18)
set_option maxRecDepth 100000 in
set_option maxHeartbeats 4000000 in
theorem hk_L_foretold_e {ad adK adV : Nat → Nat} {tS tF : Nat} {tX sK sV : Nat → Nat} {p : Program} {l : Launch} {e : Env} {s : State} {m : MethodId} {args : Array Value} {below : List Frame} {meth : Method} {c : Code} {A : Nat → Prop} {D : va_G} {cI cF cC cS cO cB cZ : ClassId} {Q : State → Prop} {q0 qs qo qt qv qr qx ql : Nat → Nat} {qh : Nat → Nat → Nat} {a0 : Nat} (C : vC (vE ad adK adV tS tF tX sK sV) p l s m args meth c A D (vT7 cI cF cC cS cO cB cZ) cL_foretold 12 RL) {r0 : Int32} {r_o1 : Int32} {u0 : vZ} (RET : ∀ (q : Nat → Nat) (kc ks : Nat) (pc : Nat) (lv : List (Nat × Value)), True → decode cL_foretold pc = .ok (.ireturn, 1) → (r0 = 0 ∨ r0 = 1) → vV p l e { frames := 8, cells := 0, slots := 0, locals := 180 } s m args below meth c A D 12 0 0 Q ([(a0, .inr (8, [.int r_o1]))] ++ wX q0 qs qo qt qv qr qx ql ad qh cI cF cC cS cO u0) pc lv [.int r0]) {f0_0 : Int32} {u : vZ} (h : hf_L_foretold f0_0 u = some (r0, r_o1, u0)) : vV p l e { frames := 8, cells := 0, slots := 0, locals := 180 } s m args below meth c A D 12 0 0 Q ([(a0, .inr (8, [.int f0_0]))] ++ wX q0 qs qo qt qv qr qx ql ad qh cI cF cC cS cO u) 0 [(0, .ref (q0 0)), (1, .ref a0)] [] := by
  rw [hf_L_foretold] at h
  refine vi_aload_n C 0 dL_foretold_0 rfl ?_
  obtain ⟨y2, u1, hgu1, h⟩ := ob_p h
  refine cY_i (As := []) (rest := []) (ud := u1) C 1 (mX7_save C.2.2.2.2.2.2.2.2.1 hgu1) 0 rfl tcX7_save tlL_211 tiX7_save tsX7_save rfl tnX7 tdX7_save ⟨Nat.le_of_ble_eq_true rfl, Nat.le_of_ble_eq_true rfl⟩ ⟨Nat.le_refl 0, Nat.le_refl 0⟩ rfl rfl (Nat.le_of_ble_eq_true rfl) dL_foretold_1 ?_
  refine vi_istore_n (lv' := [(2, .int y2), (0, .ref (q0 0)), (1, .ref a0)]) C dL_foretold_4 rfl (by decide) rfl ?_
  refine vi_iconst (v := 1) C dL_foretold_5 (by decide) ?_
  refine vi_istore_n (lv' := [(3, .int (1 : Int32)), (2, .int y2), (0, .ref (q0 0)), (1, .ref a0)]) C dL_foretold_6 rfl (by decide) rfl ?_
  refine vi_iload_n C 1 dL_foretold_7 rfl ?_
  refine vi_if_le (tgt := 258) C dL_foretold_8 (by decide) (fun hc3 => ?_) (fun hc3 => ?_)
  · have h := ob_t h hc3
    refine vi_sub C [2, 1, 0] rfl ?_
    exact hk_L_foretold_258 C RET   _ _ _ _ trivial h
  · have h := ob_f h hc3
    refine vi_aload_n C 3 dL_foretold_11 rfl ?_
    refine vi_iload_n C 1 dL_foretold_12 rfl ?_
    obtain ⟨z4, hgz4, h⟩ := ob_bd h
    refine vi_w C (w' := ([] ++ [(a0, .inr (8, [.int f0_0]))]) ++ wX q0 qs qo qt qv qr qx ql ad qh cI cF cC cS cO u1) rfl ?_
    refine vi_swp ?_
    refine g_ci C (g_runV (T := TX8) (N := 1) (ci := 8) (fs := [.int f0_0]) (As := [.int y2]) (rest := []) (w1 := ([] ++ wX q0 qs qo qt qv qr qx ql ad qh cI cF cC cS cO u1)) (wc := [(a0, .inr (8, [.int f0_0]))]) C (hm_X8_next (a0 := a0) (x1 := y2) (f0_0 := f0_0) (r0 := z4.1) (r_o1 := z4.2) C.2.2.2.2.2.2.2.2.1 hgz4) 1 rfl tcX8_next tlL_23 tiX8_next tsX8_next tnX8 tdX8_next ⟨Nat.le_of_ble_eq_true rfl, Nat.le_of_ble_eq_true rfl⟩ ⟨Nat.le_refl 0, Nat.le_refl 0⟩ (0 + 101 + 0) rfl rfl rfl (Nat.le_of_ble_eq_true rfl) dL_foretold_13 rfl) rfl (fun q5 => ?_)
    refine vi_swp ?_
    refine vi_w C (w' := ([(a0, .inr (8, [.int (z4.2)]))] ++ wX q0 qs qo qt qv qr qx ql ad qh cI cF cC cS cO u1)) rfl ?_
    refine vi_kk (kc1 := 0) (ks1 := 0) rfl rfl ?_
    obtain ⟨y6, ey6, h⟩ := ob_nm h
    refine vi_nmi ey6 ?_
    refine vi_istore (lv' := [(4, .int y6), (3, .int (1 : Int32)), (2, .int y2), (0, .ref (q0 0)), (1, .ref a0)]) C dL_foretold_16 (by decide) rfl ?_
    refine vi_aload_n C 4 dL_foretold_18 rfl ?_
    refine vi_bipush (v := 7) C dL_foretold_19 (by decide) ?_
    obtain ⟨z7, hgz7, h⟩ := ob_bd h
    refine vi_w C (w' := ([] ++ [(a0, .inr (8, [.int (z4.2)]))]) ++ wX q0 qs qo qt qv qr qx ql ad qh cI cF cC cS cO u1) rfl ?_
    refine vi_swp ?_
    refine g_ci C (g_runV (T := TX8) (N := 1) (ci := 8) (fs := [.int (z4.2)]) (As := [.int (7 : Int32)]) (rest := []) (w1 := ([] ++ wX q0 qs qo qt qv qr qx ql ad qh cI cF cC cS cO u1)) (wc := [(a0, .inr (8, [.int (z4.2)]))]) C (hm_X8_next (a0 := a0) (x1 := (7 : Int32)) (f0_0 := (z4.2)) (r0 := z7.1) (r_o1 := z7.2) C.2.2.2.2.2.2.2.2.1 hgz7) 1 rfl tcX8_next tlL_23 tiX8_next tsX8_next tnX8 tdX8_next ⟨Nat.le_of_ble_eq_true rfl, Nat.le_of_ble_eq_true rfl⟩ ⟨Nat.le_refl 0, Nat.le_refl 0⟩ (0 + 101 + 0) rfl rfl rfl (Nat.le_of_ble_eq_true rfl) dL_foretold_21 rfl) rfl (fun q8 => ?_)
    refine vi_swp ?_
    refine vi_w C (w' := ([(a0, .inr (8, [.int (z7.2)]))] ++ wX q0 qs qo qt qv qr qx ql ad qh cI cF cC cS cO u1)) rfl ?_
    refine vi_kk (kc1 := 0) (ks1 := 0) rfl rfl ?_
    obtain ⟨y9, ey9, h⟩ := ob_nm h
    refine vi_nmi ey9 ?_
    refine vi_istore (lv' := [(5, .int y9), (4, .int y6), (3, .int (1 : Int32)), (2, .int y2), (0, .ref (q0 0)), (1, .ref a0)]) C dL_foretold_24 (by decide) rfl ?_
    refine vi_aload_n C 4 dL_foretold_26 rfl ?_
    refine vi_iload C 1 dL_foretold_27 rfl ?_
    refine vi_iload C 0 dL_foretold_29 rfl ?_
    obtain ⟨y11, u10, hgu10, h⟩ := ob_p h
    refine cY_i (As := [.int y6, .int y9]) (rest := []) (ud := u10) C 1 (mX7_would C.2.2.2.2.2.2.2.2.1 hgu10) 2 rfl tcX7_would tlL_214 tiX7_would tsX7_would rfl tnX7 tdX7_would ⟨Nat.le_of_ble_eq_true rfl, Nat.le_of_ble_eq_true rfl⟩ ⟨Nat.le_refl 0, Nat.le_refl 0⟩ rfl rfl (Nat.le_of_ble_eq_true rfl) dL_foretold_31 ?_
    refine vi_istore (lv' := [(6, .int y11), (5, .int y9), (4, .int y6), (3, .int (1 : Int32)), (2, .int y2), (0, .ref (q0 0)), (1, .ref a0)]) C dL_foretold_34 (by decide) rfl ?_
    refine vi_aload_n C 5 dL_foretold_36 rfl ?_
    refine vi_iload C 2 dL_foretold_37 rfl ?_
    obtain ⟨y13, u12, hgu12, h⟩ := ob_p h
    refine cY_i (As := [.int y6]) (rest := []) (ud := u12) C 1 (mX7_sinks C.2.2.2.2.2.2.2.2.1 hgu12) 1 rfl tcX7_sinks tlL_217 tiX7_sinks tsX7_sinks rfl tnX7 tdX7_sinks ⟨Nat.le_of_ble_eq_true rfl, Nat.le_of_ble_eq_true rfl⟩ ⟨Nat.le_refl 0, Nat.le_refl 0⟩ rfl rfl (Nat.le_of_ble_eq_true rfl) dL_foretold_39 ?_
    refine vi_istore (lv' := [(7, .int y13), (6, .int y11), (5, .int y9), (4, .int y6), (3, .int (1 : Int32)), (2, .int y2), (0, .ref (q0 0)), (1, .ref a0)]) C dL_foretold_42 (by decide) rfl ?_
    refine vi_aload_n C 6 dL_foretold_44 rfl ?_
    refine vi_iconst (v := 5) C dL_foretold_45 (by decide) ?_
    obtain ⟨y15, u14, hgu14, h⟩ := ob_p h
    refine cY_i (As := [.int (5 : Int32)]) (rest := []) (ud := u14) C 1 (mX7_account C.2.2.2.2.2.2.2.2.1 hgu14) 1 rfl tcX7_account tlL_37 tiX7_account tsX7_account rfl tnX7 tdX7_account ⟨Nat.le_of_ble_eq_true rfl, Nat.le_of_ble_eq_true rfl⟩ ⟨Nat.le_refl 0, Nat.le_refl 0⟩ rfl rfl (Nat.le_of_ble_eq_true rfl) dL_foretold_46 ?_
    refine vi_istore (lv' := [(8, .int y15), (7, .int y13), (6, .int y11), (5, .int y9), (4, .int y6), (3, .int (1 : Int32)), (2, .int y2), (0, .ref (q0 0)), (1, .ref a0)]) C dL_foretold_49 (by decide) rfl ?_
    refine vi_aload_n C 7 dL_foretold_51 rfl ?_
    refine vi_bipush (v := 7) C dL_foretold_52 (by decide) ?_
    obtain ⟨y17, u16, hgu16, h⟩ := ob_p h
    refine cY_i (As := [.int (7 : Int32)]) (rest := []) (ud := u16) C 1 (mX7_account C.2.2.2.2.2.2.2.2.1 hgu16) 1 rfl tcX7_account tlL_37 tiX7_account tsX7_account rfl tnX7 tdX7_account ⟨Nat.le_of_ble_eq_true rfl, Nat.le_of_ble_eq_true rfl⟩ ⟨Nat.le_refl 0, Nat.le_refl 0⟩ rfl rfl (Nat.le_of_ble_eq_true rfl) dL_foretold_54 ?_
    refine vi_istore (lv' := [(9, .int y17), (8, .int y15), (7, .int y13), (6, .int y11), (5, .int y9), (4, .int y6), (3, .int (1 : Int32)), (2, .int y2), (0, .ref (q0 0)), (1, .ref a0)]) C dL_foretold_57 (by decide) rfl ?_
    refine vi_aload_n C 8 dL_foretold_59 rfl ?_
    refine vi_iload C 5 dL_foretold_60 rfl ?_
    refine vi_iconst (v := 0) C dL_foretold_62 (by decide) ?_
    obtain ⟨y19, u18, hgu18, h⟩ := ob_p h
    refine cY_i (As := [.int y6, .int (0 : Int32)]) (rest := []) (ud := u18) C 1 (mX7_sailorOf C.2.2.2.2.2.2.2.2.1 hgu18) 2 rfl tcX7_sailorOf tlL_110 tiX7_sailorOf tsX7_sailorOf rfl tnX7 tdX7_sailorOf ⟨Nat.le_of_ble_eq_true rfl, Nat.le_of_ble_eq_true rfl⟩ ⟨Nat.le_refl 0, Nat.le_refl 0⟩ rfl rfl (Nat.le_of_ble_eq_true rfl) dL_foretold_63 ?_
    refine vi_istore (lv' := [(10, .int y19), (9, .int y17), (8, .int y15), (7, .int y13), (6, .int y11), (5, .int y9), (4, .int y6), (3, .int (1 : Int32)), (2, .int y2), (0, .ref (q0 0)), (1, .ref a0)]) C dL_foretold_66 (by decide) rfl ?_
    refine vi_iconst (v := 0) C dL_foretold_68 (by decide) ?_
    refine vi_istore (lv' := [(11, .int (0 : Int32)), (10, .int y19), (9, .int y17), (8, .int y15), (7, .int y13), (6, .int y11), (5, .int y9), (4, .int y6), (3, .int (1 : Int32)), (2, .int y2), (0, .ref (q0 0)), (1, .ref a0)]) C dL_foretold_69 (by decide) rfl ?_
    refine vi_sub C [10, 9, 8, 7, 6, 5, 4, 3, 2, 1, 0] rfl ?_
    exact hk_L_foretold_71 C RET  vF _ _ _ _ _ _ _ _ _ _ _ _ trivial h
theorem hm_L_foretold {ad adK adV : Nat → Nat} {tS tF : Nat} {tX sK sV : Nat → Nat} (hE : vEok (vE ad adK adV tS tF tX sK sV)) {l : Launch} {D : va_G} {cI cF cC cS cO cB cZ : ClassId} {q0 qs qo qt qv qr qx ql : Nat → Nat} {qh : Nat → Nat → Nat} {a0 : Nat} {r0 : Int32} {r_o1 : Int32} {u0 : vZ} {f0_0 : Int32} {u : vZ} (h : hf_L_foretold f0_0 u = some (r0, r_o1, u0)) : vG (vE ad adK adV tS tF tX sK sV) l yL_foretold cL_foretold 12 (some .boolean) 8 180 0 0 D (vT7 cI cF cC cS cO cB cZ) [.ref (q0 0), .ref a0] ([(a0, .inr (8, [.int f0_0]))] ++ wX q0 qs qo qt qv qr qx ql ad qh cI cF cC cS cO u) (gQi D (fun q => ([(a0, .inr (8, [.int r_o1]))] ++ wX q0 qs qo qt qv qr qx ql ad qh cI cF cC cS cO u0)) r0) :=
  vG_of hE (by decide +kernel) (Nat.le_of_ble_eq_true rfl) (fun p e s m args below meth c A C hr hin => hk_L_foretold_e C (fun q kc ks pc lv hk hd hz => g_reti (WQ := (fun q => ([(a0, .inr (8, [.int r_o1]))] ++ wX q0 qs qo qt qv qr qx ql ad qh cI cF cC cS cO u0))) C hr (by rcases hz with rfl | rfl <;> rfl) q rfl ⟨Nat.le_refl 0, Nat.le_refl 0⟩ hd) h)
