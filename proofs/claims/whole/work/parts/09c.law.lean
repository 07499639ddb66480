def fL_law_1198 (xs : Nat → Int32) (L : Nat) (rec_18 : Int32 → vL → Option (Unit)) (x1 : Int32) (u : vL) : Option Unit := bd ((x1 + 3 : Int32)) fun y1 => rec_18 y1 u
set_option maxRecDepth 100000 in
set_option maxHeartbeats 8000000 in
theorem kL_law_1198 {ad adK adV : Nat → Nat} {tS tF : Nat} {p : Program} {l : Launch} {e : Env} {s : State} {m : MethodId} {args : Array Value} {below : List Frame} {meth : Method} {c : Code} {A : Nat → Prop} {D : va_G} {cI cF cC cS cO : ClassId} {Q : State → Prop} {q0 qs qo qt qv qr qx ql q : Nat → Nat} {qh : Nat → Nat → Nat} {b L : Nat} {xs : Nat → Int32} (C : vC (vE ad adK adV tS tF) p l s m args meth c A D (vT5 cI cF cC cS cO) cL_law 8 RL) (hX : va_X b L xs s s.heap) (hbl : b < s.heap.size) (hbA : ¬ A b) (RET : ∀ (u : vL) (pc : Nat) (lv : List (Nat × Value)), decode cL_law pc = .ok (.ireturn, 1) → vV p l e room_1 s m args below meth c A D 8 600000 7302249 Q (wX q0 qs qo qt qv qr qx ql ad qh cI cF cC cS cO u.1 ++ wR q cI u.2) pc lv [.int 1]) {rec_18 : Int32 → vL → Option (Unit)} (REC_18 : ∀ (x1 : Int32) (u : vL), rec_18 x1 u = some () → vV p l e room_1 s m args below meth c A D 8 600000 7302249 Q (wX q0 qs qo qt qv qr qx ql ad qh cI cF cC cS cO u.1 ++ wR q cI u.2) 18 [(0, .ref b), (1, .ref (q0 0)), (2, .ref (q 0)), (3, .int x1)] []) : ∀ (x1 : Int32) (u : vL), fL_law_1198 xs L rec_18 x1 u = some () → vV p l e room_1 s m args below meth c A D 8 600000 7302249 Q (wX q0 qs qo qt qv qr qx ql ad qh cI cF cC cS cO u.1 ++ wR q cI u.2) 1198 [(0, .ref b), (1, .ref (q0 0)), (2, .ref (q 0)), (3, .int x1)] [] := by
  intro x1 u h
  rw [fL_law_1198] at h
  obtain ⟨y1, ey1, h⟩ := ob_nm h
  refine vi_iinc (v := y1) (lv' := [(3, .int y1), (0, .ref b), (1, .ref (q0 0)), (2, .ref (q 0))]) C 3 dL_law_1198 rfl (by rw [ey1]; rfl) (by decide) rfl ?_
  refine vi_goto (tgt := 18) C dL_law_1201 (by decide) ?_
  refine vi_sub C [1, 2, 3, 0] rfl ?_
  exact REC_18 _ _ h
def fL_law_1185 (xs : Nat → Int32) (L : Nat) (rec_18 : Int32 → vL → Option (Unit)) (x1 : Int32) (u : vL) : Option Unit := obp (fX7_restore u.1) fun y2 u1b => bd ((u1b, u.2)) fun u1 => obp (fX8_restore u1.2) fun y4 u3b => bd ((u1.1, u3b)) fun u3 => (if y2 = y4 then fL_law_1198 xs L rec_18 x1 u3 else none)
set_option maxRecDepth 100000 in
set_option maxHeartbeats 8000000 in
theorem kL_law_1185 {ad adK adV : Nat → Nat} {tS tF : Nat} {p : Program} {l : Launch} {e : Env} {s : State} {m : MethodId} {args : Array Value} {below : List Frame} {meth : Method} {c : Code} {A : Nat → Prop} {D : va_G} {cI cF cC cS cO : ClassId} {Q : State → Prop} {q0 qs qo qt qv qr qx ql q : Nat → Nat} {qh : Nat → Nat → Nat} {b L : Nat} {xs : Nat → Int32} (C : vC (vE ad adK adV tS tF) p l s m args meth c A D (vT5 cI cF cC cS cO) cL_law 8 RL) (hX : va_X b L xs s s.heap) (hbl : b < s.heap.size) (hbA : ¬ A b) (RET : ∀ (u : vL) (pc : Nat) (lv : List (Nat × Value)), decode cL_law pc = .ok (.ireturn, 1) → vV p l e room_1 s m args below meth c A D 8 600000 7302249 Q (wX q0 qs qo qt qv qr qx ql ad qh cI cF cC cS cO u.1 ++ wR q cI u.2) pc lv [.int 1]) {rec_18 : Int32 → vL → Option (Unit)} (REC_18 : ∀ (x1 : Int32) (u : vL), rec_18 x1 u = some () → vV p l e room_1 s m args below meth c A D 8 600000 7302249 Q (wX q0 qs qo qt qv qr qx ql ad qh cI cF cC cS cO u.1 ++ wR q cI u.2) 18 [(0, .ref b), (1, .ref (q0 0)), (2, .ref (q 0)), (3, .int x1)] []) : ∀ (x1 : Int32) (u : vL), fL_law_1185 xs L rec_18 x1 u = some () → vV p l e room_1 s m args below meth c A D 8 600000 7302249 Q (wX q0 qs qo qt qv qr qx ql ad qh cI cF cC cS cO u.1 ++ wR q cI u.2) 1185 [(0, .ref b), (1, .ref (q0 0)), (2, .ref (q 0)), (3, .int x1)] [] := by
  intro x1 u h
  rw [fL_law_1185] at h
  refine vi_aload_n C 1 dL_law_1185 rfl ?_
  obtain ⟨y2, u1b, hgu1, h⟩ := ob_p h
  obtain ⟨u1, eu1, h⟩ := ob_nm h
  refine cL_X_i (As := []) (rest := []) C (mX7_restore C.2.2.2.2.2.2.2.2.1 hgu1) 0 rfl tcX7_restore tlL_174 tiX7_restore tsX7_restore rfl tnX7 tdX7_restore ⟨Nat.le_of_ble_eq_true rfl, Nat.le_of_ble_eq_true rfl⟩ eu1 rfl (Nat.le_of_ble_eq_true rfl) dL_law_1186 ?_
  refine vi_aload_n C 2 dL_law_1189 rfl ?_
  obtain ⟨y4, u3b, hgu3, h⟩ := ob_p h
  obtain ⟨u3, eu3, h⟩ := ob_nm h
  refine cL_R_i (As := []) (rest := [.int y2]) C (mX8_restore C.2.2.2.2.2.2.2.2.1 hgu3) 0 rfl tcX8_restore tlL_177 tiX8_restore tsX8_restore rfl tnX8 tdX8_restore ⟨Nat.le_of_ble_eq_true rfl, Nat.le_of_ble_eq_true rfl⟩ eu3 rfl (Nat.le_of_ble_eq_true rfl) dL_law_1190 ?_
  refine vi_icmp_eq (tgt := 1198) C dL_law_1193 (by decide) (fun hc5 => ?_) (fun hc5 => ?_)
  · have h := ob_t h hc5
    refine vi_sub C [0, 1, 2, 3] rfl ?_
    exact kL_law_1198 C hX hbl hbA RET REC_18  _ _ h
  · have h := ob_f h hc5
    refine vi_iconst (v := 0) C dL_law_1196 (by decide) ?_
    cases h
def fL_law_1172 (xs : Nat → Int32) (L : Nat) (rec_18 : Int32 → vL → Option (Unit)) (x1 : Int32) (u : vL) : Option Unit := obp (fX7_save u.1) fun y2 u1b => bd ((u1b, u.2)) fun u1 => obp (fX8_save u1.2) fun y4 u3b => bd ((u1.1, u3b)) fun u3 => (if y2 = y4 then fL_law_1198 xs L rec_18 x1 u3 else none)
set_option maxRecDepth 100000 in
set_option maxHeartbeats 8000000 in
theorem kL_law_1172 {ad adK adV : Nat → Nat} {tS tF : Nat} {p : Program} {l : Launch} {e : Env} {s : State} {m : MethodId} {args : Array Value} {below : List Frame} {meth : Method} {c : Code} {A : Nat → Prop} {D : va_G} {cI cF cC cS cO : ClassId} {Q : State → Prop} {q0 qs qo qt qv qr qx ql q : Nat → Nat} {qh : Nat → Nat → Nat} {b L : Nat} {xs : Nat → Int32} (C : vC (vE ad adK adV tS tF) p l s m args meth c A D (vT5 cI cF cC cS cO) cL_law 8 RL) (hX : va_X b L xs s s.heap) (hbl : b < s.heap.size) (hbA : ¬ A b) (RET : ∀ (u : vL) (pc : Nat) (lv : List (Nat × Value)), decode cL_law pc = .ok (.ireturn, 1) → vV p l e room_1 s m args below meth c A D 8 600000 7302249 Q (wX q0 qs qo qt qv qr qx ql ad qh cI cF cC cS cO u.1 ++ wR q cI u.2) pc lv [.int 1]) {rec_18 : Int32 → vL → Option (Unit)} (REC_18 : ∀ (x1 : Int32) (u : vL), rec_18 x1 u = some () → vV p l e room_1 s m args below meth c A D 8 600000 7302249 Q (wX q0 qs qo qt qv qr qx ql ad qh cI cF cC cS cO u.1 ++ wR q cI u.2) 18 [(0, .ref b), (1, .ref (q0 0)), (2, .ref (q 0)), (3, .int x1)] []) : ∀ (x1 : Int32) (u : vL), fL_law_1172 xs L rec_18 x1 u = some () → vV p l e room_1 s m args below meth c A D 8 600000 7302249 Q (wX q0 qs qo qt qv qr qx ql ad qh cI cF cC cS cO u.1 ++ wR q cI u.2) 1172 [(0, .ref b), (1, .ref (q0 0)), (2, .ref (q 0)), (3, .int x1)] [] := by
  intro x1 u h
  rw [fL_law_1172] at h
  refine vi_aload_n C 1 dL_law_1172 rfl ?_
  obtain ⟨y2, u1b, hgu1, h⟩ := ob_p h
  obtain ⟨u1, eu1, h⟩ := ob_nm h
  refine cL_X_i (As := []) (rest := []) C (mX7_save C.2.2.2.2.2.2.2.2.1 hgu1) 0 rfl tcX7_save tlL_170 tiX7_save tsX7_save rfl tnX7 tdX7_save ⟨Nat.le_of_ble_eq_true rfl, Nat.le_of_ble_eq_true rfl⟩ eu1 rfl (Nat.le_of_ble_eq_true rfl) dL_law_1173 ?_
  refine vi_aload_n C 2 dL_law_1176 rfl ?_
  obtain ⟨y4, u3b, hgu3, h⟩ := ob_p h
  obtain ⟨u3, eu3, h⟩ := ob_nm h
  refine cL_R_i (As := []) (rest := [.int y2]) C (mX8_save C.2.2.2.2.2.2.2.2.1 hgu3) 0 rfl tcX8_save tlL_173 tiX8_save tsX8_save rfl tnX8 tdX8_save ⟨Nat.le_of_ble_eq_true rfl, Nat.le_of_ble_eq_true rfl⟩ eu3 rfl (Nat.le_of_ble_eq_true rfl) dL_law_1177 ?_
  refine vi_icmp_eq (tgt := 1198) C dL_law_1180 (by decide) (fun hc5 => ?_) (fun hc5 => ?_)
  · have h := ob_t h hc5
    refine vi_sub C [0, 1, 2, 3] rfl ?_
    exact kL_law_1198 C hX hbl hbA RET REC_18  _ _ h
  · have h := ob_f h hc5
    refine vi_iconst (v := 0) C dL_law_1183 (by decide) ?_
    cases h
def fL_law_1159 (xs : Nat → Int32) (L : Nat) (rec_18 : Int32 → vL → Option (Unit)) (x1 : Int32) (u : vL) : Option Unit := obp (fX7_undo u.1) fun y2 u1b => bd ((u1b, u.2)) fun u1 => obp (fX8_undo u1.2) fun y4 u3b => bd ((u1.1, u3b)) fun u3 => (if y2 = y4 then fL_law_1198 xs L rec_18 x1 u3 else none)
set_option maxRecDepth 100000 in
set_option maxHeartbeats 8000000 in
theorem kL_law_1159 {ad adK adV : Nat → Nat} {tS tF : Nat} {p : Program} {l : Launch} {e : Env} {s : State} {m : MethodId} {args : Array Value} {below : List Frame} {meth : Method} {c : Code} {A : Nat → Prop} {D : va_G} {cI cF cC cS cO : ClassId} {Q : State → Prop} {q0 qs qo qt qv qr qx ql q : Nat → Nat} {qh : Nat → Nat → Nat} {b L : Nat} {xs : Nat → Int32} (C : vC (vE ad adK adV tS tF) p l s m args meth c A D (vT5 cI cF cC cS cO) cL_law 8 RL) (hX : va_X b L xs s s.heap) (hbl : b < s.heap.size) (hbA : ¬ A b) (RET : ∀ (u : vL) (pc : Nat) (lv : List (Nat × Value)), decode cL_law pc = .ok (.ireturn, 1) → vV p l e room_1 s m args below meth c A D 8 600000 7302249 Q (wX q0 qs qo qt qv qr qx ql ad qh cI cF cC cS cO u.1 ++ wR q cI u.2) pc lv [.int 1]) {rec_18 : Int32 → vL → Option (Unit)} (REC_18 : ∀ (x1 : Int32) (u : vL), rec_18 x1 u = some () → vV p l e room_1 s m args below meth c A D 8 600000 7302249 Q (wX q0 qs qo qt qv qr qx ql ad qh cI cF cC cS cO u.1 ++ wR q cI u.2) 18 [(0, .ref b), (1, .ref (q0 0)), (2, .ref (q 0)), (3, .int x1)] []) : ∀ (x1 : Int32) (u : vL), fL_law_1159 xs L rec_18 x1 u = some () → vV p l e room_1 s m args below meth c A D 8 600000 7302249 Q (wX q0 qs qo qt qv qr qx ql ad qh cI cF cC cS cO u.1 ++ wR q cI u.2) 1159 [(0, .ref b), (1, .ref (q0 0)), (2, .ref (q 0)), (3, .int x1)] [] := by
  intro x1 u h
  rw [fL_law_1159] at h
  refine vi_aload_n C 1 dL_law_1159 rfl ?_
  obtain ⟨y2, u1b, hgu1, h⟩ := ob_p h
  obtain ⟨u1, eu1, h⟩ := ob_nm h
  refine cL_X_i (As := []) (rest := []) C (mX7_undo C.2.2.2.2.2.2.2.2.1 hgu1) 0 rfl tcX7_undo tlL_166 tiX7_undo tsX7_undo rfl tnX7 tdX7_undo ⟨Nat.le_of_ble_eq_true rfl, Nat.le_of_ble_eq_true rfl⟩ eu1 rfl (Nat.le_of_ble_eq_true rfl) dL_law_1160 ?_
  refine vi_aload_n C 2 dL_law_1163 rfl ?_
  obtain ⟨y4, u3b, hgu3, h⟩ := ob_p h
  obtain ⟨u3, eu3, h⟩ := ob_nm h
  refine cL_R_i (As := []) (rest := [.int y2]) C (mX8_undo C.2.2.2.2.2.2.2.2.1 hgu3) 0 rfl tcX8_undo tlL_169 tiX8_undo tsX8_undo rfl tnX8 tdX8_undo ⟨Nat.le_of_ble_eq_true rfl, Nat.le_of_ble_eq_true rfl⟩ eu3 rfl (Nat.le_of_ble_eq_true rfl) dL_law_1164 ?_
  refine vi_icmp_eq (tgt := 1198) C dL_law_1167 (by decide) (fun hc5 => ?_) (fun hc5 => ?_)
  · have h := ob_t h hc5
    refine vi_sub C [0, 1, 2, 3] rfl ?_
    exact kL_law_1198 C hX hbl hbA RET REC_18  _ _ h
  · have h := ob_f h hc5
    refine vi_iconst (v := 0) C dL_law_1170 (by decide) ?_
    cases h
def fL_law_1129 (xs : Nat → Int32) (L : Nat) (rec_18 : Int32 → vL → Option (Unit)) (x1 : Int32) (x2 : Int32) (x3 : Int32) (u : vL) : Option Unit := obp (fX7_reason x3 x2 u.1) fun y2 u1b => bd ((u1b, u.2)) fun u1 => if x1 + (1 : Int32) < 0 ∨ L ≤ Int32.toNatClampNeg (x1 + (1 : Int32)) then none else if x1 + (2 : Int32) < 0 ∨ L ≤ Int32.toNatClampNeg (x1 + (2 : Int32)) then none else (if xs (Int32.toNatClampNeg (x1 + (2 : Int32))) = 0 then obp (fX8_reason (xs (Int32.toNatClampNeg (x1 + (1 : Int32)))) (0 : Int32) u1.2) fun y7 u6b => bd ((u1.1, u6b)) fun u6 => (if y2 = y7 then fL_law_1198 xs L rec_18 x1 u6 else none) else obp (fX8_reason (xs (Int32.toNatClampNeg (x1 + (1 : Int32)))) (1 : Int32) u1.2) fun y10 u9b => bd ((u1.1, u9b)) fun u9 => (if y2 = y10 then fL_law_1198 xs L rec_18 x1 u9 else none))
set_option maxRecDepth 100000 in
set_option maxHeartbeats 8000000 in
theorem kL_law_1129 {ad adK adV : Nat → Nat} {tS tF : Nat} {p : Program} {l : Launch} {e : Env} {s : State} {m : MethodId} {args : Array Value} {below : List Frame} {meth : Method} {c : Code} {A : Nat → Prop} {D : va_G} {cI cF cC cS cO : ClassId} {Q : State → Prop} {q0 qs qo qt qv qr qx ql q : Nat → Nat} {qh : Nat → Nat → Nat} {b L : Nat} {xs : Nat → Int32} (C : vC (vE ad adK adV tS tF) p l s m args meth c A D (vT5 cI cF cC cS cO) cL_law 8 RL) (hX : va_X b L xs s s.heap) (hbl : b < s.heap.size) (hbA : ¬ A b) (RET : ∀ (u : vL) (pc : Nat) (lv : List (Nat × Value)), decode cL_law pc = .ok (.ireturn, 1) → vV p l e room_1 s m args below meth c A D 8 600000 7302249 Q (wX q0 qs qo qt qv qr qx ql ad qh cI cF cC cS cO u.1 ++ wR q cI u.2) pc lv [.int 1]) {rec_18 : Int32 → vL → Option (Unit)} (REC_18 : ∀ (x1 : Int32) (u : vL), rec_18 x1 u = some () → vV p l e room_1 s m args below meth c A D 8 600000 7302249 Q (wX q0 qs qo qt qv qr qx ql ad qh cI cF cC cS cO u.1 ++ wR q cI u.2) 18 [(0, .ref b), (1, .ref (q0 0)), (2, .ref (q 0)), (3, .int x1)] []) : ∀ (x1 : Int32) (x2 : Int32) (x3 : Int32) (u : vL), fL_law_1129 xs L rec_18 x1 x2 x3 u = some () → vV p l e room_1 s m args below meth c A D 8 600000 7302249 Q (wX q0 qs qo qt qv qr qx ql ad qh cI cF cC cS cO u.1 ++ wR q cI u.2) 1129 [(0, .ref b), (1, .ref (q0 0)), (2, .ref (q 0)), (3, .int x1)] [.int x2, .int x3, .ref (q0 0)] := by
  intro x1 x2 x3 u h
  rw [fL_law_1129] at h
  obtain ⟨y2, u1b, hgu1, h⟩ := ob_p h
  obtain ⟨u1, eu1, h⟩ := ob_nm h
  refine cL_X_i (As := [.int x3, .int x2]) (rest := []) C (mX7_reason C.2.2.2.2.2.2.2.2.1 hgu1) 2 rfl tcX7_reason tlL_161 tiX7_reason tsX7_reason rfl tnX7 tdX7_reason ⟨Nat.le_of_ble_eq_true rfl, Nat.le_of_ble_eq_true rfl⟩ eu1 rfl (Nat.le_of_ble_eq_true rfl) dL_law_1129 ?_
  refine vi_aload_n C 2 dL_law_1132 rfl ?_
  refine vi_aload_n C 0 dL_law_1133 rfl ?_
  refine vi_iload_n C 3 dL_law_1134 rfl ?_
  refine vi_iconst (v := 1) C dL_law_1135 (by decide) ?_
  refine vi_iadd C dL_law_1136 ?_
  obtain ⟨hz3, h⟩ := ob_if h
  refine vi_sld C hX hbl hbA hz3 dL_law_1137 ?_
  refine vi_aload_n C 0 dL_law_1138 rfl ?_
  refine vi_iload_n C 3 dL_law_1139 rfl ?_
  refine vi_iconst (v := 2) C dL_law_1140 (by decide) ?_
  refine vi_iadd C dL_law_1141 ?_
  obtain ⟨hz4, h⟩ := ob_if h
  refine vi_sld C hX hbl hbA hz4 dL_law_1142 ?_
  refine vi_if_eq (tgt := 1150) C dL_law_1143 (by decide) (fun hc5 => ?_) (fun hc5 => ?_)
  · have h := ob_t h hc5
    refine vi_iconst (v := 0) C dL_law_1150 (by decide) ?_
    obtain ⟨y7, u6b, hgu6, h⟩ := ob_p h
    obtain ⟨u6, eu6, h⟩ := ob_nm h
    refine cL_R_i (As := [.int (xs (Int32.toNatClampNeg (x1 + (1 : Int32)))), .int (0 : Int32)]) (rest := [.int y2]) C (mX8_reason C.2.2.2.2.2.2.2.2.1 hgu6) 2 rfl tcX8_reason tlL_165 tiX8_reason tsX8_reason rfl tnX8 tdX8_reason ⟨Nat.le_of_ble_eq_true rfl, Nat.le_of_ble_eq_true rfl⟩ eu6 rfl (Nat.le_of_ble_eq_true rfl) dL_law_1151 ?_
    refine vi_icmp_eq (tgt := 1198) C dL_law_1154 (by decide) (fun hc8 => ?_) (fun hc8 => ?_)
    · have h := ob_t h hc8
      refine vi_sub C [0, 1, 2, 3] rfl ?_
      exact kL_law_1198 C hX hbl hbA RET REC_18  _ _ h
    · have h := ob_f h hc8
      refine vi_iconst (v := 0) C dL_law_1157 (by decide) ?_
      cases h
  · have h := ob_f h hc5
    refine vi_iconst (v := 1) C dL_law_1146 (by decide) ?_
    refine vi_goto (tgt := 1151) C dL_law_1147 (by decide) ?_
    obtain ⟨y10, u9b, hgu9, h⟩ := ob_p h
    obtain ⟨u9, eu9, h⟩ := ob_nm h
    refine cL_R_i (As := [.int (xs (Int32.toNatClampNeg (x1 + (1 : Int32)))), .int (1 : Int32)]) (rest := [.int y2]) C (mX8_reason C.2.2.2.2.2.2.2.2.1 hgu9) 2 rfl tcX8_reason tlL_165 tiX8_reason tsX8_reason rfl tnX8 tdX8_reason ⟨Nat.le_of_ble_eq_true rfl, Nat.le_of_ble_eq_true rfl⟩ eu9 rfl (Nat.le_of_ble_eq_true rfl) dL_law_1151 ?_
    refine vi_icmp_eq (tgt := 1198) C dL_law_1154 (by decide) (fun hc11 => ?_) (fun hc11 => ?_)
    · have h := ob_t h hc11
      refine vi_sub C [0, 1, 2, 3] rfl ?_
      exact kL_law_1198 C hX hbl hbA RET REC_18  _ _ h
    · have h := ob_f h hc11
      refine vi_iconst (v := 0) C dL_law_1157 (by decide) ?_
      cases h
def fL_law_1110 (xs : Nat → Int32) (L : Nat) (rec_18 : Int32 → vL → Option (Unit)) (x1 : Int32) (u : vL) : Option Unit := if x1 + (1 : Int32) < 0 ∨ L ≤ Int32.toNatClampNeg (x1 + (1 : Int32)) then none else if x1 + (2 : Int32) < 0 ∨ L ≤ Int32.toNatClampNeg (x1 + (2 : Int32)) then none else (if xs (Int32.toNatClampNeg (x1 + (2 : Int32))) = 0 then fL_law_1129 xs L rec_18 x1 (0 : Int32) (xs (Int32.toNatClampNeg (x1 + (1 : Int32)))) u else fL_law_1129 xs L rec_18 x1 (1 : Int32) (xs (Int32.toNatClampNeg (x1 + (1 : Int32)))) u)
set_option maxRecDepth 100000 in
set_option maxHeartbeats 8000000 in
theorem kL_law_1110 {ad adK adV : Nat → Nat} {tS tF : Nat} {p : Program} {l : Launch} {e : Env} {s : State} {m : MethodId} {args : Array Value} {below : List Frame} {meth : Method} {c : Code} {A : Nat → Prop} {D : va_G} {cI cF cC cS cO : ClassId} {Q : State → Prop} {q0 qs qo qt qv qr qx ql q : Nat → Nat} {qh : Nat → Nat → Nat} {b L : Nat} {xs : Nat → Int32} (C : vC (vE ad adK adV tS tF) p l s m args meth c A D (vT5 cI cF cC cS cO) cL_law 8 RL) (hX : va_X b L xs s s.heap) (hbl : b < s.heap.size) (hbA : ¬ A b) (RET : ∀ (u : vL) (pc : Nat) (lv : List (Nat × Value)), decode cL_law pc = .ok (.ireturn, 1) → vV p l e room_1 s m args below meth c A D 8 600000 7302249 Q (wX q0 qs qo qt qv qr qx ql ad qh cI cF cC cS cO u.1 ++ wR q cI u.2) pc lv [.int 1]) {rec_18 : Int32 → vL → Option (Unit)} (REC_18 : ∀ (x1 : Int32) (u : vL), rec_18 x1 u = some () → vV p l e room_1 s m args below meth c A D 8 600000 7302249 Q (wX q0 qs qo qt qv qr qx ql ad qh cI cF cC cS cO u.1 ++ wR q cI u.2) 18 [(0, .ref b), (1, .ref (q0 0)), (2, .ref (q 0)), (3, .int x1)] []) : ∀ (x1 : Int32) (u : vL), fL_law_1110 xs L rec_18 x1 u = some () → vV p l e room_1 s m args below meth c A D 8 600000 7302249 Q (wX q0 qs qo qt qv qr qx ql ad qh cI cF cC cS cO u.1 ++ wR q cI u.2) 1110 [(0, .ref b), (1, .ref (q0 0)), (2, .ref (q 0)), (3, .int x1)] [] := by
  intro x1 u h
  rw [fL_law_1110] at h
  refine vi_aload_n C 1 dL_law_1110 rfl ?_
  refine vi_aload_n C 0 dL_law_1111 rfl ?_
  refine vi_iload_n C 3 dL_law_1112 rfl ?_
  refine vi_iconst (v := 1) C dL_law_1113 (by decide) ?_
  refine vi_iadd C dL_law_1114 ?_
  obtain ⟨hz1, h⟩ := ob_if h
  refine vi_sld C hX hbl hbA hz1 dL_law_1115 ?_
  refine vi_aload_n C 0 dL_law_1116 rfl ?_
  refine vi_iload_n C 3 dL_law_1117 rfl ?_
  refine vi_iconst (v := 2) C dL_law_1118 (by decide) ?_
  refine vi_iadd C dL_law_1119 ?_
  obtain ⟨hz2, h⟩ := ob_if h
  refine vi_sld C hX hbl hbA hz2 dL_law_1120 ?_
  refine vi_if_eq (tgt := 1128) C dL_law_1121 (by decide) (fun hc3 => ?_) (fun hc3 => ?_)
  · have h := ob_t h hc3
    refine vi_iconst (v := 0) C dL_law_1128 (by decide) ?_
    refine vi_sub C [0, 1, 2, 3] rfl ?_
    exact kL_law_1129 C hX hbl hbA RET REC_18  _ _ _ _ h
  · have h := ob_f h hc3
    refine vi_iconst (v := 1) C dL_law_1124 (by decide) ?_
    refine vi_goto (tgt := 1129) C dL_law_1125 (by decide) ?_
    refine vi_sub C [0, 1, 2, 3] rfl ?_
    exact kL_law_1129 C hX hbl hbA RET REC_18  _ _ _ _ h
def fL_law_1097 (xs : Nat → Int32) (L : Nat) (rec_18 : Int32 → vL → Option (Unit)) (x1 : Int32) (u : vL) : Option Unit := obp (fX7_fault u.1) fun y2 u1b => bd ((u1b, u.2)) fun u1 => obp (fX8_fault u1.2) fun y4 u3b => bd ((u1.1, u3b)) fun u3 => (if y2 = y4 then fL_law_1198 xs L rec_18 x1 u3 else none)
set_option maxRecDepth 100000 in
set_option maxHeartbeats 8000000 in
theorem kL_law_1097 {ad adK adV : Nat → Nat} {tS tF : Nat} {p : Program} {l : Launch} {e : Env} {s : State} {m : MethodId} {args : Array Value} {below : List Frame} {meth : Method} {c : Code} {A : Nat → Prop} {D : va_G} {cI cF cC cS cO : ClassId} {Q : State → Prop} {q0 qs qo qt qv qr qx ql q : Nat → Nat} {qh : Nat → Nat → Nat} {b L : Nat} {xs : Nat → Int32} (C : vC (vE ad adK adV tS tF) p l s m args meth c A D (vT5 cI cF cC cS cO) cL_law 8 RL) (hX : va_X b L xs s s.heap) (hbl : b < s.heap.size) (hbA : ¬ A b) (RET : ∀ (u : vL) (pc : Nat) (lv : List (Nat × Value)), decode cL_law pc = .ok (.ireturn, 1) → vV p l e room_1 s m args below meth c A D 8 600000 7302249 Q (wX q0 qs qo qt qv qr qx ql ad qh cI cF cC cS cO u.1 ++ wR q cI u.2) pc lv [.int 1]) {rec_18 : Int32 → vL → Option (Unit)} (REC_18 : ∀ (x1 : Int32) (u : vL), rec_18 x1 u = some () → vV p l e room_1 s m args below meth c A D 8 600000 7302249 Q (wX q0 qs qo qt qv qr qx ql ad qh cI cF cC cS cO u.1 ++ wR q cI u.2) 18 [(0, .ref b), (1, .ref (q0 0)), (2, .ref (q 0)), (3, .int x1)] []) : ∀ (x1 : Int32) (u : vL), fL_law_1097 xs L rec_18 x1 u = some () → vV p l e room_1 s m args below meth c A D 8 600000 7302249 Q (wX q0 qs qo qt qv qr qx ql ad qh cI cF cC cS cO u.1 ++ wR q cI u.2) 1097 [(0, .ref b), (1, .ref (q0 0)), (2, .ref (q 0)), (3, .int x1)] [] := by
  intro x1 u h
  rw [fL_law_1097] at h
  refine vi_aload_n C 1 dL_law_1097 rfl ?_
  obtain ⟨y2, u1b, hgu1, h⟩ := ob_p h
  obtain ⟨u1, eu1, h⟩ := ob_nm h
  refine cL_X_i (As := []) (rest := []) C (mX7_fault C.2.2.2.2.2.2.2.2.1 hgu1) 0 rfl tcX7_fault tlL_157 tiX7_fault tsX7_fault rfl tnX7 tdX7_fault ⟨Nat.le_of_ble_eq_true rfl, Nat.le_of_ble_eq_true rfl⟩ eu1 rfl (Nat.le_of_ble_eq_true rfl) dL_law_1098 ?_
  refine vi_aload_n C 2 dL_law_1101 rfl ?_
  obtain ⟨y4, u3b, hgu3, h⟩ := ob_p h
  obtain ⟨u3, eu3, h⟩ := ob_nm h
  refine cL_R_i (As := []) (rest := [.int y2]) C (mX8_fault C.2.2.2.2.2.2.2.2.1 hgu3) 0 rfl tcX8_fault tlL_160 tiX8_fault tsX8_fault rfl tnX8 tdX8_fault ⟨Nat.le_of_ble_eq_true rfl, Nat.le_of_ble_eq_true rfl⟩ eu3 rfl (Nat.le_of_ble_eq_true rfl) dL_law_1102 ?_
  refine vi_icmp_eq (tgt := 1198) C dL_law_1105 (by decide) (fun hc5 => ?_) (fun hc5 => ?_)
  · have h := ob_t h hc5
    refine vi_sub C [0, 1, 2, 3] rfl ?_
    exact kL_law_1198 C hX hbl hbA RET REC_18  _ _ h
  · have h := ob_f h hc5
    refine vi_iconst (v := 0) C dL_law_1108 (by decide) ?_
    cases h
def fL_law_1084 (xs : Nat → Int32) (L : Nat) (rec_18 : Int32 → vL → Option (Unit)) (x1 : Int32) (u : vL) : Option Unit := obp (fX7_read u.1) fun y2 u1b => bd ((u1b, u.2)) fun u1 => obp (fX8_read u1.2) fun y4 u3b => bd ((u1.1, u3b)) fun u3 => (if y2 = y4 then fL_law_1198 xs L rec_18 x1 u3 else none)
set_option maxRecDepth 100000 in
set_option maxHeartbeats 8000000 in
theorem kL_law_1084 {ad adK adV : Nat → Nat} {tS tF : Nat} {p : Program} {l : Launch} {e : Env} {s : State} {m : MethodId} {args : Array Value} {below : List Frame} {meth : Method} {c : Code} {A : Nat → Prop} {D : va_G} {cI cF cC cS cO : ClassId} {Q : State → Prop} {q0 qs qo qt qv qr qx ql q : Nat → Nat} {qh : Nat → Nat → Nat} {b L : Nat} {xs : Nat → Int32} (C : vC (vE ad adK adV tS tF) p l s m args meth c A D (vT5 cI cF cC cS cO) cL_law 8 RL) (hX : va_X b L xs s s.heap) (hbl : b < s.heap.size) (hbA : ¬ A b) (RET : ∀ (u : vL) (pc : Nat) (lv : List (Nat × Value)), decode cL_law pc = .ok (.ireturn, 1) → vV p l e room_1 s m args below meth c A D 8 600000 7302249 Q (wX q0 qs qo qt qv qr qx ql ad qh cI cF cC cS cO u.1 ++ wR q cI u.2) pc lv [.int 1]) {rec_18 : Int32 → vL → Option (Unit)} (REC_18 : ∀ (x1 : Int32) (u : vL), rec_18 x1 u = some () → vV p l e room_1 s m args below meth c A D 8 600000 7302249 Q (wX q0 qs qo qt qv qr qx ql ad qh cI cF cC cS cO u.1 ++ wR q cI u.2) 18 [(0, .ref b), (1, .ref (q0 0)), (2, .ref (q 0)), (3, .int x1)] []) : ∀ (x1 : Int32) (u : vL), fL_law_1084 xs L rec_18 x1 u = some () → vV p l e room_1 s m args below meth c A D 8 600000 7302249 Q (wX q0 qs qo qt qv qr qx ql ad qh cI cF cC cS cO u.1 ++ wR q cI u.2) 1084 [(0, .ref b), (1, .ref (q0 0)), (2, .ref (q 0)), (3, .int x1)] [] := by
  intro x1 u h
  rw [fL_law_1084] at h
  refine vi_aload_n C 1 dL_law_1084 rfl ?_
  obtain ⟨y2, u1b, hgu1, h⟩ := ob_p h
  obtain ⟨u1, eu1, h⟩ := ob_nm h
  refine cL_X_i (As := []) (rest := []) C (mX7_read C.2.2.2.2.2.2.2.2.1 hgu1) 0 rfl tcX7_read tlL_153 tiX7_read tsX7_read rfl tnX7 tdX7_read ⟨Nat.le_of_ble_eq_true rfl, Nat.le_of_ble_eq_true rfl⟩ eu1 rfl (Nat.le_of_ble_eq_true rfl) dL_law_1085 ?_
  refine vi_aload_n C 2 dL_law_1088 rfl ?_
  obtain ⟨y4, u3b, hgu3, h⟩ := ob_p h
  obtain ⟨u3, eu3, h⟩ := ob_nm h
  refine cL_R_i (As := []) (rest := [.int y2]) C (mX8_read C.2.2.2.2.2.2.2.2.1 hgu3) 0 rfl tcX8_read tlL_156 tiX8_read tsX8_read rfl tnX8 tdX8_read ⟨Nat.le_of_ble_eq_true rfl, Nat.le_of_ble_eq_true rfl⟩ eu3 rfl (Nat.le_of_ble_eq_true rfl) dL_law_1089 ?_
  refine vi_icmp_eq (tgt := 1198) C dL_law_1092 (by decide) (fun hc5 => ?_) (fun hc5 => ?_)
  · have h := ob_t h hc5
    refine vi_sub C [0, 1, 2, 3] rfl ?_
    exact kL_law_1198 C hX hbl hbA RET REC_18  _ _ h
  · have h := ob_f h hc5
    refine vi_iconst (v := 0) C dL_law_1095 (by decide) ?_
    cases h
def fL_law_1059 (xs : Nat → Int32) (L : Nat) (rec_18 : Int32 → vL → Option (Unit)) (x1 : Int32) (u : vL) : Option Unit := if x1 + (1 : Int32) < 0 ∨ L ≤ Int32.toNatClampNeg (x1 + (1 : Int32)) then none else obp (fX7_append ((Int32.toUInt32 (xs (Int32.toNatClampNeg (x1 + (1 : Int32)))) % 65536).toInt32) u.1) fun y3 u2b => bd ((u2b, u.2)) fun u2 => if x1 + (1 : Int32) < 0 ∨ L ≤ Int32.toNatClampNeg (x1 + (1 : Int32)) then none else obp (fX8_append ((Int32.toUInt32 (xs (Int32.toNatClampNeg (x1 + (1 : Int32)))) % 65536).toInt32) u2.2) fun y6 u5b => bd ((u2.1, u5b)) fun u5 => (if y3 = y6 then fL_law_1198 xs L rec_18 x1 u5 else none)
set_option maxRecDepth 100000 in
set_option maxHeartbeats 8000000 in
theorem kL_law_1059 {ad adK adV : Nat → Nat} {tS tF : Nat} {p : Program} {l : Launch} {e : Env} {s : State} {m : MethodId} {args : Array Value} {below : List Frame} {meth : Method} {c : Code} {A : Nat → Prop} {D : va_G} {cI cF cC cS cO : ClassId} {Q : State → Prop} {q0 qs qo qt qv qr qx ql q : Nat → Nat} {qh : Nat → Nat → Nat} {b L : Nat} {xs : Nat → Int32} (C : vC (vE ad adK adV tS tF) p l s m args meth c A D (vT5 cI cF cC cS cO) cL_law 8 RL) (hX : va_X b L xs s s.heap) (hbl : b < s.heap.size) (hbA : ¬ A b) (RET : ∀ (u : vL) (pc : Nat) (lv : List (Nat × Value)), decode cL_law pc = .ok (.ireturn, 1) → vV p l e room_1 s m args below meth c A D 8 600000 7302249 Q (wX q0 qs qo qt qv qr qx ql ad qh cI cF cC cS cO u.1 ++ wR q cI u.2) pc lv [.int 1]) {rec_18 : Int32 → vL → Option (Unit)} (REC_18 : ∀ (x1 : Int32) (u : vL), rec_18 x1 u = some () → vV p l e room_1 s m args below meth c A D 8 600000 7302249 Q (wX q0 qs qo qt qv qr qx ql ad qh cI cF cC cS cO u.1 ++ wR q cI u.2) 18 [(0, .ref b), (1, .ref (q0 0)), (2, .ref (q 0)), (3, .int x1)] []) : ∀ (x1 : Int32) (u : vL), fL_law_1059 xs L rec_18 x1 u = some () → vV p l e room_1 s m args below meth c A D 8 600000 7302249 Q (wX q0 qs qo qt qv qr qx ql ad qh cI cF cC cS cO u.1 ++ wR q cI u.2) 1059 [(0, .ref b), (1, .ref (q0 0)), (2, .ref (q 0)), (3, .int x1)] [] := by
  intro x1 u h
  rw [fL_law_1059] at h
  refine vi_aload_n C 1 dL_law_1059 rfl ?_
  refine vi_aload_n C 0 dL_law_1060 rfl ?_
  refine vi_iload_n C 3 dL_law_1061 rfl ?_
  refine vi_iconst (v := 1) C dL_law_1062 (by decide) ?_
  refine vi_iadd C dL_law_1063 ?_
  obtain ⟨hz1, h⟩ := ob_if h
  refine vi_sld C hX hbl hbA hz1 dL_law_1064 ?_
  refine vi_i2c C dL_law_1065 ?_
  obtain ⟨y3, u2b, hgu2, h⟩ := ob_p h
  obtain ⟨u2, eu2, h⟩ := ob_nm h
  refine cL_X_i (As := [.int ((Int32.toUInt32 (xs (Int32.toNatClampNeg (x1 + (1 : Int32)))) % 65536).toInt32)]) (rest := []) C (mX7_append C.2.2.2.2.2.2.2.2.1 hgu2) 1 rfl tcX7_append tlL_148 tiX7_append tsX7_append rfl tnX7 tdX7_append ⟨Nat.le_of_ble_eq_true rfl, Nat.le_of_ble_eq_true rfl⟩ eu2 rfl (Nat.le_of_ble_eq_true rfl) dL_law_1066 ?_
  refine vi_aload_n C 2 dL_law_1069 rfl ?_
  refine vi_aload_n C 0 dL_law_1070 rfl ?_
  refine vi_iload_n C 3 dL_law_1071 rfl ?_
  refine vi_iconst (v := 1) C dL_law_1072 (by decide) ?_
  refine vi_iadd C dL_law_1073 ?_
  obtain ⟨hz4, h⟩ := ob_if h
  refine vi_sld C hX hbl hbA hz4 dL_law_1074 ?_
  refine vi_i2c C dL_law_1075 ?_
  obtain ⟨y6, u5b, hgu5, h⟩ := ob_p h
  obtain ⟨u5, eu5, h⟩ := ob_nm h
  refine cL_R_i (As := [.int ((Int32.toUInt32 (xs (Int32.toNatClampNeg (x1 + (1 : Int32)))) % 65536).toInt32)]) (rest := [.int y3]) C (mX8_append C.2.2.2.2.2.2.2.2.1 hgu5) 1 rfl tcX8_append tlL_152 tiX8_append tsX8_append rfl tnX8 tdX8_append ⟨Nat.le_of_ble_eq_true rfl, Nat.le_of_ble_eq_true rfl⟩ eu5 rfl (Nat.le_of_ble_eq_true rfl) dL_law_1076 ?_
  refine vi_icmp_eq (tgt := 1198) C dL_law_1079 (by decide) (fun hc7 => ?_) (fun hc7 => ?_)
  · have h := ob_t h hc7
    refine vi_sub C [0, 1, 2, 3] rfl ?_
    exact kL_law_1198 C hX hbl hbA RET REC_18  _ _ h
  · have h := ob_f h hc7
    refine vi_iconst (v := 0) C dL_law_1082 (by decide) ?_
    cases h
def fL_law_1036 (xs : Nat → Int32) (L : Nat) (rec_18 : Int32 → vL → Option (Unit)) (x1 : Int32) (u : vL) : Option Unit := if x1 + (1 : Int32) < 0 ∨ L ≤ Int32.toNatClampNeg (x1 + (1 : Int32)) then none else obp (fX7_written (xs (Int32.toNatClampNeg (x1 + (1 : Int32)))) u.1) fun y3 u2b => bd ((u2b, u.2)) fun u2 => if x1 + (1 : Int32) < 0 ∨ L ≤ Int32.toNatClampNeg (x1 + (1 : Int32)) then none else obp (fX8_written (xs (Int32.toNatClampNeg (x1 + (1 : Int32)))) u2.2) fun y6 u5b => bd ((u2.1, u5b)) fun u5 => (if y3 = y6 then fL_law_1198 xs L rec_18 x1 u5 else none)
set_option maxRecDepth 100000 in
set_option maxHeartbeats 8000000 in
theorem kL_law_1036 {ad adK adV : Nat → Nat} {tS tF : Nat} {p : Program} {l : Launch} {e : Env} {s : State} {m : MethodId} {args : Array Value} {below : List Frame} {meth : Method} {c : Code} {A : Nat → Prop} {D : va_G} {cI cF cC cS cO : ClassId} {Q : State → Prop} {q0 qs qo qt qv qr qx ql q : Nat → Nat} {qh : Nat → Nat → Nat} {b L : Nat} {xs : Nat → Int32} (C : vC (vE ad adK adV tS tF) p l s m args meth c A D (vT5 cI cF cC cS cO) cL_law 8 RL) (hX : va_X b L xs s s.heap) (hbl : b < s.heap.size) (hbA : ¬ A b) (RET : ∀ (u : vL) (pc : Nat) (lv : List (Nat × Value)), decode cL_law pc = .ok (.ireturn, 1) → vV p l e room_1 s m args below meth c A D 8 600000 7302249 Q (wX q0 qs qo qt qv qr qx ql ad qh cI cF cC cS cO u.1 ++ wR q cI u.2) pc lv [.int 1]) {rec_18 : Int32 → vL → Option (Unit)} (REC_18 : ∀ (x1 : Int32) (u : vL), rec_18 x1 u = some () → vV p l e room_1 s m args below meth c A D 8 600000 7302249 Q (wX q0 qs qo qt qv qr qx ql ad qh cI cF cC cS cO u.1 ++ wR q cI u.2) 18 [(0, .ref b), (1, .ref (q0 0)), (2, .ref (q 0)), (3, .int x1)] []) : ∀ (x1 : Int32) (u : vL), fL_law_1036 xs L rec_18 x1 u = some () → vV p l e room_1 s m args below meth c A D 8 600000 7302249 Q (wX q0 qs qo qt qv qr qx ql ad qh cI cF cC cS cO u.1 ++ wR q cI u.2) 1036 [(0, .ref b), (1, .ref (q0 0)), (2, .ref (q 0)), (3, .int x1)] [] := by
  intro x1 u h
  rw [fL_law_1036] at h
  refine vi_aload_n C 1 dL_law_1036 rfl ?_
  refine vi_aload_n C 0 dL_law_1037 rfl ?_
  refine vi_iload_n C 3 dL_law_1038 rfl ?_
  refine vi_iconst (v := 1) C dL_law_1039 (by decide) ?_
  refine vi_iadd C dL_law_1040 ?_
  obtain ⟨hz1, h⟩ := ob_if h
  refine vi_sld C hX hbl hbA hz1 dL_law_1041 ?_
  obtain ⟨y3, u2b, hgu2, h⟩ := ob_p h
  obtain ⟨u2, eu2, h⟩ := ob_nm h
  refine cL_X_i (As := [.int (xs (Int32.toNatClampNeg (x1 + (1 : Int32))))]) (rest := []) C (mX7_written C.2.2.2.2.2.2.2.2.1 hgu2) 1 rfl tcX7_written tlL_144 tiX7_written tsX7_written rfl tnX7 tdX7_written ⟨Nat.le_of_ble_eq_true rfl, Nat.le_of_ble_eq_true rfl⟩ eu2 rfl (Nat.le_of_ble_eq_true rfl) dL_law_1042 ?_
  refine vi_aload_n C 2 dL_law_1045 rfl ?_
  refine vi_aload_n C 0 dL_law_1046 rfl ?_
  refine vi_iload_n C 3 dL_law_1047 rfl ?_
  refine vi_iconst (v := 1) C dL_law_1048 (by decide) ?_
  refine vi_iadd C dL_law_1049 ?_
  obtain ⟨hz4, h⟩ := ob_if h
  refine vi_sld C hX hbl hbA hz4 dL_law_1050 ?_
  obtain ⟨y6, u5b, hgu5, h⟩ := ob_p h
  obtain ⟨u5, eu5, h⟩ := ob_nm h
  refine cL_R_i (As := [.int (xs (Int32.toNatClampNeg (x1 + (1 : Int32))))]) (rest := [.int y3]) C (mX8_written C.2.2.2.2.2.2.2.2.1 hgu5) 1 rfl tcX8_written tlL_147 tiX8_written tsX8_written rfl tnX8 tdX8_written ⟨Nat.le_of_ble_eq_true rfl, Nat.le_of_ble_eq_true rfl⟩ eu5 rfl (Nat.le_of_ble_eq_true rfl) dL_law_1051 ?_
  refine vi_icmp_eq (tgt := 1198) C dL_law_1054 (by decide) (fun hc7 => ?_) (fun hc7 => ?_)
  · have h := ob_t h hc7
    refine vi_sub C [0, 1, 2, 3] rfl ?_
    exact kL_law_1198 C hX hbl hbA RET REC_18  _ _ h
  · have h := ob_f h hc7
    refine vi_iconst (v := 0) C dL_law_1057 (by decide) ?_
    cases h
def fL_law_1023 (xs : Nat → Int32) (L : Nat) (rec_18 : Int32 → vL → Option (Unit)) (x1 : Int32) (u : vL) : Option Unit := obp (fX7_writeLog u.1) fun y2 u1b => bd ((u1b, u.2)) fun u1 => obp (fX8_writeLog u1.2) fun y4 u3b => bd ((u1.1, u3b)) fun u3 => (if y2 = y4 then fL_law_1198 xs L rec_18 x1 u3 else none)
set_option maxRecDepth 100000 in
set_option maxHeartbeats 8000000 in
theorem kL_law_1023 {ad adK adV : Nat → Nat} {tS tF : Nat} {p : Program} {l : Launch} {e : Env} {s : State} {m : MethodId} {args : Array Value} {below : List Frame} {meth : Method} {c : Code} {A : Nat → Prop} {D : va_G} {cI cF cC cS cO : ClassId} {Q : State → Prop} {q0 qs qo qt qv qr qx ql q : Nat → Nat} {qh : Nat → Nat → Nat} {b L : Nat} {xs : Nat → Int32} (C : vC (vE ad adK adV tS tF) p l s m args meth c A D (vT5 cI cF cC cS cO) cL_law 8 RL) (hX : va_X b L xs s s.heap) (hbl : b < s.heap.size) (hbA : ¬ A b) (RET : ∀ (u : vL) (pc : Nat) (lv : List (Nat × Value)), decode cL_law pc = .ok (.ireturn, 1) → vV p l e room_1 s m args below meth c A D 8 600000 7302249 Q (wX q0 qs qo qt qv qr qx ql ad qh cI cF cC cS cO u.1 ++ wR q cI u.2) pc lv [.int 1]) {rec_18 : Int32 → vL → Option (Unit)} (REC_18 : ∀ (x1 : Int32) (u : vL), rec_18 x1 u = some () → vV p l e room_1 s m args below meth c A D 8 600000 7302249 Q (wX q0 qs qo qt qv qr qx ql ad qh cI cF cC cS cO u.1 ++ wR q cI u.2) 18 [(0, .ref b), (1, .ref (q0 0)), (2, .ref (q 0)), (3, .int x1)] []) : ∀ (x1 : Int32) (u : vL), fL_law_1023 xs L rec_18 x1 u = some () → vV p l e room_1 s m args below meth c A D 8 600000 7302249 Q (wX q0 qs qo qt qv qr qx ql ad qh cI cF cC cS cO u.1 ++ wR q cI u.2) 1023 [(0, .ref b), (1, .ref (q0 0)), (2, .ref (q 0)), (3, .int x1)] [] := by
  intro x1 u h
  rw [fL_law_1023] at h
  refine vi_aload_n C 1 dL_law_1023 rfl ?_
  obtain ⟨y2, u1b, hgu1, h⟩ := ob_p h
  obtain ⟨u1, eu1, h⟩ := ob_nm h
  refine cL_X_i (As := []) (rest := []) C (mX7_writeLog C.2.2.2.2.2.2.2.2.1 hgu1) 0 rfl tcX7_writeLog tlL_140 tiX7_writeLog tsX7_writeLog rfl tnX7 tdX7_writeLog ⟨Nat.le_of_ble_eq_true rfl, Nat.le_of_ble_eq_true rfl⟩ eu1 rfl (Nat.le_of_ble_eq_true rfl) dL_law_1024 ?_
  refine vi_aload_n C 2 dL_law_1027 rfl ?_
  obtain ⟨y4, u3b, hgu3, h⟩ := ob_p h
  obtain ⟨u3, eu3, h⟩ := ob_nm h
  refine cL_R_i (As := []) (rest := [.int y2]) C (mX8_writeLog C.2.2.2.2.2.2.2.2.1 hgu3) 0 rfl tcX8_writeLog tlL_143 tiX8_writeLog tsX8_writeLog rfl tnX8 tdX8_writeLog ⟨Nat.le_of_ble_eq_true rfl, Nat.le_of_ble_eq_true rfl⟩ eu3 rfl (Nat.le_of_ble_eq_true rfl) dL_law_1028 ?_
  refine vi_icmp_eq (tgt := 1198) C dL_law_1031 (by decide) (fun hc5 => ?_) (fun hc5 => ?_)
  · have h := ob_t h hc5
    refine vi_sub C [0, 1, 2, 3] rfl ?_
    exact kL_law_1198 C hX hbl hbA RET REC_18  _ _ h
  · have h := ob_f h hc5
    refine vi_iconst (v := 0) C dL_law_1034 (by decide) ?_
    cases h
def fL_law_1000 (xs : Nat → Int32) (L : Nat) (rec_18 : Int32 → vL → Option (Unit)) (x1 : Int32) (u : vL) : Option Unit := if x1 + (1 : Int32) < 0 ∨ L ≤ Int32.toNatClampNeg (x1 + (1 : Int32)) then none else obp (fX7_write (xs (Int32.toNatClampNeg (x1 + (1 : Int32)))) u.1) fun y3 u2b => bd ((u2b, u.2)) fun u2 => if x1 + (1 : Int32) < 0 ∨ L ≤ Int32.toNatClampNeg (x1 + (1 : Int32)) then none else obp (fX8_write (xs (Int32.toNatClampNeg (x1 + (1 : Int32)))) u2.2) fun y6 u5b => bd ((u2.1, u5b)) fun u5 => (if y3 = y6 then fL_law_1198 xs L rec_18 x1 u5 else none)
set_option maxRecDepth 100000 in
set_option maxHeartbeats 8000000 in
theorem kL_law_1000 {ad adK adV : Nat → Nat} {tS tF : Nat} {p : Program} {l : Launch} {e : Env} {s : State} {m : MethodId} {args : Array Value} {below : List Frame} {meth : Method} {c : Code} {A : Nat → Prop} {D : va_G} {cI cF cC cS cO : ClassId} {Q : State → Prop} {q0 qs qo qt qv qr qx ql q : Nat → Nat} {qh : Nat → Nat → Nat} {b L : Nat} {xs : Nat → Int32} (C : vC (vE ad adK adV tS tF) p l s m args meth c A D (vT5 cI cF cC cS cO) cL_law 8 RL) (hX : va_X b L xs s s.heap) (hbl : b < s.heap.size) (hbA : ¬ A b) (RET : ∀ (u : vL) (pc : Nat) (lv : List (Nat × Value)), decode cL_law pc = .ok (.ireturn, 1) → vV p l e room_1 s m args below meth c A D 8 600000 7302249 Q (wX q0 qs qo qt qv qr qx ql ad qh cI cF cC cS cO u.1 ++ wR q cI u.2) pc lv [.int 1]) {rec_18 : Int32 → vL → Option (Unit)} (REC_18 : ∀ (x1 : Int32) (u : vL), rec_18 x1 u = some () → vV p l e room_1 s m args below meth c A D 8 600000 7302249 Q (wX q0 qs qo qt qv qr qx ql ad qh cI cF cC cS cO u.1 ++ wR q cI u.2) 18 [(0, .ref b), (1, .ref (q0 0)), (2, .ref (q 0)), (3, .int x1)] []) : ∀ (x1 : Int32) (u : vL), fL_law_1000 xs L rec_18 x1 u = some () → vV p l e room_1 s m args below meth c A D 8 600000 7302249 Q (wX q0 qs qo qt qv qr qx ql ad qh cI cF cC cS cO u.1 ++ wR q cI u.2) 1000 [(0, .ref b), (1, .ref (q0 0)), (2, .ref (q 0)), (3, .int x1)] [] := by
  intro x1 u h
  rw [fL_law_1000] at h
  refine vi_aload_n C 1 dL_law_1000 rfl ?_
  refine vi_aload_n C 0 dL_law_1001 rfl ?_
  refine vi_iload_n C 3 dL_law_1002 rfl ?_
  refine vi_iconst (v := 1) C dL_law_1003 (by decide) ?_
  refine vi_iadd C dL_law_1004 ?_
  obtain ⟨hz1, h⟩ := ob_if h
  refine vi_sld C hX hbl hbA hz1 dL_law_1005 ?_
  obtain ⟨y3, u2b, hgu2, h⟩ := ob_p h
  obtain ⟨u2, eu2, h⟩ := ob_nm h
  refine cL_X_i (As := [.int (xs (Int32.toNatClampNeg (x1 + (1 : Int32))))]) (rest := []) C (mX7_write C.2.2.2.2.2.2.2.2.1 hgu2) 1 rfl tcX7_write tlL_136 tiX7_write tsX7_write rfl tnX7 tdX7_write ⟨Nat.le_of_ble_eq_true rfl, Nat.le_of_ble_eq_true rfl⟩ eu2 rfl (Nat.le_of_ble_eq_true rfl) dL_law_1006 ?_
  refine vi_aload_n C 2 dL_law_1009 rfl ?_
  refine vi_aload_n C 0 dL_law_1010 rfl ?_
  refine vi_iload_n C 3 dL_law_1011 rfl ?_
  refine vi_iconst (v := 1) C dL_law_1012 (by decide) ?_
  refine vi_iadd C dL_law_1013 ?_
  obtain ⟨hz4, h⟩ := ob_if h
  refine vi_sld C hX hbl hbA hz4 dL_law_1014 ?_
  obtain ⟨y6, u5b, hgu5, h⟩ := ob_p h
  obtain ⟨u5, eu5, h⟩ := ob_nm h
  refine cL_R_i (As := [.int (xs (Int32.toNatClampNeg (x1 + (1 : Int32))))]) (rest := [.int y3]) C (mX8_write C.2.2.2.2.2.2.2.2.1 hgu5) 1 rfl tcX8_write tlL_139 tiX8_write tsX8_write rfl tnX8 tdX8_write ⟨Nat.le_of_ble_eq_true rfl, Nat.le_of_ble_eq_true rfl⟩ eu5 rfl (Nat.le_of_ble_eq_true rfl) dL_law_1015 ?_
  refine vi_icmp_eq (tgt := 1198) C dL_law_1018 (by decide) (fun hc7 => ?_) (fun hc7 => ?_)
  · have h := ob_t h hc7
    refine vi_sub C [0, 1, 2, 3] rfl ?_
    exact kL_law_1198 C hX hbl hbA RET REC_18  _ _ h
  · have h := ob_f h hc7
    refine vi_iconst (v := 0) C dL_law_1021 (by decide) ?_
    cases h
def fL_law_977 (xs : Nat → Int32) (L : Nat) (rec_18 : Int32 → vL → Option (Unit)) (x1 : Int32) (u : vL) : Option Unit := if x1 + (1 : Int32) < 0 ∨ L ≤ Int32.toNatClampNeg (x1 + (1 : Int32)) then none else obp (fX7_account (xs (Int32.toNatClampNeg (x1 + (1 : Int32)))) u.1) fun y3 u2b => bd ((u2b, u.2)) fun u2 => if x1 + (1 : Int32) < 0 ∨ L ≤ Int32.toNatClampNeg (x1 + (1 : Int32)) then none else obp (fX8_account (xs (Int32.toNatClampNeg (x1 + (1 : Int32)))) u2.2) fun y6 u5b => bd ((u2.1, u5b)) fun u5 => (if y3 = y6 then fL_law_1198 xs L rec_18 x1 u5 else none)
set_option maxRecDepth 100000 in
set_option maxHeartbeats 8000000 in
theorem kL_law_977 {ad adK adV : Nat → Nat} {tS tF : Nat} {p : Program} {l : Launch} {e : Env} {s : State} {m : MethodId} {args : Array Value} {below : List Frame} {meth : Method} {c : Code} {A : Nat → Prop} {D : va_G} {cI cF cC cS cO : ClassId} {Q : State → Prop} {q0 qs qo qt qv qr qx ql q : Nat → Nat} {qh : Nat → Nat → Nat} {b L : Nat} {xs : Nat → Int32} (C : vC (vE ad adK adV tS tF) p l s m args meth c A D (vT5 cI cF cC cS cO) cL_law 8 RL) (hX : va_X b L xs s s.heap) (hbl : b < s.heap.size) (hbA : ¬ A b) (RET : ∀ (u : vL) (pc : Nat) (lv : List (Nat × Value)), decode cL_law pc = .ok (.ireturn, 1) → vV p l e room_1 s m args below meth c A D 8 600000 7302249 Q (wX q0 qs qo qt qv qr qx ql ad qh cI cF cC cS cO u.1 ++ wR q cI u.2) pc lv [.int 1]) {rec_18 : Int32 → vL → Option (Unit)} (REC_18 : ∀ (x1 : Int32) (u : vL), rec_18 x1 u = some () → vV p l e room_1 s m args below meth c A D 8 600000 7302249 Q (wX q0 qs qo qt qv qr qx ql ad qh cI cF cC cS cO u.1 ++ wR q cI u.2) 18 [(0, .ref b), (1, .ref (q0 0)), (2, .ref (q 0)), (3, .int x1)] []) : ∀ (x1 : Int32) (u : vL), fL_law_977 xs L rec_18 x1 u = some () → vV p l e room_1 s m args below meth c A D 8 600000 7302249 Q (wX q0 qs qo qt qv qr qx ql ad qh cI cF cC cS cO u.1 ++ wR q cI u.2) 977 [(0, .ref b), (1, .ref (q0 0)), (2, .ref (q 0)), (3, .int x1)] [] := by
  intro x1 u h
  rw [fL_law_977] at h
  refine vi_aload_n C 1 dL_law_977 rfl ?_
  refine vi_aload_n C 0 dL_law_978 rfl ?_
  refine vi_iload_n C 3 dL_law_979 rfl ?_
  refine vi_iconst (v := 1) C dL_law_980 (by decide) ?_
  refine vi_iadd C dL_law_981 ?_
  obtain ⟨hz1, h⟩ := ob_if h
  refine vi_sld C hX hbl hbA hz1 dL_law_982 ?_
  obtain ⟨y3, u2b, hgu2, h⟩ := ob_p h
  obtain ⟨u2, eu2, h⟩ := ob_nm h
  refine cL_X_i (As := [.int (xs (Int32.toNatClampNeg (x1 + (1 : Int32))))]) (rest := []) C (mX7_account C.2.2.2.2.2.2.2.2.1 hgu2) 1 rfl tcX7_account tlL_132 tiX7_account tsX7_account rfl tnX7 tdX7_account ⟨Nat.le_of_ble_eq_true rfl, Nat.le_of_ble_eq_true rfl⟩ eu2 rfl (Nat.le_of_ble_eq_true rfl) dL_law_983 ?_
  refine vi_aload_n C 2 dL_law_986 rfl ?_
  refine vi_aload_n C 0 dL_law_987 rfl ?_
  refine vi_iload_n C 3 dL_law_988 rfl ?_
  refine vi_iconst (v := 1) C dL_law_989 (by decide) ?_
  refine vi_iadd C dL_law_990 ?_
  obtain ⟨hz4, h⟩ := ob_if h
  refine vi_sld C hX hbl hbA hz4 dL_law_991 ?_
  obtain ⟨y6, u5b, hgu5, h⟩ := ob_p h
  obtain ⟨u5, eu5, h⟩ := ob_nm h
  refine cL_R_i (As := [.int (xs (Int32.toNatClampNeg (x1 + (1 : Int32))))]) (rest := [.int y3]) C (mX8_account C.2.2.2.2.2.2.2.2.1 hgu5) 1 rfl tcX8_account tlL_135 tiX8_account tsX8_account rfl tnX8 tdX8_account ⟨Nat.le_of_ble_eq_true rfl, Nat.le_of_ble_eq_true rfl⟩ eu5 rfl (Nat.le_of_ble_eq_true rfl) dL_law_992 ?_
  refine vi_icmp_eq (tgt := 1198) C dL_law_995 (by decide) (fun hc7 => ?_) (fun hc7 => ?_)
  · have h := ob_t h hc7
    refine vi_sub C [0, 1, 2, 3] rfl ?_
    exact kL_law_1198 C hX hbl hbA RET REC_18  _ _ h
  · have h := ob_f h hc7
    refine vi_iconst (v := 0) C dL_law_998 (by decide) ?_
    cases h
def fL_law_936 (xs : Nat → Int32) (L : Nat) (rec_18 : Int32 → vL → Option (Unit)) (x1 : Int32) (u : vL) : Option Unit := obp (fX7_meanAngle u.1) fun y2 u1b => bd ((u1b, u.2)) fun u1 => obp (fX8_meanAngle u1.2) fun y4 u3b => bd ((u1.1, u3b)) fun u3 => (if Op.cmpValue (FP.dcmp y2 y4) CmpOp.l = 0 then fL_law_1198 xs L rec_18 x1 u3 else (if Op.cmpValue (FP.dcmp y2 y2) CmpOp.l = 0 then none else (if Op.cmpValue (FP.dcmp y4 y4) CmpOp.l = 0 then none else fL_law_1198 xs L rec_18 x1 u3)))
set_option maxRecDepth 100000 in
set_option maxHeartbeats 8000000 in
theorem kL_law_936 {ad adK adV : Nat → Nat} {tS tF : Nat} {p : Program} {l : Launch} {e : Env} {s : State} {m : MethodId} {args : Array Value} {below : List Frame} {meth : Method} {c : Code} {A : Nat → Prop} {D : va_G} {cI cF cC cS cO : ClassId} {Q : State → Prop} {q0 qs qo qt qv qr qx ql q : Nat → Nat} {qh : Nat → Nat → Nat} {b L : Nat} {xs : Nat → Int32} (C : vC (vE ad adK adV tS tF) p l s m args meth c A D (vT5 cI cF cC cS cO) cL_law 8 RL) (hX : va_X b L xs s s.heap) (hbl : b < s.heap.size) (hbA : ¬ A b) (RET : ∀ (u : vL) (pc : Nat) (lv : List (Nat × Value)), decode cL_law pc = .ok (.ireturn, 1) → vV p l e room_1 s m args below meth c A D 8 600000 7302249 Q (wX q0 qs qo qt qv qr qx ql ad qh cI cF cC cS cO u.1 ++ wR q cI u.2) pc lv [.int 1]) {rec_18 : Int32 → vL → Option (Unit)} (REC_18 : ∀ (x1 : Int32) (u : vL), rec_18 x1 u = some () → vV p l e room_1 s m args below meth c A D 8 600000 7302249 Q (wX q0 qs qo qt qv qr qx ql ad qh cI cF cC cS cO u.1 ++ wR q cI u.2) 18 [(0, .ref b), (1, .ref (q0 0)), (2, .ref (q 0)), (3, .int x1)] []) : ∀ (x1 : Int32) (u : vL), fL_law_936 xs L rec_18 x1 u = some () → vV p l e room_1 s m args below meth c A D 8 600000 7302249 Q (wX q0 qs qo qt qv qr qx ql ad qh cI cF cC cS cO u.1 ++ wR q cI u.2) 936 [(0, .ref b), (1, .ref (q0 0)), (2, .ref (q 0)), (3, .int x1)] [] := by
  intro x1 u h
  rw [fL_law_936] at h
  refine vi_aload_n C 1 dL_law_936 rfl ?_
  obtain ⟨y2, u1b, hgu1, h⟩ := ob_p h
  obtain ⟨u1, eu1, h⟩ := ob_nm h
  refine cL_X_d (As := []) (rest := []) C (mX7_meanAngle C.2.2.2.2.2.2.2.2.1 hgu1) 0 rfl tcX7_meanAngle tlL_127 tiX7_meanAngle tsX7_meanAngle rfl tnX7 tdX7_meanAngle ⟨Nat.le_of_ble_eq_true rfl, Nat.le_of_ble_eq_true rfl⟩ eu1 rfl (Nat.le_of_ble_eq_true rfl) dL_law_937 ?_
  refine vi_dstore (lv' := [(4, .double y2), (0, .ref b), (1, .ref (q0 0)), (2, .ref (q 0)), (3, .int x1)]) C dL_law_940 (by decide) rfl ?_
  refine vi_aload_n C 3 dL_law_942 rfl ?_
  obtain ⟨y4, u3b, hgu3, h⟩ := ob_p h
  obtain ⟨u3, eu3, h⟩ := ob_nm h
  refine cL_R_d (As := []) (rest := []) C (mX8_meanAngle C.2.2.2.2.2.2.2.2.1 hgu3) 0 rfl tcX8_meanAngle tlL_131 tiX8_meanAngle tsX8_meanAngle rfl tnX8 tdX8_meanAngle ⟨Nat.le_of_ble_eq_true rfl, Nat.le_of_ble_eq_true rfl⟩ eu3 rfl (Nat.le_of_ble_eq_true rfl) dL_law_943 ?_
  refine vi_dstore (lv' := [(6, .double y4), (4, .double y2), (0, .ref b), (1, .ref (q0 0)), (2, .ref (q 0)), (3, .int x1)]) C dL_law_946 (by decide) rfl ?_
  refine vi_dload C 1 dL_law_948 rfl ?_
  refine vi_dload C 0 dL_law_950 rfl ?_
  refine vi_dcmp C dL_law_952 ?_
  refine vi_if_eq (tgt := 974) C dL_law_953 (by decide) (fun hc5 => ?_) (fun hc5 => ?_)
  · have h := ob_t h hc5
    refine vi_goto (tgt := 1198) C dL_law_974 (by decide) ?_
    refine vi_sub C [2, 3, 4, 5] rfl ?_
    exact kL_law_1198 C hX hbl hbA RET REC_18  _ _ h
  · have h := ob_f h hc5
    refine vi_dload C 1 dL_law_956 rfl ?_
    refine vi_dload C 1 dL_law_958 rfl ?_
    refine vi_dcmp C dL_law_960 ?_
    refine vi_if_eq (tgt := 972) C dL_law_961 (by decide) (fun hc6 => ?_) (fun hc6 => ?_)
    · have h := ob_t h hc6
      refine vi_iconst (v := 0) C dL_law_972 (by decide) ?_
      cases h
    · have h := ob_f h hc6
      refine vi_dload C 0 dL_law_964 rfl ?_
      refine vi_dload C 0 dL_law_966 rfl ?_
      refine vi_dcmp C dL_law_968 ?_
      refine vi_if_ne (tgt := 974) C dL_law_969 (by decide) (fun hc7 => ?_) (fun hc7 => ?_)
      · have h := ob_f h hc7
        refine vi_goto (tgt := 1198) C dL_law_974 (by decide) ?_
        refine vi_sub C [2, 3, 4, 5] rfl ?_
        exact kL_law_1198 C hX hbl hbA RET REC_18  _ _ h
      · have h := ob_t h hc7
        refine vi_iconst (v := 0) C dL_law_972 (by decide) ?_
        cases h
def fL_law_923 (xs : Nat → Int32) (L : Nat) (rec_18 : Int32 → vL → Option (Unit)) (x1 : Int32) (u : vL) : Option Unit := obp (fX7_isCounted u.1) fun y2 u1b => bd ((u1b, u.2)) fun u1 => obp (fX8_isCounted u1.2) fun y4 u3b => bd ((u1.1, u3b)) fun u3 => (if y2 = y4 then fL_law_1198 xs L rec_18 x1 u3 else none)
set_option maxRecDepth 100000 in
set_option maxHeartbeats 8000000 in
theorem kL_law_923 {ad adK adV : Nat → Nat} {tS tF : Nat} {p : Program} {l : Launch} {e : Env} {s : State} {m : MethodId} {args : Array Value} {below : List Frame} {meth : Method} {c : Code} {A : Nat → Prop} {D : va_G} {cI cF cC cS cO : ClassId} {Q : State → Prop} {q0 qs qo qt qv qr qx ql q : Nat → Nat} {qh : Nat → Nat → Nat} {b L : Nat} {xs : Nat → Int32} (C : vC (vE ad adK adV tS tF) p l s m args meth c A D (vT5 cI cF cC cS cO) cL_law 8 RL) (hX : va_X b L xs s s.heap) (hbl : b < s.heap.size) (hbA : ¬ A b) (RET : ∀ (u : vL) (pc : Nat) (lv : List (Nat × Value)), decode cL_law pc = .ok (.ireturn, 1) → vV p l e room_1 s m args below meth c A D 8 600000 7302249 Q (wX q0 qs qo qt qv qr qx ql ad qh cI cF cC cS cO u.1 ++ wR q cI u.2) pc lv [.int 1]) {rec_18 : Int32 → vL → Option (Unit)} (REC_18 : ∀ (x1 : Int32) (u : vL), rec_18 x1 u = some () → vV p l e room_1 s m args below meth c A D 8 600000 7302249 Q (wX q0 qs qo qt qv qr qx ql ad qh cI cF cC cS cO u.1 ++ wR q cI u.2) 18 [(0, .ref b), (1, .ref (q0 0)), (2, .ref (q 0)), (3, .int x1)] []) : ∀ (x1 : Int32) (u : vL), fL_law_923 xs L rec_18 x1 u = some () → vV p l e room_1 s m args below meth c A D 8 600000 7302249 Q (wX q0 qs qo qt qv qr qx ql ad qh cI cF cC cS cO u.1 ++ wR q cI u.2) 923 [(0, .ref b), (1, .ref (q0 0)), (2, .ref (q 0)), (3, .int x1)] [] := by
  intro x1 u h
  rw [fL_law_923] at h
  refine vi_aload_n C 1 dL_law_923 rfl ?_
  obtain ⟨y2, u1b, hgu1, h⟩ := ob_p h
  obtain ⟨u1, eu1, h⟩ := ob_nm h
  refine cL_X_i (As := []) (rest := []) C (mX7_isCounted C.2.2.2.2.2.2.2.2.1 hgu1) 0 rfl tcX7_isCounted tlL_122 tiX7_isCounted tsX7_isCounted rfl tnX7 tdX7_isCounted ⟨Nat.le_of_ble_eq_true rfl, Nat.le_of_ble_eq_true rfl⟩ eu1 rfl (Nat.le_of_ble_eq_true rfl) dL_law_924 ?_
  refine vi_aload_n C 2 dL_law_927 rfl ?_
  obtain ⟨y4, u3b, hgu3, h⟩ := ob_p h
  obtain ⟨u3, eu3, h⟩ := ob_nm h
  refine cL_R_i (As := []) (rest := [.int y2]) C (mX8_isCounted C.2.2.2.2.2.2.2.2.1 hgu3) 0 rfl tcX8_isCounted tlL_126 tiX8_isCounted tsX8_isCounted rfl tnX8 tdX8_isCounted ⟨Nat.le_of_ble_eq_true rfl, Nat.le_of_ble_eq_true rfl⟩ eu3 rfl (Nat.le_of_ble_eq_true rfl) dL_law_928 ?_
  refine vi_icmp_eq (tgt := 1198) C dL_law_931 (by decide) (fun hc5 => ?_) (fun hc5 => ?_)
  · have h := ob_t h hc5
    refine vi_sub C [0, 1, 2, 3] rfl ?_
    exact kL_law_1198 C hX hbl hbA RET REC_18  _ _ h
  · have h := ob_f h hc5
    refine vi_iconst (v := 0) C dL_law_934 (by decide) ?_
    cases h
def fL_law_909 (xs : Nat → Int32) (L : Nat) (rec_18 : Int32 → vL → Option (Unit)) (x1 : Int32) (u : vL) : Option Unit := obp (fX7_packed u.1) fun y2 u1b => bd ((u1b, u.2)) fun u1 => obp (fX8_packed u1.2) fun y4 u3b => bd ((u1.1, u3b)) fun u3 => (if lg_cmp y2 y4 = 0 then fL_law_1198 xs L rec_18 x1 u3 else none)
set_option maxRecDepth 100000 in
set_option maxHeartbeats 8000000 in
theorem kL_law_909 {ad adK adV : Nat → Nat} {tS tF : Nat} {p : Program} {l : Launch} {e : Env} {s : State} {m : MethodId} {args : Array Value} {below : List Frame} {meth : Method} {c : Code} {A : Nat → Prop} {D : va_G} {cI cF cC cS cO : ClassId} {Q : State → Prop} {q0 qs qo qt qv qr qx ql q : Nat → Nat} {qh : Nat → Nat → Nat} {b L : Nat} {xs : Nat → Int32} (C : vC (vE ad adK adV tS tF) p l s m args meth c A D (vT5 cI cF cC cS cO) cL_law 8 RL) (hX : va_X b L xs s s.heap) (hbl : b < s.heap.size) (hbA : ¬ A b) (RET : ∀ (u : vL) (pc : Nat) (lv : List (Nat × Value)), decode cL_law pc = .ok (.ireturn, 1) → vV p l e room_1 s m args below meth c A D 8 600000 7302249 Q (wX q0 qs qo qt qv qr qx ql ad qh cI cF cC cS cO u.1 ++ wR q cI u.2) pc lv [.int 1]) {rec_18 : Int32 → vL → Option (Unit)} (REC_18 : ∀ (x1 : Int32) (u : vL), rec_18 x1 u = some () → vV p l e room_1 s m args below meth c A D 8 600000 7302249 Q (wX q0 qs qo qt qv qr qx ql ad qh cI cF cC cS cO u.1 ++ wR q cI u.2) 18 [(0, .ref b), (1, .ref (q0 0)), (2, .ref (q 0)), (3, .int x1)] []) : ∀ (x1 : Int32) (u : vL), fL_law_909 xs L rec_18 x1 u = some () → vV p l e room_1 s m args below meth c A D 8 600000 7302249 Q (wX q0 qs qo qt qv qr qx ql ad qh cI cF cC cS cO u.1 ++ wR q cI u.2) 909 [(0, .ref b), (1, .ref (q0 0)), (2, .ref (q 0)), (3, .int x1)] [] := by
  intro x1 u h
  rw [fL_law_909] at h
  refine vi_aload_n C 1 dL_law_909 rfl ?_
  obtain ⟨y2, u1b, hgu1, h⟩ := ob_p h
  obtain ⟨u1, eu1, h⟩ := ob_nm h
  refine cL_X_l (As := []) (rest := []) C (mX7_packed C.2.2.2.2.2.2.2.2.1 hgu1) 0 rfl tcX7_packed tlL_117 tiX7_packed tsX7_packed rfl tnX7 tdX7_packed ⟨Nat.le_of_ble_eq_true rfl, Nat.le_of_ble_eq_true rfl⟩ eu1 rfl (Nat.le_of_ble_eq_true rfl) dL_law_910 ?_
  refine vi_aload_n C 2 dL_law_913 rfl ?_
  obtain ⟨y4, u3b, hgu3, h⟩ := ob_p h
  obtain ⟨u3, eu3, h⟩ := ob_nm h
  refine cL_R_l (As := []) (rest := [.long y2]) C (mX8_packed C.2.2.2.2.2.2.2.2.1 hgu3) 0 rfl tcX8_packed tlL_121 tiX8_packed tsX8_packed rfl tnX8 tdX8_packed ⟨Nat.le_of_ble_eq_true rfl, Nat.le_of_ble_eq_true rfl⟩ eu3 rfl (Nat.le_of_ble_eq_true rfl) dL_law_914 ?_
  refine vi_lcmp C dL_law_917 ?_
  refine vi_if_eq (tgt := 1198) C dL_law_918 (by decide) (fun hc5 => ?_) (fun hc5 => ?_)
  · have h := ob_t h hc5
    refine vi_sub C [0, 1, 2, 3] rfl ?_
    exact kL_law_1198 C hX hbl hbA RET REC_18  _ _ h
  · have h := ob_f h hc5
    refine vi_iconst (v := 0) C dL_law_921 (by decide) ?_
    cases h
def fL_law_886 (xs : Nat → Int32) (L : Nat) (rec_18 : Int32 → vL → Option (Unit)) (x1 : Int32) (u : vL) : Option Unit := if x1 + (1 : Int32) < 0 ∨ L ≤ Int32.toNatClampNeg (x1 + (1 : Int32)) then none else obp (fX7_ranked (xs (Int32.toNatClampNeg (x1 + (1 : Int32)))) u.1) fun y3 u2b => bd ((u2b, u.2)) fun u2 => if x1 + (1 : Int32) < 0 ∨ L ≤ Int32.toNatClampNeg (x1 + (1 : Int32)) then none else obp (fX8_ranked (xs (Int32.toNatClampNeg (x1 + (1 : Int32)))) u2.2) fun y6 u5b => bd ((u2.1, u5b)) fun u5 => (if y3 = y6 then fL_law_1198 xs L rec_18 x1 u5 else none)
set_option maxRecDepth 100000 in
set_option maxHeartbeats 8000000 in
theorem kL_law_886 {ad adK adV : Nat → Nat} {tS tF : Nat} {p : Program} {l : Launch} {e : Env} {s : State} {m : MethodId} {args : Array Value} {below : List Frame} {meth : Method} {c : Code} {A : Nat → Prop} {D : va_G} {cI cF cC cS cO : ClassId} {Q : State → Prop} {q0 qs qo qt qv qr qx ql q : Nat → Nat} {qh : Nat → Nat → Nat} {b L : Nat} {xs : Nat → Int32} (C : vC (vE ad adK adV tS tF) p l s m args meth c A D (vT5 cI cF cC cS cO) cL_law 8 RL) (hX : va_X b L xs s s.heap) (hbl : b < s.heap.size) (hbA : ¬ A b) (RET : ∀ (u : vL) (pc : Nat) (lv : List (Nat × Value)), decode cL_law pc = .ok (.ireturn, 1) → vV p l e room_1 s m args below meth c A D 8 600000 7302249 Q (wX q0 qs qo qt qv qr qx ql ad qh cI cF cC cS cO u.1 ++ wR q cI u.2) pc lv [.int 1]) {rec_18 : Int32 → vL → Option (Unit)} (REC_18 : ∀ (x1 : Int32) (u : vL), rec_18 x1 u = some () → vV p l e room_1 s m args below meth c A D 8 600000 7302249 Q (wX q0 qs qo qt qv qr qx ql ad qh cI cF cC cS cO u.1 ++ wR q cI u.2) 18 [(0, .ref b), (1, .ref (q0 0)), (2, .ref (q 0)), (3, .int x1)] []) : ∀ (x1 : Int32) (u : vL), fL_law_886 xs L rec_18 x1 u = some () → vV p l e room_1 s m args below meth c A D 8 600000 7302249 Q (wX q0 qs qo qt qv qr qx ql ad qh cI cF cC cS cO u.1 ++ wR q cI u.2) 886 [(0, .ref b), (1, .ref (q0 0)), (2, .ref (q 0)), (3, .int x1)] [] := by
  intro x1 u h
  rw [fL_law_886] at h
  refine vi_aload_n C 1 dL_law_886 rfl ?_
  refine vi_aload_n C 0 dL_law_887 rfl ?_
  refine vi_iload_n C 3 dL_law_888 rfl ?_
  refine vi_iconst (v := 1) C dL_law_889 (by decide) ?_
  refine vi_iadd C dL_law_890 ?_
  obtain ⟨hz1, h⟩ := ob_if h
  refine vi_sld C hX hbl hbA hz1 dL_law_891 ?_
  obtain ⟨y3, u2b, hgu2, h⟩ := ob_p h
  obtain ⟨u2, eu2, h⟩ := ob_nm h
  refine cL_X_i (As := [.int (xs (Int32.toNatClampNeg (x1 + (1 : Int32))))]) (rest := []) C (mX7_ranked C.2.2.2.2.2.2.2.2.1 hgu2) 1 rfl tcX7_ranked tlL_113 tiX7_ranked tsX7_ranked rfl tnX7 tdX7_ranked ⟨Nat.le_of_ble_eq_true rfl, Nat.le_of_ble_eq_true rfl⟩ eu2 rfl (Nat.le_of_ble_eq_true rfl) dL_law_892 ?_
  refine vi_aload_n C 2 dL_law_895 rfl ?_
  refine vi_aload_n C 0 dL_law_896 rfl ?_
  refine vi_iload_n C 3 dL_law_897 rfl ?_
  refine vi_iconst (v := 1) C dL_law_898 (by decide) ?_
  refine vi_iadd C dL_law_899 ?_
  obtain ⟨hz4, h⟩ := ob_if h
  refine vi_sld C hX hbl hbA hz4 dL_law_900 ?_
  obtain ⟨y6, u5b, hgu5, h⟩ := ob_p h
  obtain ⟨u5, eu5, h⟩ := ob_nm h
  refine cL_R_i (As := [.int (xs (Int32.toNatClampNeg (x1 + (1 : Int32))))]) (rest := [.int y3]) C (mX8_ranked C.2.2.2.2.2.2.2.2.1 hgu5) 1 rfl tcX8_ranked tlL_116 tiX8_ranked tsX8_ranked rfl tnX8 tdX8_ranked ⟨Nat.le_of_ble_eq_true rfl, Nat.le_of_ble_eq_true rfl⟩ eu5 rfl (Nat.le_of_ble_eq_true rfl) dL_law_901 ?_
  refine vi_icmp_eq (tgt := 1198) C dL_law_904 (by decide) (fun hc7 => ?_) (fun hc7 => ?_)
  · have h := ob_t h hc7
    refine vi_sub C [0, 1, 2, 3] rfl ?_
    exact kL_law_1198 C hX hbl hbA RET REC_18  _ _ h
  · have h := ob_f h hc7
    refine vi_iconst (v := 0) C dL_law_907 (by decide) ?_
    cases h
def fL_law_863 (xs : Nat → Int32) (L : Nat) (rec_18 : Int32 → vL → Option (Unit)) (x1 : Int32) (u : vL) : Option Unit := if x1 + (1 : Int32) < 0 ∨ L ≤ Int32.toNatClampNeg (x1 + (1 : Int32)) then none else obp (fX7_highest (xs (Int32.toNatClampNeg (x1 + (1 : Int32)))) u.1) fun y3 u2b => bd ((u2b, u.2)) fun u2 => if x1 + (1 : Int32) < 0 ∨ L ≤ Int32.toNatClampNeg (x1 + (1 : Int32)) then none else obp (fX8_highest (xs (Int32.toNatClampNeg (x1 + (1 : Int32)))) u2.2) fun y6 u5b => bd ((u2.1, u5b)) fun u5 => (if y3 = y6 then fL_law_1198 xs L rec_18 x1 u5 else none)
set_option maxRecDepth 100000 in
set_option maxHeartbeats 8000000 in
theorem kL_law_863 {ad adK adV : Nat → Nat} {tS tF : Nat} {p : Program} {l : Launch} {e : Env} {s : State} {m : MethodId} {args : Array Value} {below : List Frame} {meth : Method} {c : Code} {A : Nat → Prop} {D : va_G} {cI cF cC cS cO : ClassId} {Q : State → Prop} {q0 qs qo qt qv qr qx ql q : Nat → Nat} {qh : Nat → Nat → Nat} {b L : Nat} {xs : Nat → Int32} (C : vC (vE ad adK adV tS tF) p l s m args meth c A D (vT5 cI cF cC cS cO) cL_law 8 RL) (hX : va_X b L xs s s.heap) (hbl : b < s.heap.size) (hbA : ¬ A b) (RET : ∀ (u : vL) (pc : Nat) (lv : List (Nat × Value)), decode cL_law pc = .ok (.ireturn, 1) → vV p l e room_1 s m args below meth c A D 8 600000 7302249 Q (wX q0 qs qo qt qv qr qx ql ad qh cI cF cC cS cO u.1 ++ wR q cI u.2) pc lv [.int 1]) {rec_18 : Int32 → vL → Option (Unit)} (REC_18 : ∀ (x1 : Int32) (u : vL), rec_18 x1 u = some () → vV p l e room_1 s m args below meth c A D 8 600000 7302249 Q (wX q0 qs qo qt qv qr qx ql ad qh cI cF cC cS cO u.1 ++ wR q cI u.2) 18 [(0, .ref b), (1, .ref (q0 0)), (2, .ref (q 0)), (3, .int x1)] []) : ∀ (x1 : Int32) (u : vL), fL_law_863 xs L rec_18 x1 u = some () → vV p l e room_1 s m args below meth c A D 8 600000 7302249 Q (wX q0 qs qo qt qv qr qx ql ad qh cI cF cC cS cO u.1 ++ wR q cI u.2) 863 [(0, .ref b), (1, .ref (q0 0)), (2, .ref (q 0)), (3, .int x1)] [] := by
  intro x1 u h
  rw [fL_law_863] at h
  refine vi_aload_n C 1 dL_law_863 rfl ?_
  refine vi_aload_n C 0 dL_law_864 rfl ?_
  refine vi_iload_n C 3 dL_law_865 rfl ?_
  refine vi_iconst (v := 1) C dL_law_866 (by decide) ?_
  refine vi_iadd C dL_law_867 ?_
  obtain ⟨hz1, h⟩ := ob_if h
  refine vi_sld C hX hbl hbA hz1 dL_law_868 ?_
  obtain ⟨y3, u2b, hgu2, h⟩ := ob_p h
  obtain ⟨u2, eu2, h⟩ := ob_nm h
  refine cL_X_i (As := [.int (xs (Int32.toNatClampNeg (x1 + (1 : Int32))))]) (rest := []) C (mX7_highest C.2.2.2.2.2.2.2.2.1 hgu2) 1 rfl tcX7_highest tlL_109 tiX7_highest tsX7_highest rfl tnX7 tdX7_highest ⟨Nat.le_of_ble_eq_true rfl, Nat.le_of_ble_eq_true rfl⟩ eu2 rfl (Nat.le_of_ble_eq_true rfl) dL_law_869 ?_
  refine vi_aload_n C 2 dL_law_872 rfl ?_
  refine vi_aload_n C 0 dL_law_873 rfl ?_
  refine vi_iload_n C 3 dL_law_874 rfl ?_
  refine vi_iconst (v := 1) C dL_law_875 (by decide) ?_
  refine vi_iadd C dL_law_876 ?_
  obtain ⟨hz4, h⟩ := ob_if h
  refine vi_sld C hX hbl hbA hz4 dL_law_877 ?_
  obtain ⟨y6, u5b, hgu5, h⟩ := ob_p h
  obtain ⟨u5, eu5, h⟩ := ob_nm h
  refine cL_R_i (As := [.int (xs (Int32.toNatClampNeg (x1 + (1 : Int32))))]) (rest := [.int y3]) C (mX8_highest C.2.2.2.2.2.2.2.2.1 hgu5) 1 rfl tcX8_highest tlL_112 tiX8_highest tsX8_highest rfl tnX8 tdX8_highest ⟨Nat.le_of_ble_eq_true rfl, Nat.le_of_ble_eq_true rfl⟩ eu5 rfl (Nat.le_of_ble_eq_true rfl) dL_law_878 ?_
  refine vi_icmp_eq (tgt := 1198) C dL_law_881 (by decide) (fun hc7 => ?_) (fun hc7 => ?_)
  · have h := ob_t h hc7
    refine vi_sub C [0, 1, 2, 3] rfl ?_
    exact kL_law_1198 C hX hbl hbA RET REC_18  _ _ h
  · have h := ob_f h hc7
    refine vi_iconst (v := 0) C dL_law_884 (by decide) ?_
    cases h
def fL_law_850 (xs : Nat → Int32) (L : Nat) (rec_18 : Int32 → vL → Option (Unit)) (x1 : Int32) (u : vL) : Option Unit := obp (fX7_messes u.1) fun y2 u1b => bd ((u1b, u.2)) fun u1 => obp (fX8_messes u1.2) fun y4 u3b => bd ((u1.1, u3b)) fun u3 => (if y2 = y4 then fL_law_1198 xs L rec_18 x1 u3 else none)
set_option maxRecDepth 100000 in
set_option maxHeartbeats 8000000 in
theorem kL_law_850 {ad adK adV : Nat → Nat} {tS tF : Nat} {p : Program} {l : Launch} {e : Env} {s : State} {m : MethodId} {args : Array Value} {below : List Frame} {meth : Method} {c : Code} {A : Nat → Prop} {D : va_G} {cI cF cC cS cO : ClassId} {Q : State → Prop} {q0 qs qo qt qv qr qx ql q : Nat → Nat} {qh : Nat → Nat → Nat} {b L : Nat} {xs : Nat → Int32} (C : vC (vE ad adK adV tS tF) p l s m args meth c A D (vT5 cI cF cC cS cO) cL_law 8 RL) (hX : va_X b L xs s s.heap) (hbl : b < s.heap.size) (hbA : ¬ A b) (RET : ∀ (u : vL) (pc : Nat) (lv : List (Nat × Value)), decode cL_law pc = .ok (.ireturn, 1) → vV p l e room_1 s m args below meth c A D 8 600000 7302249 Q (wX q0 qs qo qt qv qr qx ql ad qh cI cF cC cS cO u.1 ++ wR q cI u.2) pc lv [.int 1]) {rec_18 : Int32 → vL → Option (Unit)} (REC_18 : ∀ (x1 : Int32) (u : vL), rec_18 x1 u = some () → vV p l e room_1 s m args below meth c A D 8 600000 7302249 Q (wX q0 qs qo qt qv qr qx ql ad qh cI cF cC cS cO u.1 ++ wR q cI u.2) 18 [(0, .ref b), (1, .ref (q0 0)), (2, .ref (q 0)), (3, .int x1)] []) : ∀ (x1 : Int32) (u : vL), fL_law_850 xs L rec_18 x1 u = some () → vV p l e room_1 s m args below meth c A D 8 600000 7302249 Q (wX q0 qs qo qt qv qr qx ql ad qh cI cF cC cS cO u.1 ++ wR q cI u.2) 850 [(0, .ref b), (1, .ref (q0 0)), (2, .ref (q 0)), (3, .int x1)] [] := by
  intro x1 u h
  rw [fL_law_850] at h
  refine vi_aload_n C 1 dL_law_850 rfl ?_
  obtain ⟨y2, u1b, hgu1, h⟩ := ob_p h
  obtain ⟨u1, eu1, h⟩ := ob_nm h
  refine cL_X_i (As := []) (rest := []) C (mX7_messes C.2.2.2.2.2.2.2.2.1 hgu1) 0 rfl tcX7_messes tlL_105 tiX7_messes tsX7_messes rfl tnX7 tdX7_messes ⟨Nat.le_of_ble_eq_true rfl, Nat.le_of_ble_eq_true rfl⟩ eu1 rfl (Nat.le_of_ble_eq_true rfl) dL_law_851 ?_
  refine vi_aload_n C 2 dL_law_854 rfl ?_
  obtain ⟨y4, u3b, hgu3, h⟩ := ob_p h
  obtain ⟨u3, eu3, h⟩ := ob_nm h
  refine cL_R_i (As := []) (rest := [.int y2]) C (mX8_messes C.2.2.2.2.2.2.2.2.1 hgu3) 0 rfl tcX8_messes tlL_108 tiX8_messes tsX8_messes rfl tnX8 tdX8_messes ⟨Nat.le_of_ble_eq_true rfl, Nat.le_of_ble_eq_true rfl⟩ eu3 rfl (Nat.le_of_ble_eq_true rfl) dL_law_855 ?_
  refine vi_icmp_eq (tgt := 1198) C dL_law_858 (by decide) (fun hc5 => ?_) (fun hc5 => ?_)
  · have h := ob_t h hc5
    refine vi_sub C [0, 1, 2, 3] rfl ?_
    exact kL_law_1198 C hX hbl hbA RET REC_18  _ _ h
  · have h := ob_f h hc5
    refine vi_iconst (v := 0) C dL_law_861 (by decide) ?_
    cases h
def fL_law_827 (xs : Nat → Int32) (L : Nat) (rec_18 : Int32 → vL → Option (Unit)) (x1 : Int32) (u : vL) : Option Unit := if x1 + (1 : Int32) < 0 ∨ L ≤ Int32.toNatClampNeg (x1 + (1 : Int32)) then none else obp (fX7_sinks (xs (Int32.toNatClampNeg (x1 + (1 : Int32)))) u.1) fun y3 u2b => bd ((u2b, u.2)) fun u2 => if x1 + (1 : Int32) < 0 ∨ L ≤ Int32.toNatClampNeg (x1 + (1 : Int32)) then none else obp (fX8_sinks (xs (Int32.toNatClampNeg (x1 + (1 : Int32)))) u2.2) fun y6 u5b => bd ((u2.1, u5b)) fun u5 => (if y3 = y6 then fL_law_1198 xs L rec_18 x1 u5 else none)
set_option maxRecDepth 100000 in
set_option maxHeartbeats 8000000 in
theorem kL_law_827 {ad adK adV : Nat → Nat} {tS tF : Nat} {p : Program} {l : Launch} {e : Env} {s : State} {m : MethodId} {args : Array Value} {below : List Frame} {meth : Method} {c : Code} {A : Nat → Prop} {D : va_G} {cI cF cC cS cO : ClassId} {Q : State → Prop} {q0 qs qo qt qv qr qx ql q : Nat → Nat} {qh : Nat → Nat → Nat} {b L : Nat} {xs : Nat → Int32} (C : vC (vE ad adK adV tS tF) p l s m args meth c A D (vT5 cI cF cC cS cO) cL_law 8 RL) (hX : va_X b L xs s s.heap) (hbl : b < s.heap.size) (hbA : ¬ A b) (RET : ∀ (u : vL) (pc : Nat) (lv : List (Nat × Value)), decode cL_law pc = .ok (.ireturn, 1) → vV p l e room_1 s m args below meth c A D 8 600000 7302249 Q (wX q0 qs qo qt qv qr qx ql ad qh cI cF cC cS cO u.1 ++ wR q cI u.2) pc lv [.int 1]) {rec_18 : Int32 → vL → Option (Unit)} (REC_18 : ∀ (x1 : Int32) (u : vL), rec_18 x1 u = some () → vV p l e room_1 s m args below meth c A D 8 600000 7302249 Q (wX q0 qs qo qt qv qr qx ql ad qh cI cF cC cS cO u.1 ++ wR q cI u.2) 18 [(0, .ref b), (1, .ref (q0 0)), (2, .ref (q 0)), (3, .int x1)] []) : ∀ (x1 : Int32) (u : vL), fL_law_827 xs L rec_18 x1 u = some () → vV p l e room_1 s m args below meth c A D 8 600000 7302249 Q (wX q0 qs qo qt qv qr qx ql ad qh cI cF cC cS cO u.1 ++ wR q cI u.2) 827 [(0, .ref b), (1, .ref (q0 0)), (2, .ref (q 0)), (3, .int x1)] [] := by
  intro x1 u h
  rw [fL_law_827] at h
  refine vi_aload_n C 1 dL_law_827 rfl ?_
  refine vi_aload_n C 0 dL_law_828 rfl ?_
  refine vi_iload_n C 3 dL_law_829 rfl ?_
  refine vi_iconst (v := 1) C dL_law_830 (by decide) ?_
  refine vi_iadd C dL_law_831 ?_
  obtain ⟨hz1, h⟩ := ob_if h
  refine vi_sld C hX hbl hbA hz1 dL_law_832 ?_
  obtain ⟨y3, u2b, hgu2, h⟩ := ob_p h
  obtain ⟨u2, eu2, h⟩ := ob_nm h
  refine cL_X_i (As := [.int (xs (Int32.toNatClampNeg (x1 + (1 : Int32))))]) (rest := []) C (mX7_sinks C.2.2.2.2.2.2.2.2.1 hgu2) 1 rfl tcX7_sinks tlL_101 tiX7_sinks tsX7_sinks rfl tnX7 tdX7_sinks ⟨Nat.le_of_ble_eq_true rfl, Nat.le_of_ble_eq_true rfl⟩ eu2 rfl (Nat.le_of_ble_eq_true rfl) dL_law_833 ?_
  refine vi_aload_n C 2 dL_law_836 rfl ?_
  refine vi_aload_n C 0 dL_law_837 rfl ?_
  refine vi_iload_n C 3 dL_law_838 rfl ?_
  refine vi_iconst (v := 1) C dL_law_839 (by decide) ?_
  refine vi_iadd C dL_law_840 ?_
  obtain ⟨hz4, h⟩ := ob_if h
  refine vi_sld C hX hbl hbA hz4 dL_law_841 ?_
  obtain ⟨y6, u5b, hgu5, h⟩ := ob_p h
  obtain ⟨u5, eu5, h⟩ := ob_nm h
  refine cL_R_i (As := [.int (xs (Int32.toNatClampNeg (x1 + (1 : Int32))))]) (rest := [.int y3]) C (mX8_sinks C.2.2.2.2.2.2.2.2.1 hgu5) 1 rfl tcX8_sinks tlL_104 tiX8_sinks tsX8_sinks rfl tnX8 tdX8_sinks ⟨Nat.le_of_ble_eq_true rfl, Nat.le_of_ble_eq_true rfl⟩ eu5 rfl (Nat.le_of_ble_eq_true rfl) dL_law_842 ?_
  refine vi_icmp_eq (tgt := 1198) C dL_law_845 (by decide) (fun hc7 => ?_) (fun hc7 => ?_)
  · have h := ob_t h hc7
    refine vi_sub C [0, 1, 2, 3] rfl ?_
    exact kL_law_1198 C hX hbl hbA RET REC_18  _ _ h
  · have h := ob_f h hc7
    refine vi_iconst (v := 0) C dL_law_848 (by decide) ?_
    cases h
def fL_law_794 (xs : Nat → Int32) (L : Nat) (rec_18 : Int32 → vL → Option (Unit)) (x1 : Int32) (u : vL) : Option Unit := if x1 + (1 : Int32) < 0 ∨ L ≤ Int32.toNatClampNeg (x1 + (1 : Int32)) then none else if x1 + (2 : Int32) < 0 ∨ L ≤ Int32.toNatClampNeg (x1 + (2 : Int32)) then none else obp (fX7_would (xs (Int32.toNatClampNeg (x1 + (1 : Int32)))) (xs (Int32.toNatClampNeg (x1 + (2 : Int32)))) u.1) fun y4 u3b => bd ((u3b, u.2)) fun u3 => if x1 + (1 : Int32) < 0 ∨ L ≤ Int32.toNatClampNeg (x1 + (1 : Int32)) then none else if x1 + (2 : Int32) < 0 ∨ L ≤ Int32.toNatClampNeg (x1 + (2 : Int32)) then none else obp (fX8_would (xs (Int32.toNatClampNeg (x1 + (1 : Int32)))) (xs (Int32.toNatClampNeg (x1 + (2 : Int32)))) u3.2) fun y8 u7b => bd ((u3.1, u7b)) fun u7 => (if y4 = y8 then fL_law_1198 xs L rec_18 x1 u7 else none)
set_option maxRecDepth 100000 in
set_option maxHeartbeats 8000000 in
theorem kL_law_794 {ad adK adV : Nat → Nat} {tS tF : Nat} {p : Program} {l : Launch} {e : Env} {s : State} {m : MethodId} {args : Array Value} {below : List Frame} {meth : Method} {c : Code} {A : Nat → Prop} {D : va_G} {cI cF cC cS cO : ClassId} {Q : State → Prop} {q0 qs qo qt qv qr qx ql q : Nat → Nat} {qh : Nat → Nat → Nat} {b L : Nat} {xs : Nat → Int32} (C : vC (vE ad adK adV tS tF) p l s m args meth c A D (vT5 cI cF cC cS cO) cL_law 8 RL) (hX : va_X b L xs s s.heap) (hbl : b < s.heap.size) (hbA : ¬ A b) (RET : ∀ (u : vL) (pc : Nat) (lv : List (Nat × Value)), decode cL_law pc = .ok (.ireturn, 1) → vV p l e room_1 s m args below meth c A D 8 600000 7302249 Q (wX q0 qs qo qt qv qr qx ql ad qh cI cF cC cS cO u.1 ++ wR q cI u.2) pc lv [.int 1]) {rec_18 : Int32 → vL → Option (Unit)} (REC_18 : ∀ (x1 : Int32) (u : vL), rec_18 x1 u = some () → vV p l e room_1 s m args below meth c A D 8 600000 7302249 Q (wX q0 qs qo qt qv qr qx ql ad qh cI cF cC cS cO u.1 ++ wR q cI u.2) 18 [(0, .ref b), (1, .ref (q0 0)), (2, .ref (q 0)), (3, .int x1)] []) : ∀ (x1 : Int32) (u : vL), fL_law_794 xs L rec_18 x1 u = some () → vV p l e room_1 s m args below meth c A D 8 600000 7302249 Q (wX q0 qs qo qt qv qr qx ql ad qh cI cF cC cS cO u.1 ++ wR q cI u.2) 794 [(0, .ref b), (1, .ref (q0 0)), (2, .ref (q 0)), (3, .int x1)] [] := by
  intro x1 u h
  rw [fL_law_794] at h
  refine vi_aload_n C 1 dL_law_794 rfl ?_
  refine vi_aload_n C 0 dL_law_795 rfl ?_
  refine vi_iload_n C 3 dL_law_796 rfl ?_
  refine vi_iconst (v := 1) C dL_law_797 (by decide) ?_
  refine vi_iadd C dL_law_798 ?_
  obtain ⟨hz1, h⟩ := ob_if h
  refine vi_sld C hX hbl hbA hz1 dL_law_799 ?_
  refine vi_aload_n C 0 dL_law_800 rfl ?_
  refine vi_iload_n C 3 dL_law_801 rfl ?_
  refine vi_iconst (v := 2) C dL_law_802 (by decide) ?_
  refine vi_iadd C dL_law_803 ?_
  obtain ⟨hz2, h⟩ := ob_if h
  refine vi_sld C hX hbl hbA hz2 dL_law_804 ?_
  obtain ⟨y4, u3b, hgu3, h⟩ := ob_p h
  obtain ⟨u3, eu3, h⟩ := ob_nm h
  refine cL_X_i (As := [.int (xs (Int32.toNatClampNeg (x1 + (1 : Int32)))), .int (xs (Int32.toNatClampNeg (x1 + (2 : Int32))))]) (rest := []) C (mX7_would C.2.2.2.2.2.2.2.2.1 hgu3) 2 rfl tcX7_would tlL_97 tiX7_would tsX7_would rfl tnX7 tdX7_would ⟨Nat.le_of_ble_eq_true rfl, Nat.le_of_ble_eq_true rfl⟩ eu3 rfl (Nat.le_of_ble_eq_true rfl) dL_law_805 ?_
  refine vi_aload_n C 2 dL_law_808 rfl ?_
  refine vi_aload_n C 0 dL_law_809 rfl ?_
  refine vi_iload_n C 3 dL_law_810 rfl ?_
  refine vi_iconst (v := 1) C dL_law_811 (by decide) ?_
  refine vi_iadd C dL_law_812 ?_
  obtain ⟨hz5, h⟩ := ob_if h
  refine vi_sld C hX hbl hbA hz5 dL_law_813 ?_
  refine vi_aload_n C 0 dL_law_814 rfl ?_
  refine vi_iload_n C 3 dL_law_815 rfl ?_
  refine vi_iconst (v := 2) C dL_law_816 (by decide) ?_
  refine vi_iadd C dL_law_817 ?_
  obtain ⟨hz6, h⟩ := ob_if h
  refine vi_sld C hX hbl hbA hz6 dL_law_818 ?_
  obtain ⟨y8, u7b, hgu7, h⟩ := ob_p h
  obtain ⟨u7, eu7, h⟩ := ob_nm h
  refine cL_R_i (As := [.int (xs (Int32.toNatClampNeg (x1 + (1 : Int32)))), .int (xs (Int32.toNatClampNeg (x1 + (2 : Int32))))]) (rest := [.int y4]) C (mX8_would C.2.2.2.2.2.2.2.2.1 hgu7) 2 rfl tcX8_would tlL_100 tiX8_would tsX8_would rfl tnX8 tdX8_would ⟨Nat.le_of_ble_eq_true rfl, Nat.le_of_ble_eq_true rfl⟩ eu7 rfl (Nat.le_of_ble_eq_true rfl) dL_law_819 ?_
  refine vi_icmp_eq (tgt := 1198) C dL_law_822 (by decide) (fun hc9 => ?_) (fun hc9 => ?_)
  · have h := ob_t h hc9
    refine vi_sub C [0, 1, 2, 3] rfl ?_
    exact kL_law_1198 C hX hbl hbA RET REC_18  _ _ h
  · have h := ob_f h hc9
    refine vi_iconst (v := 0) C dL_law_825 (by decide) ?_
    cases h
def fL_law_761 (xs : Nat → Int32) (L : Nat) (rec_18 : Int32 → vL → Option (Unit)) (x1 : Int32) (u : vL) : Option Unit := if x1 + (1 : Int32) < 0 ∨ L ≤ Int32.toNatClampNeg (x1 + (1 : Int32)) then none else if x1 + (2 : Int32) < 0 ∨ L ≤ Int32.toNatClampNeg (x1 + (2 : Int32)) then none else obp (fX7_closest (xs (Int32.toNatClampNeg (x1 + (1 : Int32)))) (xs (Int32.toNatClampNeg (x1 + (2 : Int32)))) u.1) fun y4 u3b => bd ((u3b, u.2)) fun u3 => if x1 + (1 : Int32) < 0 ∨ L ≤ Int32.toNatClampNeg (x1 + (1 : Int32)) then none else if x1 + (2 : Int32) < 0 ∨ L ≤ Int32.toNatClampNeg (x1 + (2 : Int32)) then none else obp (fX8_closest (xs (Int32.toNatClampNeg (x1 + (1 : Int32)))) (xs (Int32.toNatClampNeg (x1 + (2 : Int32)))) u3.2) fun y8 u7b => bd ((u3.1, u7b)) fun u7 => (if y4 = y8 then fL_law_1198 xs L rec_18 x1 u7 else none)
set_option maxRecDepth 100000 in
set_option maxHeartbeats 8000000 in
theorem kL_law_761 {ad adK adV : Nat → Nat} {tS tF : Nat} {p : Program} {l : Launch} {e : Env} {s : State} {m : MethodId} {args : Array Value} {below : List Frame} {meth : Method} {c : Code} {A : Nat → Prop} {D : va_G} {cI cF cC cS cO : ClassId} {Q : State → Prop} {q0 qs qo qt qv qr qx ql q : Nat → Nat} {qh : Nat → Nat → Nat} {b L : Nat} {xs : Nat → Int32} (C : vC (vE ad adK adV tS tF) p l s m args meth c A D (vT5 cI cF cC cS cO) cL_law 8 RL) (hX : va_X b L xs s s.heap) (hbl : b < s.heap.size) (hbA : ¬ A b) (RET : ∀ (u : vL) (pc : Nat) (lv : List (Nat × Value)), decode cL_law pc = .ok (.ireturn, 1) → vV p l e room_1 s m args below meth c A D 8 600000 7302249 Q (wX q0 qs qo qt qv qr qx ql ad qh cI cF cC cS cO u.1 ++ wR q cI u.2) pc lv [.int 1]) {rec_18 : Int32 → vL → Option (Unit)} (REC_18 : ∀ (x1 : Int32) (u : vL), rec_18 x1 u = some () → vV p l e room_1 s m args below meth c A D 8 600000 7302249 Q (wX q0 qs qo qt qv qr qx ql ad qh cI cF cC cS cO u.1 ++ wR q cI u.2) 18 [(0, .ref b), (1, .ref (q0 0)), (2, .ref (q 0)), (3, .int x1)] []) : ∀ (x1 : Int32) (u : vL), fL_law_761 xs L rec_18 x1 u = some () → vV p l e room_1 s m args below meth c A D 8 600000 7302249 Q (wX q0 qs qo qt qv qr qx ql ad qh cI cF cC cS cO u.1 ++ wR q cI u.2) 761 [(0, .ref b), (1, .ref (q0 0)), (2, .ref (q 0)), (3, .int x1)] [] := by
  intro x1 u h
  rw [fL_law_761] at h
  refine vi_aload_n C 1 dL_law_761 rfl ?_
  refine vi_aload_n C 0 dL_law_762 rfl ?_
  refine vi_iload_n C 3 dL_law_763 rfl ?_
  refine vi_iconst (v := 1) C dL_law_764 (by decide) ?_
  refine vi_iadd C dL_law_765 ?_
  obtain ⟨hz1, h⟩ := ob_if h
  refine vi_sld C hX hbl hbA hz1 dL_law_766 ?_
  refine vi_aload_n C 0 dL_law_767 rfl ?_
  refine vi_iload_n C 3 dL_law_768 rfl ?_
  refine vi_iconst (v := 2) C dL_law_769 (by decide) ?_
  refine vi_iadd C dL_law_770 ?_
  obtain ⟨hz2, h⟩ := ob_if h
  refine vi_sld C hX hbl hbA hz2 dL_law_771 ?_
  obtain ⟨y4, u3b, hgu3, h⟩ := ob_p h
  obtain ⟨u3, eu3, h⟩ := ob_nm h
  refine cL_X_i (As := [.int (xs (Int32.toNatClampNeg (x1 + (1 : Int32)))), .int (xs (Int32.toNatClampNeg (x1 + (2 : Int32))))]) (rest := []) C (mX7_closest C.2.2.2.2.2.2.2.2.1 hgu3) 2 rfl tcX7_closest tlL_93 tiX7_closest tsX7_closest rfl tnX7 tdX7_closest ⟨Nat.le_of_ble_eq_true rfl, Nat.le_of_ble_eq_true rfl⟩ eu3 rfl (Nat.le_of_ble_eq_true rfl) dL_law_772 ?_
  refine vi_aload_n C 2 dL_law_775 rfl ?_
  refine vi_aload_n C 0 dL_law_776 rfl ?_
  refine vi_iload_n C 3 dL_law_777 rfl ?_
  refine vi_iconst (v := 1) C dL_law_778 (by decide) ?_
  refine vi_iadd C dL_law_779 ?_
  obtain ⟨hz5, h⟩ := ob_if h
  refine vi_sld C hX hbl hbA hz5 dL_law_780 ?_
  refine vi_aload_n C 0 dL_law_781 rfl ?_
  refine vi_iload_n C 3 dL_law_782 rfl ?_
  refine vi_iconst (v := 2) C dL_law_783 (by decide) ?_
  refine vi_iadd C dL_law_784 ?_
  obtain ⟨hz6, h⟩ := ob_if h
  refine vi_sld C hX hbl hbA hz6 dL_law_785 ?_
  obtain ⟨y8, u7b, hgu7, h⟩ := ob_p h
  obtain ⟨u7, eu7, h⟩ := ob_nm h
  refine cL_R_i (As := [.int (xs (Int32.toNatClampNeg (x1 + (1 : Int32)))), .int (xs (Int32.toNatClampNeg (x1 + (2 : Int32))))]) (rest := [.int y4]) C (mX8_closest C.2.2.2.2.2.2.2.2.1 hgu7) 2 rfl tcX8_closest tlL_96 tiX8_closest tsX8_closest rfl tnX8 tdX8_closest ⟨Nat.le_of_ble_eq_true rfl, Nat.le_of_ble_eq_true rfl⟩ eu7 rfl (Nat.le_of_ble_eq_true rfl) dL_law_786 ?_
  refine vi_icmp_eq (tgt := 1198) C dL_law_789 (by decide) (fun hc9 => ?_) (fun hc9 => ?_)
  · have h := ob_t h hc9
    refine vi_sub C [0, 1, 2, 3] rfl ?_
    exact kL_law_1198 C hX hbl hbA RET REC_18  _ _ h
  · have h := ob_f h hc9
    refine vi_iconst (v := 0) C dL_law_792 (by decide) ?_
    cases h
def fL_law_728 (xs : Nat → Int32) (L : Nat) (rec_18 : Int32 → vL → Option (Unit)) (x1 : Int32) (u : vL) : Option Unit := if x1 + (1 : Int32) < 0 ∨ L ≤ Int32.toNatClampNeg (x1 + (1 : Int32)) then none else if x1 + (2 : Int32) < 0 ∨ L ≤ Int32.toNatClampNeg (x1 + (2 : Int32)) then none else obp (fX7_unlikeAgain (xs (Int32.toNatClampNeg (x1 + (1 : Int32)))) (xs (Int32.toNatClampNeg (x1 + (2 : Int32)))) u.1) fun y4 u3b => bd ((u3b, u.2)) fun u3 => if x1 + (1 : Int32) < 0 ∨ L ≤ Int32.toNatClampNeg (x1 + (1 : Int32)) then none else if x1 + (2 : Int32) < 0 ∨ L ≤ Int32.toNatClampNeg (x1 + (2 : Int32)) then none else obp (fX8_unlikeAgain (xs (Int32.toNatClampNeg (x1 + (1 : Int32)))) (xs (Int32.toNatClampNeg (x1 + (2 : Int32)))) u3.2) fun y8 u7b => bd ((u3.1, u7b)) fun u7 => (if y4 = y8 then fL_law_1198 xs L rec_18 x1 u7 else none)
set_option maxRecDepth 100000 in
set_option maxHeartbeats 8000000 in
theorem kL_law_728 {ad adK adV : Nat → Nat} {tS tF : Nat} {p : Program} {l : Launch} {e : Env} {s : State} {m : MethodId} {args : Array Value} {below : List Frame} {meth : Method} {c : Code} {A : Nat → Prop} {D : va_G} {cI cF cC cS cO : ClassId} {Q : State → Prop} {q0 qs qo qt qv qr qx ql q : Nat → Nat} {qh : Nat → Nat → Nat} {b L : Nat} {xs : Nat → Int32} (C : vC (vE ad adK adV tS tF) p l s m args meth c A D (vT5 cI cF cC cS cO) cL_law 8 RL) (hX : va_X b L xs s s.heap) (hbl : b < s.heap.size) (hbA : ¬ A b) (RET : ∀ (u : vL) (pc : Nat) (lv : List (Nat × Value)), decode cL_law pc = .ok (.ireturn, 1) → vV p l e room_1 s m args below meth c A D 8 600000 7302249 Q (wX q0 qs qo qt qv qr qx ql ad qh cI cF cC cS cO u.1 ++ wR q cI u.2) pc lv [.int 1]) {rec_18 : Int32 → vL → Option (Unit)} (REC_18 : ∀ (x1 : Int32) (u : vL), rec_18 x1 u = some () → vV p l e room_1 s m args below meth c A D 8 600000 7302249 Q (wX q0 qs qo qt qv qr qx ql ad qh cI cF cC cS cO u.1 ++ wR q cI u.2) 18 [(0, .ref b), (1, .ref (q0 0)), (2, .ref (q 0)), (3, .int x1)] []) : ∀ (x1 : Int32) (u : vL), fL_law_728 xs L rec_18 x1 u = some () → vV p l e room_1 s m args below meth c A D 8 600000 7302249 Q (wX q0 qs qo qt qv qr qx ql ad qh cI cF cC cS cO u.1 ++ wR q cI u.2) 728 [(0, .ref b), (1, .ref (q0 0)), (2, .ref (q 0)), (3, .int x1)] [] := by
  intro x1 u h
  rw [fL_law_728] at h
  refine vi_aload_n C 1 dL_law_728 rfl ?_
  refine vi_aload_n C 0 dL_law_729 rfl ?_
  refine vi_iload_n C 3 dL_law_730 rfl ?_
  refine vi_iconst (v := 1) C dL_law_731 (by decide) ?_
  refine vi_iadd C dL_law_732 ?_
  obtain ⟨hz1, h⟩ := ob_if h
  refine vi_sld C hX hbl hbA hz1 dL_law_733 ?_
  refine vi_aload_n C 0 dL_law_734 rfl ?_
  refine vi_iload_n C 3 dL_law_735 rfl ?_
  refine vi_iconst (v := 2) C dL_law_736 (by decide) ?_
  refine vi_iadd C dL_law_737 ?_
  obtain ⟨hz2, h⟩ := ob_if h
  refine vi_sld C hX hbl hbA hz2 dL_law_738 ?_
  obtain ⟨y4, u3b, hgu3, h⟩ := ob_p h
  obtain ⟨u3, eu3, h⟩ := ob_nm h
  refine cL_X_i (As := [.int (xs (Int32.toNatClampNeg (x1 + (1 : Int32)))), .int (xs (Int32.toNatClampNeg (x1 + (2 : Int32))))]) (rest := []) C (mX7_unlikeAgain C.2.2.2.2.2.2.2.2.1 hgu3) 2 rfl tcX7_unlikeAgain tlL_89 tiX7_unlikeAgain tsX7_unlikeAgain rfl tnX7 tdX7_unlikeAgain ⟨Nat.le_of_ble_eq_true rfl, Nat.le_of_ble_eq_true rfl⟩ eu3 rfl (Nat.le_of_ble_eq_true rfl) dL_law_739 ?_
  refine vi_aload_n C 2 dL_law_742 rfl ?_
  refine vi_aload_n C 0 dL_law_743 rfl ?_
  refine vi_iload_n C 3 dL_law_744 rfl ?_
  refine vi_iconst (v := 1) C dL_law_745 (by decide) ?_
  refine vi_iadd C dL_law_746 ?_
  obtain ⟨hz5, h⟩ := ob_if h
  refine vi_sld C hX hbl hbA hz5 dL_law_747 ?_
  refine vi_aload_n C 0 dL_law_748 rfl ?_
  refine vi_iload_n C 3 dL_law_749 rfl ?_
  refine vi_iconst (v := 2) C dL_law_750 (by decide) ?_
  refine vi_iadd C dL_law_751 ?_
  obtain ⟨hz6, h⟩ := ob_if h
  refine vi_sld C hX hbl hbA hz6 dL_law_752 ?_
  obtain ⟨y8, u7b, hgu7, h⟩ := ob_p h
  obtain ⟨u7, eu7, h⟩ := ob_nm h
  refine cL_R_i (As := [.int (xs (Int32.toNatClampNeg (x1 + (1 : Int32)))), .int (xs (Int32.toNatClampNeg (x1 + (2 : Int32))))]) (rest := [.int y4]) C (mX8_unlikeAgain C.2.2.2.2.2.2.2.2.1 hgu7) 2 rfl tcX8_unlikeAgain tlL_92 tiX8_unlikeAgain tsX8_unlikeAgain rfl tnX8 tdX8_unlikeAgain ⟨Nat.le_of_ble_eq_true rfl, Nat.le_of_ble_eq_true rfl⟩ eu7 rfl (Nat.le_of_ble_eq_true rfl) dL_law_753 ?_
  refine vi_icmp_eq (tgt := 1198) C dL_law_756 (by decide) (fun hc9 => ?_) (fun hc9 => ?_)
  · have h := ob_t h hc9
    refine vi_sub C [0, 1, 2, 3] rfl ?_
    exact kL_law_1198 C hX hbl hbA RET REC_18  _ _ h
  · have h := ob_f h hc9
    refine vi_iconst (v := 0) C dL_law_759 (by decide) ?_
    cases h
def fL_law_695 (xs : Nat → Int32) (L : Nat) (rec_18 : Int32 → vL → Option (Unit)) (x1 : Int32) (u : vL) : Option Unit := if x1 + (1 : Int32) < 0 ∨ L ≤ Int32.toNatClampNeg (x1 + (1 : Int32)) then none else if x1 + (2 : Int32) < 0 ∨ L ≤ Int32.toNatClampNeg (x1 + (2 : Int32)) then none else obp (fX7_unlike (xs (Int32.toNatClampNeg (x1 + (1 : Int32)))) (xs (Int32.toNatClampNeg (x1 + (2 : Int32)))) u.1) fun y4 u3b => bd ((u3b, u.2)) fun u3 => if x1 + (1 : Int32) < 0 ∨ L ≤ Int32.toNatClampNeg (x1 + (1 : Int32)) then none else if x1 + (2 : Int32) < 0 ∨ L ≤ Int32.toNatClampNeg (x1 + (2 : Int32)) then none else obp (fX8_unlike (xs (Int32.toNatClampNeg (x1 + (1 : Int32)))) (xs (Int32.toNatClampNeg (x1 + (2 : Int32)))) u3.2) fun y8 u7b => bd ((u3.1, u7b)) fun u7 => (if y4 = y8 then fL_law_1198 xs L rec_18 x1 u7 else none)
set_option maxRecDepth 100000 in
set_option maxHeartbeats 8000000 in
theorem kL_law_695 {ad adK adV : Nat → Nat} {tS tF : Nat} {p : Program} {l : Launch} {e : Env} {s : State} {m : MethodId} {args : Array Value} {below : List Frame} {meth : Method} {c : Code} {A : Nat → Prop} {D : va_G} {cI cF cC cS cO : ClassId} {Q : State → Prop} {q0 qs qo qt qv qr qx ql q : Nat → Nat} {qh : Nat → Nat → Nat} {b L : Nat} {xs : Nat → Int32} (C : vC (vE ad adK adV tS tF) p l s m args meth c A D (vT5 cI cF cC cS cO) cL_law 8 RL) (hX : va_X b L xs s s.heap) (hbl : b < s.heap.size) (hbA : ¬ A b) (RET : ∀ (u : vL) (pc : Nat) (lv : List (Nat × Value)), decode cL_law pc = .ok (.ireturn, 1) → vV p l e room_1 s m args below meth c A D 8 600000 7302249 Q (wX q0 qs qo qt qv qr qx ql ad qh cI cF cC cS cO u.1 ++ wR q cI u.2) pc lv [.int 1]) {rec_18 : Int32 → vL → Option (Unit)} (REC_18 : ∀ (x1 : Int32) (u : vL), rec_18 x1 u = some () → vV p l e room_1 s m args below meth c A D 8 600000 7302249 Q (wX q0 qs qo qt qv qr qx ql ad qh cI cF cC cS cO u.1 ++ wR q cI u.2) 18 [(0, .ref b), (1, .ref (q0 0)), (2, .ref (q 0)), (3, .int x1)] []) : ∀ (x1 : Int32) (u : vL), fL_law_695 xs L rec_18 x1 u = some () → vV p l e room_1 s m args below meth c A D 8 600000 7302249 Q (wX q0 qs qo qt qv qr qx ql ad qh cI cF cC cS cO u.1 ++ wR q cI u.2) 695 [(0, .ref b), (1, .ref (q0 0)), (2, .ref (q 0)), (3, .int x1)] [] := by
  intro x1 u h
  rw [fL_law_695] at h
  refine vi_aload_n C 1 dL_law_695 rfl ?_
  refine vi_aload_n C 0 dL_law_696 rfl ?_
  refine vi_iload_n C 3 dL_law_697 rfl ?_
  refine vi_iconst (v := 1) C dL_law_698 (by decide) ?_
  refine vi_iadd C dL_law_699 ?_
  obtain ⟨hz1, h⟩ := ob_if h
  refine vi_sld C hX hbl hbA hz1 dL_law_700 ?_
  refine vi_aload_n C 0 dL_law_701 rfl ?_
  refine vi_iload_n C 3 dL_law_702 rfl ?_
  refine vi_iconst (v := 2) C dL_law_703 (by decide) ?_
  refine vi_iadd C dL_law_704 ?_
  obtain ⟨hz2, h⟩ := ob_if h
  refine vi_sld C hX hbl hbA hz2 dL_law_705 ?_
  obtain ⟨y4, u3b, hgu3, h⟩ := ob_p h
  obtain ⟨u3, eu3, h⟩ := ob_nm h
  refine cL_X_i (As := [.int (xs (Int32.toNatClampNeg (x1 + (1 : Int32)))), .int (xs (Int32.toNatClampNeg (x1 + (2 : Int32))))]) (rest := []) C (mX7_unlike C.2.2.2.2.2.2.2.2.1 hgu3) 2 rfl tcX7_unlike tlL_85 tiX7_unlike tsX7_unlike rfl tnX7 tdX7_unlike ⟨Nat.le_of_ble_eq_true rfl, Nat.le_of_ble_eq_true rfl⟩ eu3 rfl (Nat.le_of_ble_eq_true rfl) dL_law_706 ?_
  refine vi_aload_n C 2 dL_law_709 rfl ?_
  refine vi_aload_n C 0 dL_law_710 rfl ?_
  refine vi_iload_n C 3 dL_law_711 rfl ?_
  refine vi_iconst (v := 1) C dL_law_712 (by decide) ?_
  refine vi_iadd C dL_law_713 ?_
  obtain ⟨hz5, h⟩ := ob_if h
  refine vi_sld C hX hbl hbA hz5 dL_law_714 ?_
  refine vi_aload_n C 0 dL_law_715 rfl ?_
  refine vi_iload_n C 3 dL_law_716 rfl ?_
  refine vi_iconst (v := 2) C dL_law_717 (by decide) ?_
  refine vi_iadd C dL_law_718 ?_
  obtain ⟨hz6, h⟩ := ob_if h
  refine vi_sld C hX hbl hbA hz6 dL_law_719 ?_
  obtain ⟨y8, u7b, hgu7, h⟩ := ob_p h
  obtain ⟨u7, eu7, h⟩ := ob_nm h
  refine cL_R_i (As := [.int (xs (Int32.toNatClampNeg (x1 + (1 : Int32)))), .int (xs (Int32.toNatClampNeg (x1 + (2 : Int32))))]) (rest := [.int y4]) C (mX8_unlike C.2.2.2.2.2.2.2.2.1 hgu7) 2 rfl tcX8_unlike tlL_88 tiX8_unlike tsX8_unlike rfl tnX8 tdX8_unlike ⟨Nat.le_of_ble_eq_true rfl, Nat.le_of_ble_eq_true rfl⟩ eu7 rfl (Nat.le_of_ble_eq_true rfl) dL_law_720 ?_
  refine vi_icmp_eq (tgt := 1198) C dL_law_723 (by decide) (fun hc9 => ?_) (fun hc9 => ?_)
  · have h := ob_t h hc9
    refine vi_sub C [0, 1, 2, 3] rfl ?_
    exact kL_law_1198 C hX hbl hbA RET REC_18  _ _ h
  · have h := ob_f h hc9
    refine vi_iconst (v := 0) C dL_law_726 (by decide) ?_
    cases h
def fL_law_662 (xs : Nat → Int32) (L : Nat) (rec_18 : Int32 → vL → Option (Unit)) (x1 : Int32) (u : vL) : Option Unit := if x1 + (1 : Int32) < 0 ∨ L ≤ Int32.toNatClampNeg (x1 + (1 : Int32)) then none else if x1 + (2 : Int32) < 0 ∨ L ≤ Int32.toNatClampNeg (x1 + (2 : Int32)) then none else obp (fX7_meet (xs (Int32.toNatClampNeg (x1 + (1 : Int32)))) (xs (Int32.toNatClampNeg (x1 + (2 : Int32)))) u.1) fun y4 u3b => bd ((u3b, u.2)) fun u3 => if x1 + (1 : Int32) < 0 ∨ L ≤ Int32.toNatClampNeg (x1 + (1 : Int32)) then none else if x1 + (2 : Int32) < 0 ∨ L ≤ Int32.toNatClampNeg (x1 + (2 : Int32)) then none else obp (fX8_meet (xs (Int32.toNatClampNeg (x1 + (1 : Int32)))) (xs (Int32.toNatClampNeg (x1 + (2 : Int32)))) u3.2) fun y8 u7b => bd ((u3.1, u7b)) fun u7 => (if y4 = y8 then fL_law_1198 xs L rec_18 x1 u7 else none)
set_option maxRecDepth 100000 in
set_option maxHeartbeats 8000000 in
theorem kL_law_662 {ad adK adV : Nat → Nat} {tS tF : Nat} {p : Program} {l : Launch} {e : Env} {s : State} {m : MethodId} {args : Array Value} {below : List Frame} {meth : Method} {c : Code} {A : Nat → Prop} {D : va_G} {cI cF cC cS cO : ClassId} {Q : State → Prop} {q0 qs qo qt qv qr qx ql q : Nat → Nat} {qh : Nat → Nat → Nat} {b L : Nat} {xs : Nat → Int32} (C : vC (vE ad adK adV tS tF) p l s m args meth c A D (vT5 cI cF cC cS cO) cL_law 8 RL) (hX : va_X b L xs s s.heap) (hbl : b < s.heap.size) (hbA : ¬ A b) (RET : ∀ (u : vL) (pc : Nat) (lv : List (Nat × Value)), decode cL_law pc = .ok (.ireturn, 1) → vV p l e room_1 s m args below meth c A D 8 600000 7302249 Q (wX q0 qs qo qt qv qr qx ql ad qh cI cF cC cS cO u.1 ++ wR q cI u.2) pc lv [.int 1]) {rec_18 : Int32 → vL → Option (Unit)} (REC_18 : ∀ (x1 : Int32) (u : vL), rec_18 x1 u = some () → vV p l e room_1 s m args below meth c A D 8 600000 7302249 Q (wX q0 qs qo qt qv qr qx ql ad qh cI cF cC cS cO u.1 ++ wR q cI u.2) 18 [(0, .ref b), (1, .ref (q0 0)), (2, .ref (q 0)), (3, .int x1)] []) : ∀ (x1 : Int32) (u : vL), fL_law_662 xs L rec_18 x1 u = some () → vV p l e room_1 s m args below meth c A D 8 600000 7302249 Q (wX q0 qs qo qt qv qr qx ql ad qh cI cF cC cS cO u.1 ++ wR q cI u.2) 662 [(0, .ref b), (1, .ref (q0 0)), (2, .ref (q 0)), (3, .int x1)] [] := by
  intro x1 u h
  rw [fL_law_662] at h
  refine vi_aload_n C 1 dL_law_662 rfl ?_
  refine vi_aload_n C 0 dL_law_663 rfl ?_
  refine vi_iload_n C 3 dL_law_664 rfl ?_
  refine vi_iconst (v := 1) C dL_law_665 (by decide) ?_
  refine vi_iadd C dL_law_666 ?_
  obtain ⟨hz1, h⟩ := ob_if h
  refine vi_sld C hX hbl hbA hz1 dL_law_667 ?_
  refine vi_aload_n C 0 dL_law_668 rfl ?_
  refine vi_iload_n C 3 dL_law_669 rfl ?_
  refine vi_iconst (v := 2) C dL_law_670 (by decide) ?_
  refine vi_iadd C dL_law_671 ?_
  obtain ⟨hz2, h⟩ := ob_if h
  refine vi_sld C hX hbl hbA hz2 dL_law_672 ?_
  obtain ⟨y4, u3b, hgu3, h⟩ := ob_p h
  obtain ⟨u3, eu3, h⟩ := ob_nm h
  refine cL_X_i (As := [.int (xs (Int32.toNatClampNeg (x1 + (1 : Int32)))), .int (xs (Int32.toNatClampNeg (x1 + (2 : Int32))))]) (rest := []) C (mX7_meet C.2.2.2.2.2.2.2.2.1 hgu3) 2 rfl tcX7_meet tlL_81 tiX7_meet tsX7_meet rfl tnX7 tdX7_meet ⟨Nat.le_of_ble_eq_true rfl, Nat.le_of_ble_eq_true rfl⟩ eu3 rfl (Nat.le_of_ble_eq_true rfl) dL_law_673 ?_
  refine vi_aload_n C 2 dL_law_676 rfl ?_
  refine vi_aload_n C 0 dL_law_677 rfl ?_
  refine vi_iload_n C 3 dL_law_678 rfl ?_
  refine vi_iconst (v := 1) C dL_law_679 (by decide) ?_
  refine vi_iadd C dL_law_680 ?_
  obtain ⟨hz5, h⟩ := ob_if h
  refine vi_sld C hX hbl hbA hz5 dL_law_681 ?_
  refine vi_aload_n C 0 dL_law_682 rfl ?_
  refine vi_iload_n C 3 dL_law_683 rfl ?_
  refine vi_iconst (v := 2) C dL_law_684 (by decide) ?_
  refine vi_iadd C dL_law_685 ?_
  obtain ⟨hz6, h⟩ := ob_if h
  refine vi_sld C hX hbl hbA hz6 dL_law_686 ?_
  obtain ⟨y8, u7b, hgu7, h⟩ := ob_p h
  obtain ⟨u7, eu7, h⟩ := ob_nm h
  refine cL_R_i (As := [.int (xs (Int32.toNatClampNeg (x1 + (1 : Int32)))), .int (xs (Int32.toNatClampNeg (x1 + (2 : Int32))))]) (rest := [.int y4]) C (mX8_meet C.2.2.2.2.2.2.2.2.1 hgu7) 2 rfl tcX8_meet tlL_84 tiX8_meet tsX8_meet rfl tnX8 tdX8_meet ⟨Nat.le_of_ble_eq_true rfl, Nat.le_of_ble_eq_true rfl⟩ eu7 rfl (Nat.le_of_ble_eq_true rfl) dL_law_687 ?_
  refine vi_icmp_eq (tgt := 1198) C dL_law_690 (by decide) (fun hc9 => ?_) (fun hc9 => ?_)
  · have h := ob_t h hc9
    refine vi_sub C [0, 1, 2, 3] rfl ?_
    exact kL_law_1198 C hX hbl hbA RET REC_18  _ _ h
  · have h := ob_f h hc9
    refine vi_iconst (v := 0) C dL_law_693 (by decide) ?_
    cases h
def fL_law_639 (xs : Nat → Int32) (L : Nat) (rec_18 : Int32 → vL → Option (Unit)) (x1 : Int32) (u : vL) : Option Unit := if x1 + (1 : Int32) < 0 ∨ L ≤ Int32.toNatClampNeg (x1 + (1 : Int32)) then none else obp (fX7_fixAgain (xs (Int32.toNatClampNeg (x1 + (1 : Int32)))) u.1) fun y3 u2b => bd ((u2b, u.2)) fun u2 => if x1 + (1 : Int32) < 0 ∨ L ≤ Int32.toNatClampNeg (x1 + (1 : Int32)) then none else obp (fX8_fixAgain (xs (Int32.toNatClampNeg (x1 + (1 : Int32)))) u2.2) fun y6 u5b => bd ((u2.1, u5b)) fun u5 => (if y3 = y6 then fL_law_1198 xs L rec_18 x1 u5 else none)
set_option maxRecDepth 100000 in
set_option maxHeartbeats 8000000 in
theorem kL_law_639 {ad adK adV : Nat → Nat} {tS tF : Nat} {p : Program} {l : Launch} {e : Env} {s : State} {m : MethodId} {args : Array Value} {below : List Frame} {meth : Method} {c : Code} {A : Nat → Prop} {D : va_G} {cI cF cC cS cO : ClassId} {Q : State → Prop} {q0 qs qo qt qv qr qx ql q : Nat → Nat} {qh : Nat → Nat → Nat} {b L : Nat} {xs : Nat → Int32} (C : vC (vE ad adK adV tS tF) p l s m args meth c A D (vT5 cI cF cC cS cO) cL_law 8 RL) (hX : va_X b L xs s s.heap) (hbl : b < s.heap.size) (hbA : ¬ A b) (RET : ∀ (u : vL) (pc : Nat) (lv : List (Nat × Value)), decode cL_law pc = .ok (.ireturn, 1) → vV p l e room_1 s m args below meth c A D 8 600000 7302249 Q (wX q0 qs qo qt qv qr qx ql ad qh cI cF cC cS cO u.1 ++ wR q cI u.2) pc lv [.int 1]) {rec_18 : Int32 → vL → Option (Unit)} (REC_18 : ∀ (x1 : Int32) (u : vL), rec_18 x1 u = some () → vV p l e room_1 s m args below meth c A D 8 600000 7302249 Q (wX q0 qs qo qt qv qr qx ql ad qh cI cF cC cS cO u.1 ++ wR q cI u.2) 18 [(0, .ref b), (1, .ref (q0 0)), (2, .ref (q 0)), (3, .int x1)] []) : ∀ (x1 : Int32) (u : vL), fL_law_639 xs L rec_18 x1 u = some () → vV p l e room_1 s m args below meth c A D 8 600000 7302249 Q (wX q0 qs qo qt qv qr qx ql ad qh cI cF cC cS cO u.1 ++ wR q cI u.2) 639 [(0, .ref b), (1, .ref (q0 0)), (2, .ref (q 0)), (3, .int x1)] [] := by
  intro x1 u h
  rw [fL_law_639] at h
  refine vi_aload_n C 1 dL_law_639 rfl ?_
  refine vi_aload_n C 0 dL_law_640 rfl ?_
  refine vi_iload_n C 3 dL_law_641 rfl ?_
  refine vi_iconst (v := 1) C dL_law_642 (by decide) ?_
  refine vi_iadd C dL_law_643 ?_
  obtain ⟨hz1, h⟩ := ob_if h
  refine vi_sld C hX hbl hbA hz1 dL_law_644 ?_
  obtain ⟨y3, u2b, hgu2, h⟩ := ob_p h
  obtain ⟨u2, eu2, h⟩ := ob_nm h
  refine cL_X_i (As := [.int (xs (Int32.toNatClampNeg (x1 + (1 : Int32))))]) (rest := []) C (mX7_fixAgain C.2.2.2.2.2.2.2.2.1 hgu2) 1 rfl tcX7_fixAgain tlL_77 tiX7_fixAgain tsX7_fixAgain rfl tnX7 tdX7_fixAgain ⟨Nat.le_of_ble_eq_true rfl, Nat.le_of_ble_eq_true rfl⟩ eu2 rfl (Nat.le_of_ble_eq_true rfl) dL_law_645 ?_
  refine vi_aload_n C 2 dL_law_648 rfl ?_
  refine vi_aload_n C 0 dL_law_649 rfl ?_
  refine vi_iload_n C 3 dL_law_650 rfl ?_
  refine vi_iconst (v := 1) C dL_law_651 (by decide) ?_
  refine vi_iadd C dL_law_652 ?_
  obtain ⟨hz4, h⟩ := ob_if h
  refine vi_sld C hX hbl hbA hz4 dL_law_653 ?_
  obtain ⟨y6, u5b, hgu5, h⟩ := ob_p h
  obtain ⟨u5, eu5, h⟩ := ob_nm h
  refine cL_R_i (As := [.int (xs (Int32.toNatClampNeg (x1 + (1 : Int32))))]) (rest := [.int y3]) C (mX8_fixAgain C.2.2.2.2.2.2.2.2.1 hgu5) 1 rfl tcX8_fixAgain tlL_80 tiX8_fixAgain tsX8_fixAgain rfl tnX8 tdX8_fixAgain ⟨Nat.le_of_ble_eq_true rfl, Nat.le_of_ble_eq_true rfl⟩ eu5 rfl (Nat.le_of_ble_eq_true rfl) dL_law_654 ?_
  refine vi_icmp_eq (tgt := 1198) C dL_law_657 (by decide) (fun hc7 => ?_) (fun hc7 => ?_)
  · have h := ob_t h hc7
    refine vi_sub C [0, 1, 2, 3] rfl ?_
    exact kL_law_1198 C hX hbl hbA RET REC_18  _ _ h
  · have h := ob_f h hc7
    refine vi_iconst (v := 0) C dL_law_660 (by decide) ?_
    cases h
def fL_law_616 (xs : Nat → Int32) (L : Nat) (rec_18 : Int32 → vL → Option (Unit)) (x1 : Int32) (u : vL) : Option Unit := if x1 + (1 : Int32) < 0 ∨ L ≤ Int32.toNatClampNeg (x1 + (1 : Int32)) then none else obp (fX7_fixBits (xs (Int32.toNatClampNeg (x1 + (1 : Int32)))) u.1) fun y3 u2b => bd ((u2b, u.2)) fun u2 => if x1 + (1 : Int32) < 0 ∨ L ≤ Int32.toNatClampNeg (x1 + (1 : Int32)) then none else obp (fX8_fixBits (xs (Int32.toNatClampNeg (x1 + (1 : Int32)))) u2.2) fun y6 u5b => bd ((u2.1, u5b)) fun u5 => (if y3 = y6 then fL_law_1198 xs L rec_18 x1 u5 else none)
set_option maxRecDepth 100000 in
set_option maxHeartbeats 8000000 in
theorem kL_law_616 {ad adK adV : Nat → Nat} {tS tF : Nat} {p : Program} {l : Launch} {e : Env} {s : State} {m : MethodId} {args : Array Value} {below : List Frame} {meth : Method} {c : Code} {A : Nat → Prop} {D : va_G} {cI cF cC cS cO : ClassId} {Q : State → Prop} {q0 qs qo qt qv qr qx ql q : Nat → Nat} {qh : Nat → Nat → Nat} {b L : Nat} {xs : Nat → Int32} (C : vC (vE ad adK adV tS tF) p l s m args meth c A D (vT5 cI cF cC cS cO) cL_law 8 RL) (hX : va_X b L xs s s.heap) (hbl : b < s.heap.size) (hbA : ¬ A b) (RET : ∀ (u : vL) (pc : Nat) (lv : List (Nat × Value)), decode cL_law pc = .ok (.ireturn, 1) → vV p l e room_1 s m args below meth c A D 8 600000 7302249 Q (wX q0 qs qo qt qv qr qx ql ad qh cI cF cC cS cO u.1 ++ wR q cI u.2) pc lv [.int 1]) {rec_18 : Int32 → vL → Option (Unit)} (REC_18 : ∀ (x1 : Int32) (u : vL), rec_18 x1 u = some () → vV p l e room_1 s m args below meth c A D 8 600000 7302249 Q (wX q0 qs qo qt qv qr qx ql ad qh cI cF cC cS cO u.1 ++ wR q cI u.2) 18 [(0, .ref b), (1, .ref (q0 0)), (2, .ref (q 0)), (3, .int x1)] []) : ∀ (x1 : Int32) (u : vL), fL_law_616 xs L rec_18 x1 u = some () → vV p l e room_1 s m args below meth c A D 8 600000 7302249 Q (wX q0 qs qo qt qv qr qx ql ad qh cI cF cC cS cO u.1 ++ wR q cI u.2) 616 [(0, .ref b), (1, .ref (q0 0)), (2, .ref (q 0)), (3, .int x1)] [] := by
  intro x1 u h
  rw [fL_law_616] at h
  refine vi_aload_n C 1 dL_law_616 rfl ?_
  refine vi_aload_n C 0 dL_law_617 rfl ?_
  refine vi_iload_n C 3 dL_law_618 rfl ?_
  refine vi_iconst (v := 1) C dL_law_619 (by decide) ?_
  refine vi_iadd C dL_law_620 ?_
  obtain ⟨hz1, h⟩ := ob_if h
  refine vi_sld C hX hbl hbA hz1 dL_law_621 ?_
  obtain ⟨y3, u2b, hgu2, h⟩ := ob_p h
  obtain ⟨u2, eu2, h⟩ := ob_nm h
  refine cL_X_i (As := [.int (xs (Int32.toNatClampNeg (x1 + (1 : Int32))))]) (rest := []) C (mX7_fixBits C.2.2.2.2.2.2.2.2.1 hgu2) 1 rfl tcX7_fixBits tlL_73 tiX7_fixBits tsX7_fixBits rfl tnX7 tdX7_fixBits ⟨Nat.le_of_ble_eq_true rfl, Nat.le_of_ble_eq_true rfl⟩ eu2 rfl (Nat.le_of_ble_eq_true rfl) dL_law_622 ?_
  refine vi_aload_n C 2 dL_law_625 rfl ?_
  refine vi_aload_n C 0 dL_law_626 rfl ?_
  refine vi_iload_n C 3 dL_law_627 rfl ?_
  refine vi_iconst (v := 1) C dL_law_628 (by decide) ?_
  refine vi_iadd C dL_law_629 ?_
  obtain ⟨hz4, h⟩ := ob_if h
  refine vi_sld C hX hbl hbA hz4 dL_law_630 ?_
  obtain ⟨y6, u5b, hgu5, h⟩ := ob_p h
  obtain ⟨u5, eu5, h⟩ := ob_nm h
  refine cL_R_i (As := [.int (xs (Int32.toNatClampNeg (x1 + (1 : Int32))))]) (rest := [.int y3]) C (mX8_fixBits C.2.2.2.2.2.2.2.2.1 hgu5) 1 rfl tcX8_fixBits tlL_76 tiX8_fixBits tsX8_fixBits rfl tnX8 tdX8_fixBits ⟨Nat.le_of_ble_eq_true rfl, Nat.le_of_ble_eq_true rfl⟩ eu5 rfl (Nat.le_of_ble_eq_true rfl) dL_law_631 ?_
  refine vi_icmp_eq (tgt := 1198) C dL_law_634 (by decide) (fun hc7 => ?_) (fun hc7 => ?_)
  · have h := ob_t h hc7
    refine vi_sub C [0, 1, 2, 3] rfl ?_
    exact kL_law_1198 C hX hbl hbA RET REC_18  _ _ h
  · have h := ob_f h hc7
    refine vi_iconst (v := 0) C dL_law_637 (by decide) ?_
    cases h
def fL_law_593 (xs : Nat → Int32) (L : Nat) (rec_18 : Int32 → vL → Option (Unit)) (x1 : Int32) (u : vL) : Option Unit := if x1 + (1 : Int32) < 0 ∨ L ≤ Int32.toNatClampNeg (x1 + (1 : Int32)) then none else obp (fX7_readBits (xs (Int32.toNatClampNeg (x1 + (1 : Int32)))) u.1) fun y3 u2b => bd ((u2b, u.2)) fun u2 => if x1 + (1 : Int32) < 0 ∨ L ≤ Int32.toNatClampNeg (x1 + (1 : Int32)) then none else obp (fX8_readBits (xs (Int32.toNatClampNeg (x1 + (1 : Int32)))) u2.2) fun y6 u5b => bd ((u2.1, u5b)) fun u5 => (if y3 = y6 then fL_law_1198 xs L rec_18 x1 u5 else none)
set_option maxRecDepth 100000 in
set_option maxHeartbeats 8000000 in
theorem kL_law_593 {ad adK adV : Nat → Nat} {tS tF : Nat} {p : Program} {l : Launch} {e : Env} {s : State} {m : MethodId} {args : Array Value} {below : List Frame} {meth : Method} {c : Code} {A : Nat → Prop} {D : va_G} {cI cF cC cS cO : ClassId} {Q : State → Prop} {q0 qs qo qt qv qr qx ql q : Nat → Nat} {qh : Nat → Nat → Nat} {b L : Nat} {xs : Nat → Int32} (C : vC (vE ad adK adV tS tF) p l s m args meth c A D (vT5 cI cF cC cS cO) cL_law 8 RL) (hX : va_X b L xs s s.heap) (hbl : b < s.heap.size) (hbA : ¬ A b) (RET : ∀ (u : vL) (pc : Nat) (lv : List (Nat × Value)), decode cL_law pc = .ok (.ireturn, 1) → vV p l e room_1 s m args below meth c A D 8 600000 7302249 Q (wX q0 qs qo qt qv qr qx ql ad qh cI cF cC cS cO u.1 ++ wR q cI u.2) pc lv [.int 1]) {rec_18 : Int32 → vL → Option (Unit)} (REC_18 : ∀ (x1 : Int32) (u : vL), rec_18 x1 u = some () → vV p l e room_1 s m args below meth c A D 8 600000 7302249 Q (wX q0 qs qo qt qv qr qx ql ad qh cI cF cC cS cO u.1 ++ wR q cI u.2) 18 [(0, .ref b), (1, .ref (q0 0)), (2, .ref (q 0)), (3, .int x1)] []) : ∀ (x1 : Int32) (u : vL), fL_law_593 xs L rec_18 x1 u = some () → vV p l e room_1 s m args below meth c A D 8 600000 7302249 Q (wX q0 qs qo qt qv qr qx ql ad qh cI cF cC cS cO u.1 ++ wR q cI u.2) 593 [(0, .ref b), (1, .ref (q0 0)), (2, .ref (q 0)), (3, .int x1)] [] := by
  intro x1 u h
  rw [fL_law_593] at h
  refine vi_aload_n C 1 dL_law_593 rfl ?_
  refine vi_aload_n C 0 dL_law_594 rfl ?_
  refine vi_iload_n C 3 dL_law_595 rfl ?_
  refine vi_iconst (v := 1) C dL_law_596 (by decide) ?_
  refine vi_iadd C dL_law_597 ?_
  obtain ⟨hz1, h⟩ := ob_if h
  refine vi_sld C hX hbl hbA hz1 dL_law_598 ?_
  obtain ⟨y3, u2b, hgu2, h⟩ := ob_p h
  obtain ⟨u2, eu2, h⟩ := ob_nm h
  refine cL_X_i (As := [.int (xs (Int32.toNatClampNeg (x1 + (1 : Int32))))]) (rest := []) C (mX7_readBits C.2.2.2.2.2.2.2.2.1 hgu2) 1 rfl tcX7_readBits tlL_69 tiX7_readBits tsX7_readBits rfl tnX7 tdX7_readBits ⟨Nat.le_of_ble_eq_true rfl, Nat.le_of_ble_eq_true rfl⟩ eu2 rfl (Nat.le_of_ble_eq_true rfl) dL_law_599 ?_
  refine vi_aload_n C 2 dL_law_602 rfl ?_
  refine vi_aload_n C 0 dL_law_603 rfl ?_
  refine vi_iload_n C 3 dL_law_604 rfl ?_
  refine vi_iconst (v := 1) C dL_law_605 (by decide) ?_
  refine vi_iadd C dL_law_606 ?_
  obtain ⟨hz4, h⟩ := ob_if h
  refine vi_sld C hX hbl hbA hz4 dL_law_607 ?_
  obtain ⟨y6, u5b, hgu5, h⟩ := ob_p h
  obtain ⟨u5, eu5, h⟩ := ob_nm h
  refine cL_R_i (As := [.int (xs (Int32.toNatClampNeg (x1 + (1 : Int32))))]) (rest := [.int y3]) C (mX8_readBits C.2.2.2.2.2.2.2.2.1 hgu5) 1 rfl tcX8_readBits tlL_72 tiX8_readBits tsX8_readBits rfl tnX8 tdX8_readBits ⟨Nat.le_of_ble_eq_true rfl, Nat.le_of_ble_eq_true rfl⟩ eu5 rfl (Nat.le_of_ble_eq_true rfl) dL_law_608 ?_
  refine vi_icmp_eq (tgt := 1198) C dL_law_611 (by decide) (fun hc7 => ?_) (fun hc7 => ?_)
  · have h := ob_t h hc7
    refine vi_sub C [0, 1, 2, 3] rfl ?_
    exact kL_law_1198 C hX hbl hbA RET REC_18  _ _ h
  · have h := ob_f h hc7
    refine vi_iconst (v := 0) C dL_law_614 (by decide) ?_
    cases h
def fL_law_540 (xs : Nat → Int32) (L : Nat) (rec_18 : Int32 → vL → Option (Unit)) (x1 : Int32) (u : vL) : Option Unit := if x1 + (1 : Int32) < 0 ∨ L ≤ Int32.toNatClampNeg (x1 + (1 : Int32)) then none else obp (fX7_angle (xs (Int32.toNatClampNeg (x1 + (1 : Int32)))) u.1) fun y3 u2b => bd ((u2b, u.2)) fun u2 => if (FP.f2d y3) &&& 0x7fffffffffffffff ≤ 0x7ff0000000000000 then bd ((FP.f2d y3 : UInt64)) fun y5 => if x1 + (1 : Int32) < 0 ∨ L ≤ Int32.toNatClampNeg (x1 + (1 : Int32)) then none else obp (fX8_angle (xs (Int32.toNatClampNeg (x1 + (1 : Int32)))) u2.2) fun y8 u7b => bd ((u2.1, u7b)) fun u7 => if (FP.f2d y8) &&& 0x7fffffffffffffff ≤ 0x7ff0000000000000 then bd ((FP.f2d y8 : UInt64)) fun y10 => (if Op.cmpValue (FP.dcmp y5 y10) CmpOp.l = 0 then fL_law_1198 xs L rec_18 x1 u7 else (if Op.cmpValue (FP.dcmp y5 y5) CmpOp.l = 0 then none else (if Op.cmpValue (FP.dcmp y10 y10) CmpOp.l = 0 then none else fL_law_1198 xs L rec_18 x1 u7))) else none else none
set_option maxRecDepth 100000 in
set_option maxHeartbeats 8000000 in
theorem kL_law_540 {ad adK adV : Nat → Nat} {tS tF : Nat} {p : Program} {l : Launch} {e : Env} {s : State} {m : MethodId} {args : Array Value} {below : List Frame} {meth : Method} {c : Code} {A : Nat → Prop} {D : va_G} {cI cF cC cS cO : ClassId} {Q : State → Prop} {q0 qs qo qt qv qr qx ql q : Nat → Nat} {qh : Nat → Nat → Nat} {b L : Nat} {xs : Nat → Int32} (C : vC (vE ad adK adV tS tF) p l s m args meth c A D (vT5 cI cF cC cS cO) cL_law 8 RL) (hX : va_X b L xs s s.heap) (hbl : b < s.heap.size) (hbA : ¬ A b) (RET : ∀ (u : vL) (pc : Nat) (lv : List (Nat × Value)), decode cL_law pc = .ok (.ireturn, 1) → vV p l e room_1 s m args below meth c A D 8 600000 7302249 Q (wX q0 qs qo qt qv qr qx ql ad qh cI cF cC cS cO u.1 ++ wR q cI u.2) pc lv [.int 1]) {rec_18 : Int32 → vL → Option (Unit)} (REC_18 : ∀ (x1 : Int32) (u : vL), rec_18 x1 u = some () → vV p l e room_1 s m args below meth c A D 8 600000 7302249 Q (wX q0 qs qo qt qv qr qx ql ad qh cI cF cC cS cO u.1 ++ wR q cI u.2) 18 [(0, .ref b), (1, .ref (q0 0)), (2, .ref (q 0)), (3, .int x1)] []) : ∀ (x1 : Int32) (u : vL), fL_law_540 xs L rec_18 x1 u = some () → vV p l e room_1 s m args below meth c A D 8 600000 7302249 Q (wX q0 qs qo qt qv qr qx ql ad qh cI cF cC cS cO u.1 ++ wR q cI u.2) 540 [(0, .ref b), (1, .ref (q0 0)), (2, .ref (q 0)), (3, .int x1)] [] := by
  intro x1 u h
  rw [fL_law_540] at h
  refine vi_aload_n C 1 dL_law_540 rfl ?_
  refine vi_aload_n C 0 dL_law_541 rfl ?_
  refine vi_iload_n C 3 dL_law_542 rfl ?_
  refine vi_iconst (v := 1) C dL_law_543 (by decide) ?_
  refine vi_iadd C dL_law_544 ?_
  obtain ⟨hz1, h⟩ := ob_if h
  refine vi_sld C hX hbl hbA hz1 dL_law_545 ?_
  obtain ⟨y3, u2b, hgu2, h⟩ := ob_p h
  obtain ⟨u2, eu2, h⟩ := ob_nm h
  refine cL_X_f (As := [.int (xs (Int32.toNatClampNeg (x1 + (1 : Int32))))]) (rest := []) C (mX7_angle C.2.2.2.2.2.2.2.2.1 hgu2) 1 rfl tcX7_angle tlL_64 tiX7_angle tsX7_angle rfl tnX7 tdX7_angle ⟨Nat.le_of_ble_eq_true rfl, Nat.le_of_ble_eq_true rfl⟩ eu2 rfl (Nat.le_of_ble_eq_true rfl) dL_law_546 ?_
  obtain ⟨hz4, h⟩ := ob_ok h
  refine vi_f2d C dL_law_549 hz4 ?_
  obtain ⟨y5, ey5, h⟩ := ob_nm h
  refine vi_nmd ey5 ?_
  refine vi_dstore (lv' := [(4, .double y5), (0, .ref b), (1, .ref (q0 0)), (2, .ref (q 0)), (3, .int x1)]) C dL_law_550 (by decide) rfl ?_
  refine vi_aload_n C 3 dL_law_552 rfl ?_
  refine vi_aload_n C 1 dL_law_553 rfl ?_
  refine vi_iload_n C 4 dL_law_554 rfl ?_
  refine vi_iconst (v := 1) C dL_law_555 (by decide) ?_
  refine vi_iadd C dL_law_556 ?_
  obtain ⟨hz6, h⟩ := ob_if h
  refine vi_sld C hX hbl hbA hz6 dL_law_557 ?_
  obtain ⟨y8, u7b, hgu7, h⟩ := ob_p h
  obtain ⟨u7, eu7, h⟩ := ob_nm h
  refine cL_R_f (As := [.int (xs (Int32.toNatClampNeg (x1 + (1 : Int32))))]) (rest := []) C (mX8_angle C.2.2.2.2.2.2.2.2.1 hgu7) 1 rfl tcX8_angle tlL_68 tiX8_angle tsX8_angle rfl tnX8 tdX8_angle ⟨Nat.le_of_ble_eq_true rfl, Nat.le_of_ble_eq_true rfl⟩ eu7 rfl (Nat.le_of_ble_eq_true rfl) dL_law_558 ?_
  obtain ⟨hz9, h⟩ := ob_ok h
  refine vi_f2d C dL_law_561 hz9 ?_
  obtain ⟨y10, ey10, h⟩ := ob_nm h
  refine vi_nmd ey10 ?_
  refine vi_dstore (lv' := [(6, .double y10), (4, .double y5), (0, .ref b), (1, .ref (q0 0)), (2, .ref (q 0)), (3, .int x1)]) C dL_law_562 (by decide) rfl ?_
  refine vi_dload C 1 dL_law_564 rfl ?_
  refine vi_dload C 0 dL_law_566 rfl ?_
  refine vi_dcmp C dL_law_568 ?_
  refine vi_if_eq (tgt := 590) C dL_law_569 (by decide) (fun hc11 => ?_) (fun hc11 => ?_)
  · have h := ob_t h hc11
    refine vi_goto (tgt := 1198) C dL_law_590 (by decide) ?_
    refine vi_sub C [2, 3, 4, 5] rfl ?_
    exact kL_law_1198 C hX hbl hbA RET REC_18  _ _ h
  · have h := ob_f h hc11
    refine vi_dload C 1 dL_law_572 rfl ?_
    refine vi_dload C 1 dL_law_574 rfl ?_
    refine vi_dcmp C dL_law_576 ?_
    refine vi_if_eq (tgt := 588) C dL_law_577 (by decide) (fun hc12 => ?_) (fun hc12 => ?_)
    · have h := ob_t h hc12
      refine vi_iconst (v := 0) C dL_law_588 (by decide) ?_
      cases h
    · have h := ob_f h hc12
      refine vi_dload C 0 dL_law_580 rfl ?_
      refine vi_dload C 0 dL_law_582 rfl ?_
      refine vi_dcmp C dL_law_584 ?_
      refine vi_if_ne (tgt := 590) C dL_law_585 (by decide) (fun hc13 => ?_) (fun hc13 => ?_)
      · have h := ob_f h hc13
        refine vi_goto (tgt := 1198) C dL_law_590 (by decide) ?_
        refine vi_sub C [2, 3, 4, 5] rfl ?_
        exact kL_law_1198 C hX hbl hbA RET REC_18  _ _ h
      · have h := ob_t h hc13
        refine vi_iconst (v := 0) C dL_law_588 (by decide) ?_
        cases h
def fL_law_507 (xs : Nat → Int32) (L : Nat) (rec_18 : Int32 → vL → Option (Unit)) (x1 : Int32) (u : vL) : Option Unit := if x1 + (1 : Int32) < 0 ∨ L ≤ Int32.toNatClampNeg (x1 + (1 : Int32)) then none else if x1 + (2 : Int32) < 0 ∨ L ≤ Int32.toNatClampNeg (x1 + (2 : Int32)) then none else obp (fX7_sightOf (xs (Int32.toNatClampNeg (x1 + (1 : Int32)))) (xs (Int32.toNatClampNeg (x1 + (2 : Int32)))) u.1) fun y4 u3b => bd ((u3b, u.2)) fun u3 => if x1 + (1 : Int32) < 0 ∨ L ≤ Int32.toNatClampNeg (x1 + (1 : Int32)) then none else if x1 + (2 : Int32) < 0 ∨ L ≤ Int32.toNatClampNeg (x1 + (2 : Int32)) then none else obp (fX8_sightOf (xs (Int32.toNatClampNeg (x1 + (1 : Int32)))) (xs (Int32.toNatClampNeg (x1 + (2 : Int32)))) u3.2) fun y8 u7b => bd ((u3.1, u7b)) fun u7 => (if y4 = y8 then fL_law_1198 xs L rec_18 x1 u7 else none)
set_option maxRecDepth 100000 in
set_option maxHeartbeats 8000000 in
theorem kL_law_507 {ad adK adV : Nat → Nat} {tS tF : Nat} {p : Program} {l : Launch} {e : Env} {s : State} {m : MethodId} {args : Array Value} {below : List Frame} {meth : Method} {c : Code} {A : Nat → Prop} {D : va_G} {cI cF cC cS cO : ClassId} {Q : State → Prop} {q0 qs qo qt qv qr qx ql q : Nat → Nat} {qh : Nat → Nat → Nat} {b L : Nat} {xs : Nat → Int32} (C : vC (vE ad adK adV tS tF) p l s m args meth c A D (vT5 cI cF cC cS cO) cL_law 8 RL) (hX : va_X b L xs s s.heap) (hbl : b < s.heap.size) (hbA : ¬ A b) (RET : ∀ (u : vL) (pc : Nat) (lv : List (Nat × Value)), decode cL_law pc = .ok (.ireturn, 1) → vV p l e room_1 s m args below meth c A D 8 600000 7302249 Q (wX q0 qs qo qt qv qr qx ql ad qh cI cF cC cS cO u.1 ++ wR q cI u.2) pc lv [.int 1]) {rec_18 : Int32 → vL → Option (Unit)} (REC_18 : ∀ (x1 : Int32) (u : vL), rec_18 x1 u = some () → vV p l e room_1 s m args below meth c A D 8 600000 7302249 Q (wX q0 qs qo qt qv qr qx ql ad qh cI cF cC cS cO u.1 ++ wR q cI u.2) 18 [(0, .ref b), (1, .ref (q0 0)), (2, .ref (q 0)), (3, .int x1)] []) : ∀ (x1 : Int32) (u : vL), fL_law_507 xs L rec_18 x1 u = some () → vV p l e room_1 s m args below meth c A D 8 600000 7302249 Q (wX q0 qs qo qt qv qr qx ql ad qh cI cF cC cS cO u.1 ++ wR q cI u.2) 507 [(0, .ref b), (1, .ref (q0 0)), (2, .ref (q 0)), (3, .int x1)] [] := by
  intro x1 u h
  rw [fL_law_507] at h
  refine vi_aload_n C 1 dL_law_507 rfl ?_
  refine vi_aload_n C 0 dL_law_508 rfl ?_
  refine vi_iload_n C 3 dL_law_509 rfl ?_
  refine vi_iconst (v := 1) C dL_law_510 (by decide) ?_
  refine vi_iadd C dL_law_511 ?_
  obtain ⟨hz1, h⟩ := ob_if h
  refine vi_sld C hX hbl hbA hz1 dL_law_512 ?_
  refine vi_aload_n C 0 dL_law_513 rfl ?_
  refine vi_iload_n C 3 dL_law_514 rfl ?_
  refine vi_iconst (v := 2) C dL_law_515 (by decide) ?_
  refine vi_iadd C dL_law_516 ?_
  obtain ⟨hz2, h⟩ := ob_if h
  refine vi_sld C hX hbl hbA hz2 dL_law_517 ?_
  obtain ⟨y4, u3b, hgu3, h⟩ := ob_p h
  obtain ⟨u3, eu3, h⟩ := ob_nm h
  refine cL_X_i (As := [.int (xs (Int32.toNatClampNeg (x1 + (1 : Int32)))), .int (xs (Int32.toNatClampNeg (x1 + (2 : Int32))))]) (rest := []) C (mX7_sightOf C.2.2.2.2.2.2.2.2.1 hgu3) 2 rfl tcX7_sightOf tlL_60 tiX7_sightOf tsX7_sightOf rfl tnX7 tdX7_sightOf ⟨Nat.le_of_ble_eq_true rfl, Nat.le_of_ble_eq_true rfl⟩ eu3 rfl (Nat.le_of_ble_eq_true rfl) dL_law_518 ?_
  refine vi_aload_n C 2 dL_law_521 rfl ?_
  refine vi_aload_n C 0 dL_law_522 rfl ?_
  refine vi_iload_n C 3 dL_law_523 rfl ?_
  refine vi_iconst (v := 1) C dL_law_524 (by decide) ?_
  refine vi_iadd C dL_law_525 ?_
  obtain ⟨hz5, h⟩ := ob_if h
  refine vi_sld C hX hbl hbA hz5 dL_law_526 ?_
  refine vi_aload_n C 0 dL_law_527 rfl ?_
  refine vi_iload_n C 3 dL_law_528 rfl ?_
  refine vi_iconst (v := 2) C dL_law_529 (by decide) ?_
  refine vi_iadd C dL_law_530 ?_
  obtain ⟨hz6, h⟩ := ob_if h
  refine vi_sld C hX hbl hbA hz6 dL_law_531 ?_
  obtain ⟨y8, u7b, hgu7, h⟩ := ob_p h
  obtain ⟨u7, eu7, h⟩ := ob_nm h
  refine cL_R_i (As := [.int (xs (Int32.toNatClampNeg (x1 + (1 : Int32)))), .int (xs (Int32.toNatClampNeg (x1 + (2 : Int32))))]) (rest := [.int y4]) C (mX8_sightOf C.2.2.2.2.2.2.2.2.1 hgu7) 2 rfl tcX8_sightOf tlL_63 tiX8_sightOf tsX8_sightOf rfl tnX8 tdX8_sightOf ⟨Nat.le_of_ble_eq_true rfl, Nat.le_of_ble_eq_true rfl⟩ eu7 rfl (Nat.le_of_ble_eq_true rfl) dL_law_532 ?_
  refine vi_icmp_eq (tgt := 1198) C dL_law_535 (by decide) (fun hc9 => ?_) (fun hc9 => ?_)
  · have h := ob_t h hc9
    refine vi_sub C [0, 1, 2, 3] rfl ?_
    exact kL_law_1198 C hX hbl hbA RET REC_18  _ _ h
  · have h := ob_f h hc9
    refine vi_iconst (v := 0) C dL_law_538 (by decide) ?_
    cases h
def fL_law_474 (xs : Nat → Int32) (L : Nat) (rec_18 : Int32 → vL → Option (Unit)) (x1 : Int32) (u : vL) : Option Unit := if x1 + (1 : Int32) < 0 ∨ L ≤ Int32.toNatClampNeg (x1 + (1 : Int32)) then none else if x1 + (2 : Int32) < 0 ∨ L ≤ Int32.toNatClampNeg (x1 + (2 : Int32)) then none else obp (fX7_watchOf (xs (Int32.toNatClampNeg (x1 + (1 : Int32)))) (xs (Int32.toNatClampNeg (x1 + (2 : Int32)))) u.1) fun y4 u3b => bd ((u3b, u.2)) fun u3 => if x1 + (1 : Int32) < 0 ∨ L ≤ Int32.toNatClampNeg (x1 + (1 : Int32)) then none else if x1 + (2 : Int32) < 0 ∨ L ≤ Int32.toNatClampNeg (x1 + (2 : Int32)) then none else obp (fX8_watchOf (xs (Int32.toNatClampNeg (x1 + (1 : Int32)))) (xs (Int32.toNatClampNeg (x1 + (2 : Int32)))) u3.2) fun y8 u7b => bd ((u3.1, u7b)) fun u7 => (if y4 = y8 then fL_law_1198 xs L rec_18 x1 u7 else none)
set_option maxRecDepth 100000 in
set_option maxHeartbeats 8000000 in
theorem kL_law_474 {ad adK adV : Nat → Nat} {tS tF : Nat} {p : Program} {l : Launch} {e : Env} {s : State} {m : MethodId} {args : Array Value} {below : List Frame} {meth : Method} {c : Code} {A : Nat → Prop} {D : va_G} {cI cF cC cS cO : ClassId} {Q : State → Prop} {q0 qs qo qt qv qr qx ql q : Nat → Nat} {qh : Nat → Nat → Nat} {b L : Nat} {xs : Nat → Int32} (C : vC (vE ad adK adV tS tF) p l s m args meth c A D (vT5 cI cF cC cS cO) cL_law 8 RL) (hX : va_X b L xs s s.heap) (hbl : b < s.heap.size) (hbA : ¬ A b) (RET : ∀ (u : vL) (pc : Nat) (lv : List (Nat × Value)), decode cL_law pc = .ok (.ireturn, 1) → vV p l e room_1 s m args below meth c A D 8 600000 7302249 Q (wX q0 qs qo qt qv qr qx ql ad qh cI cF cC cS cO u.1 ++ wR q cI u.2) pc lv [.int 1]) {rec_18 : Int32 → vL → Option (Unit)} (REC_18 : ∀ (x1 : Int32) (u : vL), rec_18 x1 u = some () → vV p l e room_1 s m args below meth c A D 8 600000 7302249 Q (wX q0 qs qo qt qv qr qx ql ad qh cI cF cC cS cO u.1 ++ wR q cI u.2) 18 [(0, .ref b), (1, .ref (q0 0)), (2, .ref (q 0)), (3, .int x1)] []) : ∀ (x1 : Int32) (u : vL), fL_law_474 xs L rec_18 x1 u = some () → vV p l e room_1 s m args below meth c A D 8 600000 7302249 Q (wX q0 qs qo qt qv qr qx ql ad qh cI cF cC cS cO u.1 ++ wR q cI u.2) 474 [(0, .ref b), (1, .ref (q0 0)), (2, .ref (q 0)), (3, .int x1)] [] := by
  intro x1 u h
  rw [fL_law_474] at h
  refine vi_aload_n C 1 dL_law_474 rfl ?_
  refine vi_aload_n C 0 dL_law_475 rfl ?_
  refine vi_iload_n C 3 dL_law_476 rfl ?_
  refine vi_iconst (v := 1) C dL_law_477 (by decide) ?_
  refine vi_iadd C dL_law_478 ?_
  obtain ⟨hz1, h⟩ := ob_if h
  refine vi_sld C hX hbl hbA hz1 dL_law_479 ?_
  refine vi_aload_n C 0 dL_law_480 rfl ?_
  refine vi_iload_n C 3 dL_law_481 rfl ?_
  refine vi_iconst (v := 2) C dL_law_482 (by decide) ?_
  refine vi_iadd C dL_law_483 ?_
  obtain ⟨hz2, h⟩ := ob_if h
  refine vi_sld C hX hbl hbA hz2 dL_law_484 ?_
  obtain ⟨y4, u3b, hgu3, h⟩ := ob_p h
  obtain ⟨u3, eu3, h⟩ := ob_nm h
  refine cL_X_i (As := [.int (xs (Int32.toNatClampNeg (x1 + (1 : Int32)))), .int (xs (Int32.toNatClampNeg (x1 + (2 : Int32))))]) (rest := []) C (mX7_watchOf C.2.2.2.2.2.2.2.2.1 hgu3) 2 rfl tcX7_watchOf tlL_56 tiX7_watchOf tsX7_watchOf rfl tnX7 tdX7_watchOf ⟨Nat.le_of_ble_eq_true rfl, Nat.le_of_ble_eq_true rfl⟩ eu3 rfl (Nat.le_of_ble_eq_true rfl) dL_law_485 ?_
  refine vi_aload_n C 2 dL_law_488 rfl ?_
  refine vi_aload_n C 0 dL_law_489 rfl ?_
  refine vi_iload_n C 3 dL_law_490 rfl ?_
  refine vi_iconst (v := 1) C dL_law_491 (by decide) ?_
  refine vi_iadd C dL_law_492 ?_
  obtain ⟨hz5, h⟩ := ob_if h
  refine vi_sld C hX hbl hbA hz5 dL_law_493 ?_
  refine vi_aload_n C 0 dL_law_494 rfl ?_
  refine vi_iload_n C 3 dL_law_495 rfl ?_
  refine vi_iconst (v := 2) C dL_law_496 (by decide) ?_
  refine vi_iadd C dL_law_497 ?_
  obtain ⟨hz6, h⟩ := ob_if h
  refine vi_sld C hX hbl hbA hz6 dL_law_498 ?_
  obtain ⟨y8, u7b, hgu7, h⟩ := ob_p h
  obtain ⟨u7, eu7, h⟩ := ob_nm h
  refine cL_R_i (As := [.int (xs (Int32.toNatClampNeg (x1 + (1 : Int32)))), .int (xs (Int32.toNatClampNeg (x1 + (2 : Int32))))]) (rest := [.int y4]) C (mX8_watchOf C.2.2.2.2.2.2.2.2.1 hgu7) 2 rfl tcX8_watchOf tlL_59 tiX8_watchOf tsX8_watchOf rfl tnX8 tdX8_watchOf ⟨Nat.le_of_ble_eq_true rfl, Nat.le_of_ble_eq_true rfl⟩ eu7 rfl (Nat.le_of_ble_eq_true rfl) dL_law_499 ?_
  refine vi_icmp_eq (tgt := 1198) C dL_law_502 (by decide) (fun hc9 => ?_) (fun hc9 => ?_)
  · have h := ob_t h hc9
    refine vi_sub C [0, 1, 2, 3] rfl ?_
    exact kL_law_1198 C hX hbl hbA RET REC_18  _ _ h
  · have h := ob_f h hc9
    refine vi_iconst (v := 0) C dL_law_505 (by decide) ?_
    cases h
def fL_law_441 (xs : Nat → Int32) (L : Nat) (rec_18 : Int32 → vL → Option (Unit)) (x1 : Int32) (u : vL) : Option Unit := if x1 + (1 : Int32) < 0 ∨ L ≤ Int32.toNatClampNeg (x1 + (1 : Int32)) then none else if x1 + (2 : Int32) < 0 ∨ L ≤ Int32.toNatClampNeg (x1 + (2 : Int32)) then none else obp (fX7_sailorOf (xs (Int32.toNatClampNeg (x1 + (1 : Int32)))) (xs (Int32.toNatClampNeg (x1 + (2 : Int32)))) u.1) fun y4 u3b => bd ((u3b, u.2)) fun u3 => if x1 + (1 : Int32) < 0 ∨ L ≤ Int32.toNatClampNeg (x1 + (1 : Int32)) then none else if x1 + (2 : Int32) < 0 ∨ L ≤ Int32.toNatClampNeg (x1 + (2 : Int32)) then none else obp (fX8_sailorOf (xs (Int32.toNatClampNeg (x1 + (1 : Int32)))) (xs (Int32.toNatClampNeg (x1 + (2 : Int32)))) u3.2) fun y8 u7b => bd ((u3.1, u7b)) fun u7 => (if y4 = y8 then fL_law_1198 xs L rec_18 x1 u7 else none)
set_option maxRecDepth 100000 in
set_option maxHeartbeats 8000000 in
theorem kL_law_441 {ad adK adV : Nat → Nat} {tS tF : Nat} {p : Program} {l : Launch} {e : Env} {s : State} {m : MethodId} {args : Array Value} {below : List Frame} {meth : Method} {c : Code} {A : Nat → Prop} {D : va_G} {cI cF cC cS cO : ClassId} {Q : State → Prop} {q0 qs qo qt qv qr qx ql q : Nat → Nat} {qh : Nat → Nat → Nat} {b L : Nat} {xs : Nat → Int32} (C : vC (vE ad adK adV tS tF) p l s m args meth c A D (vT5 cI cF cC cS cO) cL_law 8 RL) (hX : va_X b L xs s s.heap) (hbl : b < s.heap.size) (hbA : ¬ A b) (RET : ∀ (u : vL) (pc : Nat) (lv : List (Nat × Value)), decode cL_law pc = .ok (.ireturn, 1) → vV p l e room_1 s m args below meth c A D 8 600000 7302249 Q (wX q0 qs qo qt qv qr qx ql ad qh cI cF cC cS cO u.1 ++ wR q cI u.2) pc lv [.int 1]) {rec_18 : Int32 → vL → Option (Unit)} (REC_18 : ∀ (x1 : Int32) (u : vL), rec_18 x1 u = some () → vV p l e room_1 s m args below meth c A D 8 600000 7302249 Q (wX q0 qs qo qt qv qr qx ql ad qh cI cF cC cS cO u.1 ++ wR q cI u.2) 18 [(0, .ref b), (1, .ref (q0 0)), (2, .ref (q 0)), (3, .int x1)] []) : ∀ (x1 : Int32) (u : vL), fL_law_441 xs L rec_18 x1 u = some () → vV p l e room_1 s m args below meth c A D 8 600000 7302249 Q (wX q0 qs qo qt qv qr qx ql ad qh cI cF cC cS cO u.1 ++ wR q cI u.2) 441 [(0, .ref b), (1, .ref (q0 0)), (2, .ref (q 0)), (3, .int x1)] [] := by
  intro x1 u h
  rw [fL_law_441] at h
  refine vi_aload_n C 1 dL_law_441 rfl ?_
  refine vi_aload_n C 0 dL_law_442 rfl ?_
  refine vi_iload_n C 3 dL_law_443 rfl ?_
  refine vi_iconst (v := 1) C dL_law_444 (by decide) ?_
  refine vi_iadd C dL_law_445 ?_
  obtain ⟨hz1, h⟩ := ob_if h
  refine vi_sld C hX hbl hbA hz1 dL_law_446 ?_
  refine vi_aload_n C 0 dL_law_447 rfl ?_
  refine vi_iload_n C 3 dL_law_448 rfl ?_
  refine vi_iconst (v := 2) C dL_law_449 (by decide) ?_
  refine vi_iadd C dL_law_450 ?_
  obtain ⟨hz2, h⟩ := ob_if h
  refine vi_sld C hX hbl hbA hz2 dL_law_451 ?_
  obtain ⟨y4, u3b, hgu3, h⟩ := ob_p h
  obtain ⟨u3, eu3, h⟩ := ob_nm h
  refine cL_X_i (As := [.int (xs (Int32.toNatClampNeg (x1 + (1 : Int32)))), .int (xs (Int32.toNatClampNeg (x1 + (2 : Int32))))]) (rest := []) C (mX7_sailorOf C.2.2.2.2.2.2.2.2.1 hgu3) 2 rfl tcX7_sailorOf tlL_52 tiX7_sailorOf tsX7_sailorOf rfl tnX7 tdX7_sailorOf ⟨Nat.le_of_ble_eq_true rfl, Nat.le_of_ble_eq_true rfl⟩ eu3 rfl (Nat.le_of_ble_eq_true rfl) dL_law_452 ?_
  refine vi_aload_n C 2 dL_law_455 rfl ?_
  refine vi_aload_n C 0 dL_law_456 rfl ?_
  refine vi_iload_n C 3 dL_law_457 rfl ?_
  refine vi_iconst (v := 1) C dL_law_458 (by decide) ?_
  refine vi_iadd C dL_law_459 ?_
  obtain ⟨hz5, h⟩ := ob_if h
  refine vi_sld C hX hbl hbA hz5 dL_law_460 ?_
  refine vi_aload_n C 0 dL_law_461 rfl ?_
  refine vi_iload_n C 3 dL_law_462 rfl ?_
  refine vi_iconst (v := 2) C dL_law_463 (by decide) ?_
  refine vi_iadd C dL_law_464 ?_
  obtain ⟨hz6, h⟩ := ob_if h
  refine vi_sld C hX hbl hbA hz6 dL_law_465 ?_
  obtain ⟨y8, u7b, hgu7, h⟩ := ob_p h
  obtain ⟨u7, eu7, h⟩ := ob_nm h
  refine cL_R_i (As := [.int (xs (Int32.toNatClampNeg (x1 + (1 : Int32)))), .int (xs (Int32.toNatClampNeg (x1 + (2 : Int32))))]) (rest := [.int y4]) C (mX8_sailorOf C.2.2.2.2.2.2.2.2.1 hgu7) 2 rfl tcX8_sailorOf tlL_55 tiX8_sailorOf tsX8_sailorOf rfl tnX8 tdX8_sailorOf ⟨Nat.le_of_ble_eq_true rfl, Nat.le_of_ble_eq_true rfl⟩ eu7 rfl (Nat.le_of_ble_eq_true rfl) dL_law_466 ?_
  refine vi_icmp_eq (tgt := 1198) C dL_law_469 (by decide) (fun hc9 => ?_) (fun hc9 => ?_)
  · have h := ob_t h hc9
    refine vi_sub C [0, 1, 2, 3] rfl ?_
    exact kL_law_1198 C hX hbl hbA RET REC_18  _ _ h
  · have h := ob_f h hc9
    refine vi_iconst (v := 0) C dL_law_472 (by decide) ?_
    cases h
def fL_law_428 (xs : Nat → Int32) (L : Nat) (rec_18 : Int32 → vL → Option (Unit)) (x1 : Int32) (u : vL) : Option Unit := obp (fX7_hour u.1) fun y2 u1b => bd ((u1b, u.2)) fun u1 => obp (fX8_hour u1.2) fun y4 u3b => bd ((u1.1, u3b)) fun u3 => (if y2 = y4 then fL_law_1198 xs L rec_18 x1 u3 else none)
set_option maxRecDepth 100000 in
set_option maxHeartbeats 8000000 in
theorem kL_law_428 {ad adK adV : Nat → Nat} {tS tF : Nat} {p : Program} {l : Launch} {e : Env} {s : State} {m : MethodId} {args : Array Value} {below : List Frame} {meth : Method} {c : Code} {A : Nat → Prop} {D : va_G} {cI cF cC cS cO : ClassId} {Q : State → Prop} {q0 qs qo qt qv qr qx ql q : Nat → Nat} {qh : Nat → Nat → Nat} {b L : Nat} {xs : Nat → Int32} (C : vC (vE ad adK adV tS tF) p l s m args meth c A D (vT5 cI cF cC cS cO) cL_law 8 RL) (hX : va_X b L xs s s.heap) (hbl : b < s.heap.size) (hbA : ¬ A b) (RET : ∀ (u : vL) (pc : Nat) (lv : List (Nat × Value)), decode cL_law pc = .ok (.ireturn, 1) → vV p l e room_1 s m args below meth c A D 8 600000 7302249 Q (wX q0 qs qo qt qv qr qx ql ad qh cI cF cC cS cO u.1 ++ wR q cI u.2) pc lv [.int 1]) {rec_18 : Int32 → vL → Option (Unit)} (REC_18 : ∀ (x1 : Int32) (u : vL), rec_18 x1 u = some () → vV p l e room_1 s m args below meth c A D 8 600000 7302249 Q (wX q0 qs qo qt qv qr qx ql ad qh cI cF cC cS cO u.1 ++ wR q cI u.2) 18 [(0, .ref b), (1, .ref (q0 0)), (2, .ref (q 0)), (3, .int x1)] []) : ∀ (x1 : Int32) (u : vL), fL_law_428 xs L rec_18 x1 u = some () → vV p l e room_1 s m args below meth c A D 8 600000 7302249 Q (wX q0 qs qo qt qv qr qx ql ad qh cI cF cC cS cO u.1 ++ wR q cI u.2) 428 [(0, .ref b), (1, .ref (q0 0)), (2, .ref (q 0)), (3, .int x1)] [] := by
  intro x1 u h
  rw [fL_law_428] at h
  refine vi_aload_n C 1 dL_law_428 rfl ?_
  obtain ⟨y2, u1b, hgu1, h⟩ := ob_p h
  obtain ⟨u1, eu1, h⟩ := ob_nm h
  refine cL_X_i (As := []) (rest := []) C (mX7_hour C.2.2.2.2.2.2.2.2.1 hgu1) 0 rfl tcX7_hour tlL_47 tiX7_hour tsX7_hour rfl tnX7 tdX7_hour ⟨Nat.le_of_ble_eq_true rfl, Nat.le_of_ble_eq_true rfl⟩ eu1 rfl (Nat.le_of_ble_eq_true rfl) dL_law_429 ?_
  refine vi_aload_n C 2 dL_law_432 rfl ?_
  obtain ⟨y4, u3b, hgu3, h⟩ := ob_p h
  obtain ⟨u3, eu3, h⟩ := ob_nm h
  refine cL_R_i (As := []) (rest := [.int y2]) C (mX8_hour C.2.2.2.2.2.2.2.2.1 hgu3) 0 rfl tcX8_hour tlL_51 tiX8_hour tsX8_hour rfl tnX8 tdX8_hour ⟨Nat.le_of_ble_eq_true rfl, Nat.le_of_ble_eq_true rfl⟩ eu3 rfl (Nat.le_of_ble_eq_true rfl) dL_law_433 ?_
  refine vi_icmp_eq (tgt := 1198) C dL_law_436 (by decide) (fun hc5 => ?_) (fun hc5 => ?_)
  · have h := ob_t h hc5
    refine vi_sub C [0, 1, 2, 3] rfl ?_
    exact kL_law_1198 C hX hbl hbA RET REC_18  _ _ h
  · have h := ob_f h hc5
    refine vi_iconst (v := 0) C dL_law_439 (by decide) ?_
    cases h
def fL_law_405 (xs : Nat → Int32) (L : Nat) (rec_18 : Int32 → vL → Option (Unit)) (x1 : Int32) (u : vL) : Option Unit := if x1 + (1 : Int32) < 0 ∨ L ≤ Int32.toNatClampNeg (x1 + (1 : Int32)) then none else obp (fX7_sight (xs (Int32.toNatClampNeg (x1 + (1 : Int32)))) u.1) fun y3 u2b => bd ((u2b, u.2)) fun u2 => if x1 + (1 : Int32) < 0 ∨ L ≤ Int32.toNatClampNeg (x1 + (1 : Int32)) then none else obp (fX8_sight (xs (Int32.toNatClampNeg (x1 + (1 : Int32)))) u2.2) fun y6 u5b => bd ((u2.1, u5b)) fun u5 => (if y3 = y6 then fL_law_1198 xs L rec_18 x1 u5 else none)
set_option maxRecDepth 100000 in
set_option maxHeartbeats 8000000 in
theorem kL_law_405 {ad adK adV : Nat → Nat} {tS tF : Nat} {p : Program} {l : Launch} {e : Env} {s : State} {m : MethodId} {args : Array Value} {below : List Frame} {meth : Method} {c : Code} {A : Nat → Prop} {D : va_G} {cI cF cC cS cO : ClassId} {Q : State → Prop} {q0 qs qo qt qv qr qx ql q : Nat → Nat} {qh : Nat → Nat → Nat} {b L : Nat} {xs : Nat → Int32} (C : vC (vE ad adK adV tS tF) p l s m args meth c A D (vT5 cI cF cC cS cO) cL_law 8 RL) (hX : va_X b L xs s s.heap) (hbl : b < s.heap.size) (hbA : ¬ A b) (RET : ∀ (u : vL) (pc : Nat) (lv : List (Nat × Value)), decode cL_law pc = .ok (.ireturn, 1) → vV p l e room_1 s m args below meth c A D 8 600000 7302249 Q (wX q0 qs qo qt qv qr qx ql ad qh cI cF cC cS cO u.1 ++ wR q cI u.2) pc lv [.int 1]) {rec_18 : Int32 → vL → Option (Unit)} (REC_18 : ∀ (x1 : Int32) (u : vL), rec_18 x1 u = some () → vV p l e room_1 s m args below meth c A D 8 600000 7302249 Q (wX q0 qs qo qt qv qr qx ql ad qh cI cF cC cS cO u.1 ++ wR q cI u.2) 18 [(0, .ref b), (1, .ref (q0 0)), (2, .ref (q 0)), (3, .int x1)] []) : ∀ (x1 : Int32) (u : vL), fL_law_405 xs L rec_18 x1 u = some () → vV p l e room_1 s m args below meth c A D 8 600000 7302249 Q (wX q0 qs qo qt qv qr qx ql ad qh cI cF cC cS cO u.1 ++ wR q cI u.2) 405 [(0, .ref b), (1, .ref (q0 0)), (2, .ref (q 0)), (3, .int x1)] [] := by
  intro x1 u h
  rw [fL_law_405] at h
  refine vi_aload_n C 1 dL_law_405 rfl ?_
  refine vi_aload_n C 0 dL_law_406 rfl ?_
  refine vi_iload_n C 3 dL_law_407 rfl ?_
  refine vi_iconst (v := 1) C dL_law_408 (by decide) ?_
  refine vi_iadd C dL_law_409 ?_
  obtain ⟨hz1, h⟩ := ob_if h
  refine vi_sld C hX hbl hbA hz1 dL_law_410 ?_
  obtain ⟨y3, u2b, hgu2, h⟩ := ob_p h
  obtain ⟨u2, eu2, h⟩ := ob_nm h
  refine cL_X_i (As := [.int (xs (Int32.toNatClampNeg (x1 + (1 : Int32))))]) (rest := []) C (mX7_sight C.2.2.2.2.2.2.2.2.1 hgu2) 1 rfl tcX7_sight tlL_43 tiX7_sight tsX7_sight rfl tnX7 tdX7_sight ⟨Nat.le_of_ble_eq_true rfl, Nat.le_of_ble_eq_true rfl⟩ eu2 rfl (Nat.le_of_ble_eq_true rfl) dL_law_411 ?_
  refine vi_aload_n C 2 dL_law_414 rfl ?_
  refine vi_aload_n C 0 dL_law_415 rfl ?_
  refine vi_iload_n C 3 dL_law_416 rfl ?_
  refine vi_iconst (v := 1) C dL_law_417 (by decide) ?_
  refine vi_iadd C dL_law_418 ?_
  obtain ⟨hz4, h⟩ := ob_if h
  refine vi_sld C hX hbl hbA hz4 dL_law_419 ?_
  obtain ⟨y6, u5b, hgu5, h⟩ := ob_p h
  obtain ⟨u5, eu5, h⟩ := ob_nm h
  refine cL_R_i (As := [.int (xs (Int32.toNatClampNeg (x1 + (1 : Int32))))]) (rest := [.int y3]) C (mX8_sight C.2.2.2.2.2.2.2.2.1 hgu5) 1 rfl tcX8_sight tlL_46 tiX8_sight tsX8_sight rfl tnX8 tdX8_sight ⟨Nat.le_of_ble_eq_true rfl, Nat.le_of_ble_eq_true rfl⟩ eu5 rfl (Nat.le_of_ble_eq_true rfl) dL_law_420 ?_
  refine vi_icmp_eq (tgt := 1198) C dL_law_423 (by decide) (fun hc7 => ?_) (fun hc7 => ?_)
  · have h := ob_t h hc7
    refine vi_sub C [0, 1, 2, 3] rfl ?_
    exact kL_law_1198 C hX hbl hbA RET REC_18  _ _ h
  · have h := ob_f h hc7
    refine vi_iconst (v := 0) C dL_law_426 (by decide) ?_
    cases h
def fL_law_382 (xs : Nat → Int32) (L : Nat) (rec_18 : Int32 → vL → Option (Unit)) (x1 : Int32) (u : vL) : Option Unit := if x1 + (1 : Int32) < 0 ∨ L ≤ Int32.toNatClampNeg (x1 + (1 : Int32)) then none else obp (fX7_error (xs (Int32.toNatClampNeg (x1 + (1 : Int32)))) u.1) fun y3 u2b => bd ((u2b, u.2)) fun u2 => if x1 + (1 : Int32) < 0 ∨ L ≤ Int32.toNatClampNeg (x1 + (1 : Int32)) then none else obp (fX8_error (xs (Int32.toNatClampNeg (x1 + (1 : Int32)))) u2.2) fun y6 u5b => bd ((u2.1, u5b)) fun u5 => (if y3 = y6 then fL_law_1198 xs L rec_18 x1 u5 else none)
set_option maxRecDepth 100000 in
set_option maxHeartbeats 8000000 in
theorem kL_law_382 {ad adK adV : Nat → Nat} {tS tF : Nat} {p : Program} {l : Launch} {e : Env} {s : State} {m : MethodId} {args : Array Value} {below : List Frame} {meth : Method} {c : Code} {A : Nat → Prop} {D : va_G} {cI cF cC cS cO : ClassId} {Q : State → Prop} {q0 qs qo qt qv qr qx ql q : Nat → Nat} {qh : Nat → Nat → Nat} {b L : Nat} {xs : Nat → Int32} (C : vC (vE ad adK adV tS tF) p l s m args meth c A D (vT5 cI cF cC cS cO) cL_law 8 RL) (hX : va_X b L xs s s.heap) (hbl : b < s.heap.size) (hbA : ¬ A b) (RET : ∀ (u : vL) (pc : Nat) (lv : List (Nat × Value)), decode cL_law pc = .ok (.ireturn, 1) → vV p l e room_1 s m args below meth c A D 8 600000 7302249 Q (wX q0 qs qo qt qv qr qx ql ad qh cI cF cC cS cO u.1 ++ wR q cI u.2) pc lv [.int 1]) {rec_18 : Int32 → vL → Option (Unit)} (REC_18 : ∀ (x1 : Int32) (u : vL), rec_18 x1 u = some () → vV p l e room_1 s m args below meth c A D 8 600000 7302249 Q (wX q0 qs qo qt qv qr qx ql ad qh cI cF cC cS cO u.1 ++ wR q cI u.2) 18 [(0, .ref b), (1, .ref (q0 0)), (2, .ref (q 0)), (3, .int x1)] []) : ∀ (x1 : Int32) (u : vL), fL_law_382 xs L rec_18 x1 u = some () → vV p l e room_1 s m args below meth c A D 8 600000 7302249 Q (wX q0 qs qo qt qv qr qx ql ad qh cI cF cC cS cO u.1 ++ wR q cI u.2) 382 [(0, .ref b), (1, .ref (q0 0)), (2, .ref (q 0)), (3, .int x1)] [] := by
  intro x1 u h
  rw [fL_law_382] at h
  refine vi_aload_n C 1 dL_law_382 rfl ?_
  refine vi_aload_n C 0 dL_law_383 rfl ?_
  refine vi_iload_n C 3 dL_law_384 rfl ?_
  refine vi_iconst (v := 1) C dL_law_385 (by decide) ?_
  refine vi_iadd C dL_law_386 ?_
  obtain ⟨hz1, h⟩ := ob_if h
  refine vi_sld C hX hbl hbA hz1 dL_law_387 ?_
  obtain ⟨y3, u2b, hgu2, h⟩ := ob_p h
  obtain ⟨u2, eu2, h⟩ := ob_nm h
  refine cL_X_i (As := [.int (xs (Int32.toNatClampNeg (x1 + (1 : Int32))))]) (rest := []) C (mX7_error C.2.2.2.2.2.2.2.2.1 hgu2) 1 rfl tcX7_error tlL_39 tiX7_error tsX7_error rfl tnX7 tdX7_error ⟨Nat.le_of_ble_eq_true rfl, Nat.le_of_ble_eq_true rfl⟩ eu2 rfl (Nat.le_of_ble_eq_true rfl) dL_law_388 ?_
  refine vi_aload_n C 2 dL_law_391 rfl ?_
  refine vi_aload_n C 0 dL_law_392 rfl ?_
  refine vi_iload_n C 3 dL_law_393 rfl ?_
  refine vi_iconst (v := 1) C dL_law_394 (by decide) ?_
  refine vi_iadd C dL_law_395 ?_
  obtain ⟨hz4, h⟩ := ob_if h
  refine vi_sld C hX hbl hbA hz4 dL_law_396 ?_
  obtain ⟨y6, u5b, hgu5, h⟩ := ob_p h
  obtain ⟨u5, eu5, h⟩ := ob_nm h
  refine cL_R_i (As := [.int (xs (Int32.toNatClampNeg (x1 + (1 : Int32))))]) (rest := [.int y3]) C (mX8_error C.2.2.2.2.2.2.2.2.1 hgu5) 1 rfl tcX8_error tlL_42 tiX8_error tsX8_error rfl tnX8 tdX8_error ⟨Nat.le_of_ble_eq_true rfl, Nat.le_of_ble_eq_true rfl⟩ eu5 rfl (Nat.le_of_ble_eq_true rfl) dL_law_397 ?_
  refine vi_icmp_eq (tgt := 1198) C dL_law_400 (by decide) (fun hc7 => ?_) (fun hc7 => ?_)
  · have h := ob_t h hc7
    refine vi_sub C [0, 1, 2, 3] rfl ?_
    exact kL_law_1198 C hX hbl hbA RET REC_18  _ _ h
  · have h := ob_f h hc7
    refine vi_iconst (v := 0) C dL_law_403 (by decide) ?_
    cases h
def fL_law_349 (xs : Nat → Int32) (L : Nat) (rec_18 : Int32 → vL → Option (Unit)) (x1 : Int32) (u : vL) : Option Unit := if x1 + (1 : Int32) < 0 ∨ L ≤ Int32.toNatClampNeg (x1 + (1 : Int32)) then none else if x1 + (2 : Int32) < 0 ∨ L ≤ Int32.toNatClampNeg (x1 + (2 : Int32)) then none else obp (fX7_horizon (xs (Int32.toNatClampNeg (x1 + (1 : Int32)))) (xs (Int32.toNatClampNeg (x1 + (2 : Int32)))) u.1) fun y4 u3b => bd ((u3b, u.2)) fun u3 => if x1 + (1 : Int32) < 0 ∨ L ≤ Int32.toNatClampNeg (x1 + (1 : Int32)) then none else if x1 + (2 : Int32) < 0 ∨ L ≤ Int32.toNatClampNeg (x1 + (2 : Int32)) then none else obp (fX8_horizon (xs (Int32.toNatClampNeg (x1 + (1 : Int32)))) (xs (Int32.toNatClampNeg (x1 + (2 : Int32)))) u3.2) fun y8 u7b => bd ((u3.1, u7b)) fun u7 => (if y4 = y8 then fL_law_1198 xs L rec_18 x1 u7 else none)
set_option maxRecDepth 100000 in
set_option maxHeartbeats 8000000 in
theorem kL_law_349 {ad adK adV : Nat → Nat} {tS tF : Nat} {p : Program} {l : Launch} {e : Env} {s : State} {m : MethodId} {args : Array Value} {below : List Frame} {meth : Method} {c : Code} {A : Nat → Prop} {D : va_G} {cI cF cC cS cO : ClassId} {Q : State → Prop} {q0 qs qo qt qv qr qx ql q : Nat → Nat} {qh : Nat → Nat → Nat} {b L : Nat} {xs : Nat → Int32} (C : vC (vE ad adK adV tS tF) p l s m args meth c A D (vT5 cI cF cC cS cO) cL_law 8 RL) (hX : va_X b L xs s s.heap) (hbl : b < s.heap.size) (hbA : ¬ A b) (RET : ∀ (u : vL) (pc : Nat) (lv : List (Nat × Value)), decode cL_law pc = .ok (.ireturn, 1) → vV p l e room_1 s m args below meth c A D 8 600000 7302249 Q (wX q0 qs qo qt qv qr qx ql ad qh cI cF cC cS cO u.1 ++ wR q cI u.2) pc lv [.int 1]) {rec_18 : Int32 → vL → Option (Unit)} (REC_18 : ∀ (x1 : Int32) (u : vL), rec_18 x1 u = some () → vV p l e room_1 s m args below meth c A D 8 600000 7302249 Q (wX q0 qs qo qt qv qr qx ql ad qh cI cF cC cS cO u.1 ++ wR q cI u.2) 18 [(0, .ref b), (1, .ref (q0 0)), (2, .ref (q 0)), (3, .int x1)] []) : ∀ (x1 : Int32) (u : vL), fL_law_349 xs L rec_18 x1 u = some () → vV p l e room_1 s m args below meth c A D 8 600000 7302249 Q (wX q0 qs qo qt qv qr qx ql ad qh cI cF cC cS cO u.1 ++ wR q cI u.2) 349 [(0, .ref b), (1, .ref (q0 0)), (2, .ref (q 0)), (3, .int x1)] [] := by
  intro x1 u h
  rw [fL_law_349] at h
  refine vi_aload_n C 1 dL_law_349 rfl ?_
  refine vi_aload_n C 0 dL_law_350 rfl ?_
  refine vi_iload_n C 3 dL_law_351 rfl ?_
  refine vi_iconst (v := 1) C dL_law_352 (by decide) ?_
  refine vi_iadd C dL_law_353 ?_
  obtain ⟨hz1, h⟩ := ob_if h
  refine vi_sld C hX hbl hbA hz1 dL_law_354 ?_
  refine vi_aload_n C 0 dL_law_355 rfl ?_
  refine vi_iload_n C 3 dL_law_356 rfl ?_
  refine vi_iconst (v := 2) C dL_law_357 (by decide) ?_
  refine vi_iadd C dL_law_358 ?_
  obtain ⟨hz2, h⟩ := ob_if h
  refine vi_sld C hX hbl hbA hz2 dL_law_359 ?_
  obtain ⟨y4, u3b, hgu3, h⟩ := ob_p h
  obtain ⟨u3, eu3, h⟩ := ob_nm h
  refine cL_X_i (As := [.int (xs (Int32.toNatClampNeg (x1 + (1 : Int32)))), .int (xs (Int32.toNatClampNeg (x1 + (2 : Int32))))]) (rest := []) C (mX7_horizon C.2.2.2.2.2.2.2.2.1 hgu3) 2 rfl tcX7_horizon tlL_35 tiX7_horizon tsX7_horizon rfl tnX7 tdX7_horizon ⟨Nat.le_of_ble_eq_true rfl, Nat.le_of_ble_eq_true rfl⟩ eu3 rfl (Nat.le_of_ble_eq_true rfl) dL_law_360 ?_
  refine vi_aload_n C 2 dL_law_363 rfl ?_
  refine vi_aload_n C 0 dL_law_364 rfl ?_
  refine vi_iload_n C 3 dL_law_365 rfl ?_
  refine vi_iconst (v := 1) C dL_law_366 (by decide) ?_
  refine vi_iadd C dL_law_367 ?_
  obtain ⟨hz5, h⟩ := ob_if h
  refine vi_sld C hX hbl hbA hz5 dL_law_368 ?_
  refine vi_aload_n C 0 dL_law_369 rfl ?_
  refine vi_iload_n C 3 dL_law_370 rfl ?_
  refine vi_iconst (v := 2) C dL_law_371 (by decide) ?_
  refine vi_iadd C dL_law_372 ?_
  obtain ⟨hz6, h⟩ := ob_if h
  refine vi_sld C hX hbl hbA hz6 dL_law_373 ?_
  obtain ⟨y8, u7b, hgu7, h⟩ := ob_p h
  obtain ⟨u7, eu7, h⟩ := ob_nm h
  refine cL_R_i (As := [.int (xs (Int32.toNatClampNeg (x1 + (1 : Int32)))), .int (xs (Int32.toNatClampNeg (x1 + (2 : Int32))))]) (rest := [.int y4]) C (mX8_horizon C.2.2.2.2.2.2.2.2.1 hgu7) 2 rfl tcX8_horizon tlL_38 tiX8_horizon tsX8_horizon rfl tnX8 tdX8_horizon ⟨Nat.le_of_ble_eq_true rfl, Nat.le_of_ble_eq_true rfl⟩ eu7 rfl (Nat.le_of_ble_eq_true rfl) dL_law_374 ?_
  refine vi_icmp_eq (tgt := 1198) C dL_law_377 (by decide) (fun hc9 => ?_) (fun hc9 => ?_)
  · have h := ob_t h hc9
    refine vi_sub C [0, 1, 2, 3] rfl ?_
    exact kL_law_1198 C hX hbl hbA RET REC_18  _ _ h
  · have h := ob_f h hc9
    refine vi_iconst (v := 0) C dL_law_380 (by decide) ?_
    cases h
def fL_law_316 (xs : Nat → Int32) (L : Nat) (rec_18 : Int32 → vL → Option (Unit)) (x1 : Int32) (u : vL) : Option Unit := if x1 + (1 : Int32) < 0 ∨ L ≤ Int32.toNatClampNeg (x1 + (1 : Int32)) then none else if x1 + (2 : Int32) < 0 ∨ L ≤ Int32.toNatClampNeg (x1 + (2 : Int32)) then none else obp (fX7_watch (xs (Int32.toNatClampNeg (x1 + (1 : Int32)))) (xs (Int32.toNatClampNeg (x1 + (2 : Int32)))) u.1) fun y4 u3b => bd ((u3b, u.2)) fun u3 => if x1 + (1 : Int32) < 0 ∨ L ≤ Int32.toNatClampNeg (x1 + (1 : Int32)) then none else if x1 + (2 : Int32) < 0 ∨ L ≤ Int32.toNatClampNeg (x1 + (2 : Int32)) then none else obp (fX8_watch (xs (Int32.toNatClampNeg (x1 + (1 : Int32)))) (xs (Int32.toNatClampNeg (x1 + (2 : Int32)))) u3.2) fun y8 u7b => bd ((u3.1, u7b)) fun u7 => (if y4 = y8 then fL_law_1198 xs L rec_18 x1 u7 else none)
set_option maxRecDepth 100000 in
set_option maxHeartbeats 8000000 in
theorem kL_law_316 {ad adK adV : Nat → Nat} {tS tF : Nat} {p : Program} {l : Launch} {e : Env} {s : State} {m : MethodId} {args : Array Value} {below : List Frame} {meth : Method} {c : Code} {A : Nat → Prop} {D : va_G} {cI cF cC cS cO : ClassId} {Q : State → Prop} {q0 qs qo qt qv qr qx ql q : Nat → Nat} {qh : Nat → Nat → Nat} {b L : Nat} {xs : Nat → Int32} (C : vC (vE ad adK adV tS tF) p l s m args meth c A D (vT5 cI cF cC cS cO) cL_law 8 RL) (hX : va_X b L xs s s.heap) (hbl : b < s.heap.size) (hbA : ¬ A b) (RET : ∀ (u : vL) (pc : Nat) (lv : List (Nat × Value)), decode cL_law pc = .ok (.ireturn, 1) → vV p l e room_1 s m args below meth c A D 8 600000 7302249 Q (wX q0 qs qo qt qv qr qx ql ad qh cI cF cC cS cO u.1 ++ wR q cI u.2) pc lv [.int 1]) {rec_18 : Int32 → vL → Option (Unit)} (REC_18 : ∀ (x1 : Int32) (u : vL), rec_18 x1 u = some () → vV p l e room_1 s m args below meth c A D 8 600000 7302249 Q (wX q0 qs qo qt qv qr qx ql ad qh cI cF cC cS cO u.1 ++ wR q cI u.2) 18 [(0, .ref b), (1, .ref (q0 0)), (2, .ref (q 0)), (3, .int x1)] []) : ∀ (x1 : Int32) (u : vL), fL_law_316 xs L rec_18 x1 u = some () → vV p l e room_1 s m args below meth c A D 8 600000 7302249 Q (wX q0 qs qo qt qv qr qx ql ad qh cI cF cC cS cO u.1 ++ wR q cI u.2) 316 [(0, .ref b), (1, .ref (q0 0)), (2, .ref (q 0)), (3, .int x1)] [] := by
  intro x1 u h
  rw [fL_law_316] at h
  refine vi_aload_n C 1 dL_law_316 rfl ?_
  refine vi_aload_n C 0 dL_law_317 rfl ?_
  refine vi_iload_n C 3 dL_law_318 rfl ?_
  refine vi_iconst (v := 1) C dL_law_319 (by decide) ?_
  refine vi_iadd C dL_law_320 ?_
  obtain ⟨hz1, h⟩ := ob_if h
  refine vi_sld C hX hbl hbA hz1 dL_law_321 ?_
  refine vi_aload_n C 0 dL_law_322 rfl ?_
  refine vi_iload_n C 3 dL_law_323 rfl ?_
  refine vi_iconst (v := 2) C dL_law_324 (by decide) ?_
  refine vi_iadd C dL_law_325 ?_
  obtain ⟨hz2, h⟩ := ob_if h
  refine vi_sld C hX hbl hbA hz2 dL_law_326 ?_
  obtain ⟨y4, u3b, hgu3, h⟩ := ob_p h
  obtain ⟨u3, eu3, h⟩ := ob_nm h
  refine cL_X_i (As := [.int (xs (Int32.toNatClampNeg (x1 + (1 : Int32)))), .int (xs (Int32.toNatClampNeg (x1 + (2 : Int32))))]) (rest := []) C (mX7_watch C.2.2.2.2.2.2.2.2.1 hgu3) 2 rfl tcX7_watch tlL_31 tiX7_watch tsX7_watch rfl tnX7 tdX7_watch ⟨Nat.le_of_ble_eq_true rfl, Nat.le_of_ble_eq_true rfl⟩ eu3 rfl (Nat.le_of_ble_eq_true rfl) dL_law_327 ?_
  refine vi_aload_n C 2 dL_law_330 rfl ?_
  refine vi_aload_n C 0 dL_law_331 rfl ?_
  refine vi_iload_n C 3 dL_law_332 rfl ?_
  refine vi_iconst (v := 1) C dL_law_333 (by decide) ?_
  refine vi_iadd C dL_law_334 ?_
  obtain ⟨hz5, h⟩ := ob_if h
  refine vi_sld C hX hbl hbA hz5 dL_law_335 ?_
  refine vi_aload_n C 0 dL_law_336 rfl ?_
  refine vi_iload_n C 3 dL_law_337 rfl ?_
  refine vi_iconst (v := 2) C dL_law_338 (by decide) ?_
  refine vi_iadd C dL_law_339 ?_
  obtain ⟨hz6, h⟩ := ob_if h
  refine vi_sld C hX hbl hbA hz6 dL_law_340 ?_
  obtain ⟨y8, u7b, hgu7, h⟩ := ob_p h
  obtain ⟨u7, eu7, h⟩ := ob_nm h
  refine cL_R_i (As := [.int (xs (Int32.toNatClampNeg (x1 + (1 : Int32)))), .int (xs (Int32.toNatClampNeg (x1 + (2 : Int32))))]) (rest := [.int y4]) C (mX8_watch C.2.2.2.2.2.2.2.2.1 hgu7) 2 rfl tcX8_watch tlL_34 tiX8_watch tsX8_watch rfl tnX8 tdX8_watch ⟨Nat.le_of_ble_eq_true rfl, Nat.le_of_ble_eq_true rfl⟩ eu7 rfl (Nat.le_of_ble_eq_true rfl) dL_law_341 ?_
  refine vi_icmp_eq (tgt := 1198) C dL_law_344 (by decide) (fun hc9 => ?_) (fun hc9 => ?_)
  · have h := ob_t h hc9
    refine vi_sub C [0, 1, 2, 3] rfl ?_
    exact kL_law_1198 C hX hbl hbA RET REC_18  _ _ h
  · have h := ob_f h hc9
    refine vi_iconst (v := 0) C dL_law_347 (by decide) ?_
    cases h
def fL_law_283 (xs : Nat → Int32) (L : Nat) (rec_18 : Int32 → vL → Option (Unit)) (x1 : Int32) (u : vL) : Option Unit := if x1 + (1 : Int32) < 0 ∨ L ≤ Int32.toNatClampNeg (x1 + (1 : Int32)) then none else if x1 + (2 : Int32) < 0 ∨ L ≤ Int32.toNatClampNeg (x1 + (2 : Int32)) then none else obp (fX7_rum (xs (Int32.toNatClampNeg (x1 + (1 : Int32)))) (xs (Int32.toNatClampNeg (x1 + (2 : Int32)))) u.1) fun y4 u3b => bd ((u3b, u.2)) fun u3 => if x1 + (1 : Int32) < 0 ∨ L ≤ Int32.toNatClampNeg (x1 + (1 : Int32)) then none else if x1 + (2 : Int32) < 0 ∨ L ≤ Int32.toNatClampNeg (x1 + (2 : Int32)) then none else obp (fX8_rum (xs (Int32.toNatClampNeg (x1 + (1 : Int32)))) (xs (Int32.toNatClampNeg (x1 + (2 : Int32)))) u3.2) fun y8 u7b => bd ((u3.1, u7b)) fun u7 => (if y4 = y8 then fL_law_1198 xs L rec_18 x1 u7 else none)
set_option maxRecDepth 100000 in
set_option maxHeartbeats 8000000 in
theorem kL_law_283 {ad adK adV : Nat → Nat} {tS tF : Nat} {p : Program} {l : Launch} {e : Env} {s : State} {m : MethodId} {args : Array Value} {below : List Frame} {meth : Method} {c : Code} {A : Nat → Prop} {D : va_G} {cI cF cC cS cO : ClassId} {Q : State → Prop} {q0 qs qo qt qv qr qx ql q : Nat → Nat} {qh : Nat → Nat → Nat} {b L : Nat} {xs : Nat → Int32} (C : vC (vE ad adK adV tS tF) p l s m args meth c A D (vT5 cI cF cC cS cO) cL_law 8 RL) (hX : va_X b L xs s s.heap) (hbl : b < s.heap.size) (hbA : ¬ A b) (RET : ∀ (u : vL) (pc : Nat) (lv : List (Nat × Value)), decode cL_law pc = .ok (.ireturn, 1) → vV p l e room_1 s m args below meth c A D 8 600000 7302249 Q (wX q0 qs qo qt qv qr qx ql ad qh cI cF cC cS cO u.1 ++ wR q cI u.2) pc lv [.int 1]) {rec_18 : Int32 → vL → Option (Unit)} (REC_18 : ∀ (x1 : Int32) (u : vL), rec_18 x1 u = some () → vV p l e room_1 s m args below meth c A D 8 600000 7302249 Q (wX q0 qs qo qt qv qr qx ql ad qh cI cF cC cS cO u.1 ++ wR q cI u.2) 18 [(0, .ref b), (1, .ref (q0 0)), (2, .ref (q 0)), (3, .int x1)] []) : ∀ (x1 : Int32) (u : vL), fL_law_283 xs L rec_18 x1 u = some () → vV p l e room_1 s m args below meth c A D 8 600000 7302249 Q (wX q0 qs qo qt qv qr qx ql ad qh cI cF cC cS cO u.1 ++ wR q cI u.2) 283 [(0, .ref b), (1, .ref (q0 0)), (2, .ref (q 0)), (3, .int x1)] [] := by
  intro x1 u h
  rw [fL_law_283] at h
  refine vi_aload_n C 1 dL_law_283 rfl ?_
  refine vi_aload_n C 0 dL_law_284 rfl ?_
  refine vi_iload_n C 3 dL_law_285 rfl ?_
  refine vi_iconst (v := 1) C dL_law_286 (by decide) ?_
  refine vi_iadd C dL_law_287 ?_
  obtain ⟨hz1, h⟩ := ob_if h
  refine vi_sld C hX hbl hbA hz1 dL_law_288 ?_
  refine vi_aload_n C 0 dL_law_289 rfl ?_
  refine vi_iload_n C 3 dL_law_290 rfl ?_
  refine vi_iconst (v := 2) C dL_law_291 (by decide) ?_
  refine vi_iadd C dL_law_292 ?_
  obtain ⟨hz2, h⟩ := ob_if h
  refine vi_sld C hX hbl hbA hz2 dL_law_293 ?_
  obtain ⟨y4, u3b, hgu3, h⟩ := ob_p h
  obtain ⟨u3, eu3, h⟩ := ob_nm h
  refine cL_X_i (As := [.int (xs (Int32.toNatClampNeg (x1 + (1 : Int32)))), .int (xs (Int32.toNatClampNeg (x1 + (2 : Int32))))]) (rest := []) C (mX7_rum C.2.2.2.2.2.2.2.2.1 hgu3) 2 rfl tcX7_rum tlL_27 tiX7_rum tsX7_rum rfl tnX7 tdX7_rum ⟨Nat.le_of_ble_eq_true rfl, Nat.le_of_ble_eq_true rfl⟩ eu3 rfl (Nat.le_of_ble_eq_true rfl) dL_law_294 ?_
  refine vi_aload_n C 2 dL_law_297 rfl ?_
  refine vi_aload_n C 0 dL_law_298 rfl ?_
  refine vi_iload_n C 3 dL_law_299 rfl ?_
  refine vi_iconst (v := 1) C dL_law_300 (by decide) ?_
  refine vi_iadd C dL_law_301 ?_
  obtain ⟨hz5, h⟩ := ob_if h
  refine vi_sld C hX hbl hbA hz5 dL_law_302 ?_
  refine vi_aload_n C 0 dL_law_303 rfl ?_
  refine vi_iload_n C 3 dL_law_304 rfl ?_
  refine vi_iconst (v := 2) C dL_law_305 (by decide) ?_
  refine vi_iadd C dL_law_306 ?_
  obtain ⟨hz6, h⟩ := ob_if h
  refine vi_sld C hX hbl hbA hz6 dL_law_307 ?_
  obtain ⟨y8, u7b, hgu7, h⟩ := ob_p h
  obtain ⟨u7, eu7, h⟩ := ob_nm h
  refine cL_R_i (As := [.int (xs (Int32.toNatClampNeg (x1 + (1 : Int32)))), .int (xs (Int32.toNatClampNeg (x1 + (2 : Int32))))]) (rest := [.int y4]) C (mX8_rum C.2.2.2.2.2.2.2.2.1 hgu7) 2 rfl tcX8_rum tlL_30 tiX8_rum tsX8_rum rfl tnX8 tdX8_rum ⟨Nat.le_of_ble_eq_true rfl, Nat.le_of_ble_eq_true rfl⟩ eu7 rfl (Nat.le_of_ble_eq_true rfl) dL_law_308 ?_
  refine vi_icmp_eq (tgt := 1198) C dL_law_311 (by decide) (fun hc9 => ?_) (fun hc9 => ?_)
  · have h := ob_t h hc9
    refine vi_sub C [0, 1, 2, 3] rfl ?_
    exact kL_law_1198 C hX hbl hbA RET REC_18  _ _ h
  · have h := ob_f h hc9
    refine vi_iconst (v := 0) C dL_law_314 (by decide) ?_
    cases h
def fL_law_250 (xs : Nat → Int32) (L : Nat) (rec_18 : Int32 → vL → Option (Unit)) (x1 : Int32) (u : vL) : Option Unit := if x1 + (1 : Int32) < 0 ∨ L ≤ Int32.toNatClampNeg (x1 + (1 : Int32)) then none else if x1 + (2 : Int32) < 0 ∨ L ≤ Int32.toNatClampNeg (x1 + (2 : Int32)) then none else obp (fX7_mood (xs (Int32.toNatClampNeg (x1 + (1 : Int32)))) (xs (Int32.toNatClampNeg (x1 + (2 : Int32)))) u.1) fun y4 u3b => bd ((u3b, u.2)) fun u3 => if x1 + (1 : Int32) < 0 ∨ L ≤ Int32.toNatClampNeg (x1 + (1 : Int32)) then none else if x1 + (2 : Int32) < 0 ∨ L ≤ Int32.toNatClampNeg (x1 + (2 : Int32)) then none else obp (fX8_mood (xs (Int32.toNatClampNeg (x1 + (1 : Int32)))) (xs (Int32.toNatClampNeg (x1 + (2 : Int32)))) u3.2) fun y8 u7b => bd ((u3.1, u7b)) fun u7 => (if y4 = y8 then fL_law_1198 xs L rec_18 x1 u7 else none)
set_option maxRecDepth 100000 in
set_option maxHeartbeats 8000000 in
theorem kL_law_250 {ad adK adV : Nat → Nat} {tS tF : Nat} {p : Program} {l : Launch} {e : Env} {s : State} {m : MethodId} {args : Array Value} {below : List Frame} {meth : Method} {c : Code} {A : Nat → Prop} {D : va_G} {cI cF cC cS cO : ClassId} {Q : State → Prop} {q0 qs qo qt qv qr qx ql q : Nat → Nat} {qh : Nat → Nat → Nat} {b L : Nat} {xs : Nat → Int32} (C : vC (vE ad adK adV tS tF) p l s m args meth c A D (vT5 cI cF cC cS cO) cL_law 8 RL) (hX : va_X b L xs s s.heap) (hbl : b < s.heap.size) (hbA : ¬ A b) (RET : ∀ (u : vL) (pc : Nat) (lv : List (Nat × Value)), decode cL_law pc = .ok (.ireturn, 1) → vV p l e room_1 s m args below meth c A D 8 600000 7302249 Q (wX q0 qs qo qt qv qr qx ql ad qh cI cF cC cS cO u.1 ++ wR q cI u.2) pc lv [.int 1]) {rec_18 : Int32 → vL → Option (Unit)} (REC_18 : ∀ (x1 : Int32) (u : vL), rec_18 x1 u = some () → vV p l e room_1 s m args below meth c A D 8 600000 7302249 Q (wX q0 qs qo qt qv qr qx ql ad qh cI cF cC cS cO u.1 ++ wR q cI u.2) 18 [(0, .ref b), (1, .ref (q0 0)), (2, .ref (q 0)), (3, .int x1)] []) : ∀ (x1 : Int32) (u : vL), fL_law_250 xs L rec_18 x1 u = some () → vV p l e room_1 s m args below meth c A D 8 600000 7302249 Q (wX q0 qs qo qt qv qr qx ql ad qh cI cF cC cS cO u.1 ++ wR q cI u.2) 250 [(0, .ref b), (1, .ref (q0 0)), (2, .ref (q 0)), (3, .int x1)] [] := by
  intro x1 u h
  rw [fL_law_250] at h
  refine vi_aload_n C 1 dL_law_250 rfl ?_
  refine vi_aload_n C 0 dL_law_251 rfl ?_
  refine vi_iload_n C 3 dL_law_252 rfl ?_
  refine vi_iconst (v := 1) C dL_law_253 (by decide) ?_
  refine vi_iadd C dL_law_254 ?_
  obtain ⟨hz1, h⟩ := ob_if h
  refine vi_sld C hX hbl hbA hz1 dL_law_255 ?_
  refine vi_aload_n C 0 dL_law_256 rfl ?_
  refine vi_iload_n C 3 dL_law_257 rfl ?_
  refine vi_iconst (v := 2) C dL_law_258 (by decide) ?_
  refine vi_iadd C dL_law_259 ?_
  obtain ⟨hz2, h⟩ := ob_if h
  refine vi_sld C hX hbl hbA hz2 dL_law_260 ?_
  obtain ⟨y4, u3b, hgu3, h⟩ := ob_p h
  obtain ⟨u3, eu3, h⟩ := ob_nm h
  refine cL_X_i (As := [.int (xs (Int32.toNatClampNeg (x1 + (1 : Int32)))), .int (xs (Int32.toNatClampNeg (x1 + (2 : Int32))))]) (rest := []) C (mX7_mood C.2.2.2.2.2.2.2.2.1 hgu3) 2 rfl tcX7_mood tlL_22 tiX7_mood tsX7_mood rfl tnX7 tdX7_mood ⟨Nat.le_of_ble_eq_true rfl, Nat.le_of_ble_eq_true rfl⟩ eu3 rfl (Nat.le_of_ble_eq_true rfl) dL_law_261 ?_
  refine vi_aload_n C 2 dL_law_264 rfl ?_
  refine vi_aload_n C 0 dL_law_265 rfl ?_
  refine vi_iload_n C 3 dL_law_266 rfl ?_
  refine vi_iconst (v := 1) C dL_law_267 (by decide) ?_
  refine vi_iadd C dL_law_268 ?_
  obtain ⟨hz5, h⟩ := ob_if h
  refine vi_sld C hX hbl hbA hz5 dL_law_269 ?_
  refine vi_aload_n C 0 dL_law_270 rfl ?_
  refine vi_iload_n C 3 dL_law_271 rfl ?_
  refine vi_iconst (v := 2) C dL_law_272 (by decide) ?_
  refine vi_iadd C dL_law_273 ?_
  obtain ⟨hz6, h⟩ := ob_if h
  refine vi_sld C hX hbl hbA hz6 dL_law_274 ?_
  obtain ⟨y8, u7b, hgu7, h⟩ := ob_p h
  obtain ⟨u7, eu7, h⟩ := ob_nm h
  refine cL_R_i (As := [.int (xs (Int32.toNatClampNeg (x1 + (1 : Int32)))), .int (xs (Int32.toNatClampNeg (x1 + (2 : Int32))))]) (rest := [.int y4]) C (mX8_mood C.2.2.2.2.2.2.2.2.1 hgu7) 2 rfl tcX8_mood tlL_26 tiX8_mood tsX8_mood rfl tnX8 tdX8_mood ⟨Nat.le_of_ble_eq_true rfl, Nat.le_of_ble_eq_true rfl⟩ eu7 rfl (Nat.le_of_ble_eq_true rfl) dL_law_275 ?_
  refine vi_icmp_eq (tgt := 1198) C dL_law_278 (by decide) (fun hc9 => ?_) (fun hc9 => ?_)
  · have h := ob_t h hc9
    refine vi_sub C [0, 1, 2, 3] rfl ?_
    exact kL_law_1198 C hX hbl hbA RET REC_18  _ _ h
  · have h := ob_f h hc9
    refine vi_iconst (v := 0) C dL_law_281 (by decide) ?_
    cases h
def fL_law_227 (xs : Nat → Int32) (L : Nat) (rec_18 : Int32 → vL → Option (Unit)) (x1 : Int32) (u : vL) : Option Unit := if x1 + (1 : Int32) < 0 ∨ L ≤ Int32.toNatClampNeg (x1 + (1 : Int32)) then none else obp (fX7_shore (xs (Int32.toNatClampNeg (x1 + (1 : Int32)))) u.1) fun y3 u2b => bd ((u2b, u.2)) fun u2 => if x1 + (1 : Int32) < 0 ∨ L ≤ Int32.toNatClampNeg (x1 + (1 : Int32)) then none else obp (fX8_shore (xs (Int32.toNatClampNeg (x1 + (1 : Int32)))) u2.2) fun y6 u5b => bd ((u2.1, u5b)) fun u5 => (if y3 = y6 then fL_law_1198 xs L rec_18 x1 u5 else none)
set_option maxRecDepth 100000 in
set_option maxHeartbeats 8000000 in
theorem kL_law_227 {ad adK adV : Nat → Nat} {tS tF : Nat} {p : Program} {l : Launch} {e : Env} {s : State} {m : MethodId} {args : Array Value} {below : List Frame} {meth : Method} {c : Code} {A : Nat → Prop} {D : va_G} {cI cF cC cS cO : ClassId} {Q : State → Prop} {q0 qs qo qt qv qr qx ql q : Nat → Nat} {qh : Nat → Nat → Nat} {b L : Nat} {xs : Nat → Int32} (C : vC (vE ad adK adV tS tF) p l s m args meth c A D (vT5 cI cF cC cS cO) cL_law 8 RL) (hX : va_X b L xs s s.heap) (hbl : b < s.heap.size) (hbA : ¬ A b) (RET : ∀ (u : vL) (pc : Nat) (lv : List (Nat × Value)), decode cL_law pc = .ok (.ireturn, 1) → vV p l e room_1 s m args below meth c A D 8 600000 7302249 Q (wX q0 qs qo qt qv qr qx ql ad qh cI cF cC cS cO u.1 ++ wR q cI u.2) pc lv [.int 1]) {rec_18 : Int32 → vL → Option (Unit)} (REC_18 : ∀ (x1 : Int32) (u : vL), rec_18 x1 u = some () → vV p l e room_1 s m args below meth c A D 8 600000 7302249 Q (wX q0 qs qo qt qv qr qx ql ad qh cI cF cC cS cO u.1 ++ wR q cI u.2) 18 [(0, .ref b), (1, .ref (q0 0)), (2, .ref (q 0)), (3, .int x1)] []) : ∀ (x1 : Int32) (u : vL), fL_law_227 xs L rec_18 x1 u = some () → vV p l e room_1 s m args below meth c A D 8 600000 7302249 Q (wX q0 qs qo qt qv qr qx ql ad qh cI cF cC cS cO u.1 ++ wR q cI u.2) 227 [(0, .ref b), (1, .ref (q0 0)), (2, .ref (q 0)), (3, .int x1)] [] := by
  intro x1 u h
  rw [fL_law_227] at h
  refine vi_aload_n C 1 dL_law_227 rfl ?_
  refine vi_aload_n C 0 dL_law_228 rfl ?_
  refine vi_iload_n C 3 dL_law_229 rfl ?_
  refine vi_iconst (v := 1) C dL_law_230 (by decide) ?_
  refine vi_iadd C dL_law_231 ?_
  obtain ⟨hz1, h⟩ := ob_if h
  refine vi_sld C hX hbl hbA hz1 dL_law_232 ?_
  obtain ⟨y3, u2b, hgu2, h⟩ := ob_p h
  obtain ⟨u2, eu2, h⟩ := ob_nm h
  refine cL_X_i (As := [.int (xs (Int32.toNatClampNeg (x1 + (1 : Int32))))]) (rest := []) C (mX7_shore C.2.2.2.2.2.2.2.2.1 hgu2) 1 rfl tcX7_shore tlL_18 tiX7_shore tsX7_shore rfl tnX7 tdX7_shore ⟨Nat.le_of_ble_eq_true rfl, Nat.le_of_ble_eq_true rfl⟩ eu2 rfl (Nat.le_of_ble_eq_true rfl) dL_law_233 ?_
  refine vi_aload_n C 2 dL_law_236 rfl ?_
  refine vi_aload_n C 0 dL_law_237 rfl ?_
  refine vi_iload_n C 3 dL_law_238 rfl ?_
  refine vi_iconst (v := 1) C dL_law_239 (by decide) ?_
  refine vi_iadd C dL_law_240 ?_
  obtain ⟨hz4, h⟩ := ob_if h
  refine vi_sld C hX hbl hbA hz4 dL_law_241 ?_
  obtain ⟨y6, u5b, hgu5, h⟩ := ob_p h
  obtain ⟨u5, eu5, h⟩ := ob_nm h
  refine cL_R_i (As := [.int (xs (Int32.toNatClampNeg (x1 + (1 : Int32))))]) (rest := [.int y3]) C (mX8_shore C.2.2.2.2.2.2.2.2.1 hgu5) 1 rfl tcX8_shore tlL_21 tiX8_shore tsX8_shore rfl tnX8 tdX8_shore ⟨Nat.le_of_ble_eq_true rfl, Nat.le_of_ble_eq_true rfl⟩ eu5 rfl (Nat.le_of_ble_eq_true rfl) dL_law_242 ?_
  refine vi_icmp_eq (tgt := 1198) C dL_law_245 (by decide) (fun hc7 => ?_) (fun hc7 => ?_)
  · have h := ob_t h hc7
    refine vi_sub C [0, 1, 2, 3] rfl ?_
    exact kL_law_1198 C hX hbl hbA RET REC_18  _ _ h
  · have h := ob_f h hc7
    refine vi_iconst (v := 0) C dL_law_248 (by decide) ?_
    cases h
def fL_law_204 (xs : Nat → Int32) (L : Nat) (rec_18 : Int32 → vL → Option (Unit)) (x1 : Int32) (u : vL) : Option Unit := if x1 + (1 : Int32) < 0 ∨ L ≤ Int32.toNatClampNeg (x1 + (1 : Int32)) then none else obp (fX7_sail (xs (Int32.toNatClampNeg (x1 + (1 : Int32)))) u.1) fun y3 u2b => bd ((u2b, u.2)) fun u2 => if x1 + (1 : Int32) < 0 ∨ L ≤ Int32.toNatClampNeg (x1 + (1 : Int32)) then none else obp (fX8_sail (xs (Int32.toNatClampNeg (x1 + (1 : Int32)))) u2.2) fun y6 u5b => bd ((u2.1, u5b)) fun u5 => (if y3 = y6 then fL_law_1198 xs L rec_18 x1 u5 else none)
set_option maxRecDepth 100000 in
set_option maxHeartbeats 8000000 in
theorem kL_law_204 {ad adK adV : Nat → Nat} {tS tF : Nat} {p : Program} {l : Launch} {e : Env} {s : State} {m : MethodId} {args : Array Value} {below : List Frame} {meth : Method} {c : Code} {A : Nat → Prop} {D : va_G} {cI cF cC cS cO : ClassId} {Q : State → Prop} {q0 qs qo qt qv qr qx ql q : Nat → Nat} {qh : Nat → Nat → Nat} {b L : Nat} {xs : Nat → Int32} (C : vC (vE ad adK adV tS tF) p l s m args meth c A D (vT5 cI cF cC cS cO) cL_law 8 RL) (hX : va_X b L xs s s.heap) (hbl : b < s.heap.size) (hbA : ¬ A b) (RET : ∀ (u : vL) (pc : Nat) (lv : List (Nat × Value)), decode cL_law pc = .ok (.ireturn, 1) → vV p l e room_1 s m args below meth c A D 8 600000 7302249 Q (wX q0 qs qo qt qv qr qx ql ad qh cI cF cC cS cO u.1 ++ wR q cI u.2) pc lv [.int 1]) {rec_18 : Int32 → vL → Option (Unit)} (REC_18 : ∀ (x1 : Int32) (u : vL), rec_18 x1 u = some () → vV p l e room_1 s m args below meth c A D 8 600000 7302249 Q (wX q0 qs qo qt qv qr qx ql ad qh cI cF cC cS cO u.1 ++ wR q cI u.2) 18 [(0, .ref b), (1, .ref (q0 0)), (2, .ref (q 0)), (3, .int x1)] []) : ∀ (x1 : Int32) (u : vL), fL_law_204 xs L rec_18 x1 u = some () → vV p l e room_1 s m args below meth c A D 8 600000 7302249 Q (wX q0 qs qo qt qv qr qx ql ad qh cI cF cC cS cO u.1 ++ wR q cI u.2) 204 [(0, .ref b), (1, .ref (q0 0)), (2, .ref (q 0)), (3, .int x1)] [] := by
  intro x1 u h
  rw [fL_law_204] at h
  refine vi_aload_n C 1 dL_law_204 rfl ?_
  refine vi_aload_n C 0 dL_law_205 rfl ?_
  refine vi_iload_n C 3 dL_law_206 rfl ?_
  refine vi_iconst (v := 1) C dL_law_207 (by decide) ?_
  refine vi_iadd C dL_law_208 ?_
  obtain ⟨hz1, h⟩ := ob_if h
  refine vi_sld C hX hbl hbA hz1 dL_law_209 ?_
  obtain ⟨y3, u2b, hgu2, h⟩ := ob_p h
  obtain ⟨u2, eu2, h⟩ := ob_nm h
  refine cL_X_i (As := [.int (xs (Int32.toNatClampNeg (x1 + (1 : Int32))))]) (rest := []) C (mX7_sail C.2.2.2.2.2.2.2.2.1 hgu2) 1 rfl tcX7_sail tlL_13 tiX7_sail tsX7_sail rfl tnX7 tdX7_sail ⟨Nat.le_of_ble_eq_true rfl, Nat.le_of_ble_eq_true rfl⟩ eu2 rfl (Nat.le_of_ble_eq_true rfl) dL_law_210 ?_
  refine vi_aload_n C 2 dL_law_213 rfl ?_
  refine vi_aload_n C 0 dL_law_214 rfl ?_
  refine vi_iload_n C 3 dL_law_215 rfl ?_
  refine vi_iconst (v := 1) C dL_law_216 (by decide) ?_
  refine vi_iadd C dL_law_217 ?_
  obtain ⟨hz4, h⟩ := ob_if h
  refine vi_sld C hX hbl hbA hz4 dL_law_218 ?_
  obtain ⟨y6, u5b, hgu5, h⟩ := ob_p h
  obtain ⟨u5, eu5, h⟩ := ob_nm h
  refine cL_R_i (As := [.int (xs (Int32.toNatClampNeg (x1 + (1 : Int32))))]) (rest := [.int y3]) C (mX8_sail C.2.2.2.2.2.2.2.2.1 hgu5) 1 rfl tcX8_sail tlL_17 tiX8_sail tsX8_sail rfl tnX8 tdX8_sail ⟨Nat.le_of_ble_eq_true rfl, Nat.le_of_ble_eq_true rfl⟩ eu5 rfl (Nat.le_of_ble_eq_true rfl) dL_law_219 ?_
  refine vi_icmp_eq (tgt := 1198) C dL_law_222 (by decide) (fun hc7 => ?_) (fun hc7 => ?_)
  · have h := ob_t h hc7
    refine vi_sub C [0, 1, 2, 3] rfl ?_
    exact kL_law_1198 C hX hbl hbA RET REC_18  _ _ h
  · have h := ob_f h hc7
    refine vi_iconst (v := 0) C dL_law_225 (by decide) ?_
    cases h
def fL_law_18 (xs : Nat → Int32) (L : Nat) : Nat → Int32 → vL → Option Unit
  | 0, _, _ => none
  | n + 1, x1, u => (if (Int32.ofNat L) - (3 : Int32) < x1 then some () else if x1 < 0 ∨ L ≤ Int32.toNatClampNeg x1 then none else (if (xs (Int32.toNatClampNeg x1)) &&& (63 : Int32) = 0 then fL_law_204 xs L (fun a0 a1 => fL_law_18 xs L n  a0 a1) x1 u else (if (xs (Int32.toNatClampNeg x1)) &&& (63 : Int32) = 1 then fL_law_227 xs L (fun a0 a1 => fL_law_18 xs L n  a0 a1) x1 u else (if (xs (Int32.toNatClampNeg x1)) &&& (63 : Int32) = 2 then fL_law_250 xs L (fun a0 a1 => fL_law_18 xs L n  a0 a1) x1 u else (if (xs (Int32.toNatClampNeg x1)) &&& (63 : Int32) = 3 then fL_law_283 xs L (fun a0 a1 => fL_law_18 xs L n  a0 a1) x1 u else (if (xs (Int32.toNatClampNeg x1)) &&& (63 : Int32) = 4 then fL_law_316 xs L (fun a0 a1 => fL_law_18 xs L n  a0 a1) x1 u else (if (xs (Int32.toNatClampNeg x1)) &&& (63 : Int32) = 5 then fL_law_349 xs L (fun a0 a1 => fL_law_18 xs L n  a0 a1) x1 u else (if (xs (Int32.toNatClampNeg x1)) &&& (63 : Int32) = 6 then fL_law_382 xs L (fun a0 a1 => fL_law_18 xs L n  a0 a1) x1 u else (if (xs (Int32.toNatClampNeg x1)) &&& (63 : Int32) = 7 then fL_law_405 xs L (fun a0 a1 => fL_law_18 xs L n  a0 a1) x1 u else (if (xs (Int32.toNatClampNeg x1)) &&& (63 : Int32) = 8 then fL_law_428 xs L (fun a0 a1 => fL_law_18 xs L n  a0 a1) x1 u else (if (xs (Int32.toNatClampNeg x1)) &&& (63 : Int32) = 9 then fL_law_441 xs L (fun a0 a1 => fL_law_18 xs L n  a0 a1) x1 u else (if (xs (Int32.toNatClampNeg x1)) &&& (63 : Int32) = 10 then fL_law_474 xs L (fun a0 a1 => fL_law_18 xs L n  a0 a1) x1 u else (if (xs (Int32.toNatClampNeg x1)) &&& (63 : Int32) = 11 then fL_law_507 xs L (fun a0 a1 => fL_law_18 xs L n  a0 a1) x1 u else (if (xs (Int32.toNatClampNeg x1)) &&& (63 : Int32) = 12 then fL_law_540 xs L (fun a0 a1 => fL_law_18 xs L n  a0 a1) x1 u else (if (xs (Int32.toNatClampNeg x1)) &&& (63 : Int32) = 13 then fL_law_593 xs L (fun a0 a1 => fL_law_18 xs L n  a0 a1) x1 u else (if (xs (Int32.toNatClampNeg x1)) &&& (63 : Int32) = 14 then fL_law_616 xs L (fun a0 a1 => fL_law_18 xs L n  a0 a1) x1 u else (if (xs (Int32.toNatClampNeg x1)) &&& (63 : Int32) = 15 then fL_law_639 xs L (fun a0 a1 => fL_law_18 xs L n  a0 a1) x1 u else (if (xs (Int32.toNatClampNeg x1)) &&& (63 : Int32) = 16 then fL_law_662 xs L (fun a0 a1 => fL_law_18 xs L n  a0 a1) x1 u else (if (xs (Int32.toNatClampNeg x1)) &&& (63 : Int32) = 17 then fL_law_695 xs L (fun a0 a1 => fL_law_18 xs L n  a0 a1) x1 u else (if (xs (Int32.toNatClampNeg x1)) &&& (63 : Int32) = 18 then fL_law_728 xs L (fun a0 a1 => fL_law_18 xs L n  a0 a1) x1 u else (if (xs (Int32.toNatClampNeg x1)) &&& (63 : Int32) = 19 then fL_law_761 xs L (fun a0 a1 => fL_law_18 xs L n  a0 a1) x1 u else (if (xs (Int32.toNatClampNeg x1)) &&& (63 : Int32) = 20 then fL_law_794 xs L (fun a0 a1 => fL_law_18 xs L n  a0 a1) x1 u else (if (xs (Int32.toNatClampNeg x1)) &&& (63 : Int32) = 21 then fL_law_827 xs L (fun a0 a1 => fL_law_18 xs L n  a0 a1) x1 u else (if (xs (Int32.toNatClampNeg x1)) &&& (63 : Int32) = 22 then fL_law_850 xs L (fun a0 a1 => fL_law_18 xs L n  a0 a1) x1 u else (if (xs (Int32.toNatClampNeg x1)) &&& (63 : Int32) = 23 then fL_law_863 xs L (fun a0 a1 => fL_law_18 xs L n  a0 a1) x1 u else (if (xs (Int32.toNatClampNeg x1)) &&& (63 : Int32) = 24 then fL_law_886 xs L (fun a0 a1 => fL_law_18 xs L n  a0 a1) x1 u else (if (xs (Int32.toNatClampNeg x1)) &&& (63 : Int32) = 25 then fL_law_909 xs L (fun a0 a1 => fL_law_18 xs L n  a0 a1) x1 u else (if (xs (Int32.toNatClampNeg x1)) &&& (63 : Int32) = 26 then fL_law_923 xs L (fun a0 a1 => fL_law_18 xs L n  a0 a1) x1 u else (if (xs (Int32.toNatClampNeg x1)) &&& (63 : Int32) = 27 then fL_law_936 xs L (fun a0 a1 => fL_law_18 xs L n  a0 a1) x1 u else (if (xs (Int32.toNatClampNeg x1)) &&& (63 : Int32) = 28 then fL_law_977 xs L (fun a0 a1 => fL_law_18 xs L n  a0 a1) x1 u else (if (xs (Int32.toNatClampNeg x1)) &&& (63 : Int32) = 29 then fL_law_1000 xs L (fun a0 a1 => fL_law_18 xs L n  a0 a1) x1 u else (if (xs (Int32.toNatClampNeg x1)) &&& (63 : Int32) = 30 then fL_law_1023 xs L (fun a0 a1 => fL_law_18 xs L n  a0 a1) x1 u else (if (xs (Int32.toNatClampNeg x1)) &&& (63 : Int32) = 31 then fL_law_1036 xs L (fun a0 a1 => fL_law_18 xs L n  a0 a1) x1 u else (if (xs (Int32.toNatClampNeg x1)) &&& (63 : Int32) = 32 then fL_law_1059 xs L (fun a0 a1 => fL_law_18 xs L n  a0 a1) x1 u else (if (xs (Int32.toNatClampNeg x1)) &&& (63 : Int32) = 33 then fL_law_1084 xs L (fun a0 a1 => fL_law_18 xs L n  a0 a1) x1 u else (if (xs (Int32.toNatClampNeg x1)) &&& (63 : Int32) = 34 then fL_law_1097 xs L (fun a0 a1 => fL_law_18 xs L n  a0 a1) x1 u else (if (xs (Int32.toNatClampNeg x1)) &&& (63 : Int32) = 35 then fL_law_1110 xs L (fun a0 a1 => fL_law_18 xs L n  a0 a1) x1 u else (if (xs (Int32.toNatClampNeg x1)) &&& (63 : Int32) = 36 then fL_law_1159 xs L (fun a0 a1 => fL_law_18 xs L n  a0 a1) x1 u else (if (xs (Int32.toNatClampNeg x1)) &&& (63 : Int32) = 37 then fL_law_1172 xs L (fun a0 a1 => fL_law_18 xs L n  a0 a1) x1 u else (if (xs (Int32.toNatClampNeg x1)) &&& (63 : Int32) = 38 then fL_law_1185 xs L (fun a0 a1 => fL_law_18 xs L n  a0 a1) x1 u else fL_law_1198 xs L (fun a0 a1 => fL_law_18 xs L n  a0 a1) x1 u))))))))))))))))))))))))))))))))))))))))
set_option maxRecDepth 100000 in
set_option maxHeartbeats 8000000 in
theorem kL_law_18 {ad adK adV : Nat → Nat} {tS tF : Nat} {p : Program} {l : Launch} {e : Env} {s : State} {m : MethodId} {args : Array Value} {below : List Frame} {meth : Method} {c : Code} {A : Nat → Prop} {D : va_G} {cI cF cC cS cO : ClassId} {Q : State → Prop} {q0 qs qo qt qv qr qx ql q : Nat → Nat} {qh : Nat → Nat → Nat} {b L : Nat} {xs : Nat → Int32} (C : vC (vE ad adK adV tS tF) p l s m args meth c A D (vT5 cI cF cC cS cO) cL_law 8 RL) (hX : va_X b L xs s s.heap) (hbl : b < s.heap.size) (hbA : ¬ A b) (RET : ∀ (u : vL) (pc : Nat) (lv : List (Nat × Value)), decode cL_law pc = .ok (.ireturn, 1) → vV p l e room_1 s m args below meth c A D 8 600000 7302249 Q (wX q0 qs qo qt qv qr qx ql ad qh cI cF cC cS cO u.1 ++ wR q cI u.2) pc lv [.int 1]) : ∀ (n : Nat) (x1 : Int32) (u : vL), fL_law_18 xs L n x1 u = some () → vV p l e room_1 s m args below meth c A D 8 600000 7302249 Q (wX q0 qs qo qt qv qr qx ql ad qh cI cF cC cS cO u.1 ++ wR q cI u.2) 18 [(0, .ref b), (1, .ref (q0 0)), (2, .ref (q 0)), (3, .int x1)] [] := by
  intro n
  induction n with
  | zero => intro x1 u h; rw [fL_law_18] at h; cases h
  | succ n ih =>
    intro x1 u h
    rw [fL_law_18] at h
    refine vi_iload_n C 3 dL_law_18 rfl ?_
    refine vi_aload_n C 0 dL_law_19 rfl ?_
    refine vi_slen C hX hbl hbA dL_law_20 ?_
    refine vi_iconst (v := 3) C dL_law_21 (by decide) ?_
    refine vi_isub C dL_law_22 ?_
    refine vi_icmp_gt (tgt := 1204) C dL_law_23 (by decide) (fun hc1 => ?_) (fun hc1 => ?_)
    · have h := ob_t h hc1
      refine vi_iconst (v := 1) C dL_law_1204 (by decide) ?_
      exact RET _ _ _ dL_law_1205
    · have h := ob_f h hc1
      refine vi_aload_n C 0 dL_law_26 rfl ?_
      refine vi_iload_n C 3 dL_law_27 rfl ?_
      obtain ⟨hz2, h⟩ := ob_if h
      refine vi_sld C hX hbl hbA hz2 dL_law_28 ?_
      refine vi_bipush (v := 63) C dL_law_29 (by decide) ?_
      refine vi_iand C dL_law_31 ?_
      by_cases hc3 : (xs (Int32.toNatClampNeg x1)) &&& (63 : Int32) = 0
      · have h := ob_t h hc3
        refine vi_tswIn (off := 172) (tgt := 204) C dL_law_32 (by rw [hc3]; decide) (by rw [hc3]; decide) (by rw [hc3]; rfl) (by decide) ?_
        refine vi_sub C [0, 1, 2, 3] rfl ?_
        exact kL_law_204 C hX hbl hbA RET ih  _ _ h
      · replace h := ob_f h hc3
        by_cases hc4 : (xs (Int32.toNatClampNeg x1)) &&& (63 : Int32) = 1
        · have h := ob_t h hc4
          refine vi_tswIn (off := 195) (tgt := 227) C dL_law_32 (by rw [hc4]; decide) (by rw [hc4]; decide) (by rw [hc4]; rfl) (by decide) ?_
          refine vi_sub C [0, 1, 2, 3] rfl ?_
          exact kL_law_227 C hX hbl hbA RET ih  _ _ h
        · replace h := ob_f h hc4
          by_cases hc5 : (xs (Int32.toNatClampNeg x1)) &&& (63 : Int32) = 2
          · have h := ob_t h hc5
            refine vi_tswIn (off := 218) (tgt := 250) C dL_law_32 (by rw [hc5]; decide) (by rw [hc5]; decide) (by rw [hc5]; rfl) (by decide) ?_
            refine vi_sub C [0, 1, 2, 3] rfl ?_
            exact kL_law_250 C hX hbl hbA RET ih  _ _ h
          · replace h := ob_f h hc5
            by_cases hc6 : (xs (Int32.toNatClampNeg x1)) &&& (63 : Int32) = 3
            · have h := ob_t h hc6
              refine vi_tswIn (off := 251) (tgt := 283) C dL_law_32 (by rw [hc6]; decide) (by rw [hc6]; decide) (by rw [hc6]; rfl) (by decide) ?_
              refine vi_sub C [0, 1, 2, 3] rfl ?_
              exact kL_law_283 C hX hbl hbA RET ih  _ _ h
            · replace h := ob_f h hc6
              by_cases hc7 : (xs (Int32.toNatClampNeg x1)) &&& (63 : Int32) = 4
              · have h := ob_t h hc7
                refine vi_tswIn (off := 284) (tgt := 316) C dL_law_32 (by rw [hc7]; decide) (by rw [hc7]; decide) (by rw [hc7]; rfl) (by decide) ?_
                refine vi_sub C [0, 1, 2, 3] rfl ?_
                exact kL_law_316 C hX hbl hbA RET ih  _ _ h
              · replace h := ob_f h hc7
                by_cases hc8 : (xs (Int32.toNatClampNeg x1)) &&& (63 : Int32) = 5
                · have h := ob_t h hc8
                  refine vi_tswIn (off := 317) (tgt := 349) C dL_law_32 (by rw [hc8]; decide) (by rw [hc8]; decide) (by rw [hc8]; rfl) (by decide) ?_
                  refine vi_sub C [0, 1, 2, 3] rfl ?_
                  exact kL_law_349 C hX hbl hbA RET ih  _ _ h
                · replace h := ob_f h hc8
                  by_cases hc9 : (xs (Int32.toNatClampNeg x1)) &&& (63 : Int32) = 6
                  · have h := ob_t h hc9
                    refine vi_tswIn (off := 350) (tgt := 382) C dL_law_32 (by rw [hc9]; decide) (by rw [hc9]; decide) (by rw [hc9]; rfl) (by decide) ?_
                    refine vi_sub C [0, 1, 2, 3] rfl ?_
                    exact kL_law_382 C hX hbl hbA RET ih  _ _ h
                  · replace h := ob_f h hc9
                    by_cases hc10 : (xs (Int32.toNatClampNeg x1)) &&& (63 : Int32) = 7
                    · have h := ob_t h hc10
                      refine vi_tswIn (off := 373) (tgt := 405) C dL_law_32 (by rw [hc10]; decide) (by rw [hc10]; decide) (by rw [hc10]; rfl) (by decide) ?_
                      refine vi_sub C [0, 1, 2, 3] rfl ?_
                      exact kL_law_405 C hX hbl hbA RET ih  _ _ h
                    · replace h := ob_f h hc10
                      by_cases hc11 : (xs (Int32.toNatClampNeg x1)) &&& (63 : Int32) = 8
                      · have h := ob_t h hc11
                        refine vi_tswIn (off := 396) (tgt := 428) C dL_law_32 (by rw [hc11]; decide) (by rw [hc11]; decide) (by rw [hc11]; rfl) (by decide) ?_
                        refine vi_sub C [0, 1, 2, 3] rfl ?_
                        exact kL_law_428 C hX hbl hbA RET ih  _ _ h
                      · replace h := ob_f h hc11
                        by_cases hc12 : (xs (Int32.toNatClampNeg x1)) &&& (63 : Int32) = 9
                        · have h := ob_t h hc12
                          refine vi_tswIn (off := 409) (tgt := 441) C dL_law_32 (by rw [hc12]; decide) (by rw [hc12]; decide) (by rw [hc12]; rfl) (by decide) ?_
                          refine vi_sub C [0, 1, 2, 3] rfl ?_
                          exact kL_law_441 C hX hbl hbA RET ih  _ _ h
                        · replace h := ob_f h hc12
                          by_cases hc13 : (xs (Int32.toNatClampNeg x1)) &&& (63 : Int32) = 10
                          · have h := ob_t h hc13
                            refine vi_tswIn (off := 442) (tgt := 474) C dL_law_32 (by rw [hc13]; decide) (by rw [hc13]; decide) (by rw [hc13]; rfl) (by decide) ?_
                            refine vi_sub C [0, 1, 2, 3] rfl ?_
                            exact kL_law_474 C hX hbl hbA RET ih  _ _ h
                          · replace h := ob_f h hc13
                            by_cases hc14 : (xs (Int32.toNatClampNeg x1)) &&& (63 : Int32) = 11
                            · have h := ob_t h hc14
                              refine vi_tswIn (off := 475) (tgt := 507) C dL_law_32 (by rw [hc14]; decide) (by rw [hc14]; decide) (by rw [hc14]; rfl) (by decide) ?_
                              refine vi_sub C [0, 1, 2, 3] rfl ?_
                              exact kL_law_507 C hX hbl hbA RET ih  _ _ h
                            · replace h := ob_f h hc14
                              by_cases hc15 : (xs (Int32.toNatClampNeg x1)) &&& (63 : Int32) = 12
                              · have h := ob_t h hc15
                                refine vi_tswIn (off := 508) (tgt := 540) C dL_law_32 (by rw [hc15]; decide) (by rw [hc15]; decide) (by rw [hc15]; rfl) (by decide) ?_
                                refine vi_sub C [0, 1, 2, 3] rfl ?_
                                exact kL_law_540 C hX hbl hbA RET ih  _ _ h
                              · replace h := ob_f h hc15
                                by_cases hc16 : (xs (Int32.toNatClampNeg x1)) &&& (63 : Int32) = 13
                                · have h := ob_t h hc16
                                  refine vi_tswIn (off := 561) (tgt := 593) C dL_law_32 (by rw [hc16]; decide) (by rw [hc16]; decide) (by rw [hc16]; rfl) (by decide) ?_
                                  refine vi_sub C [0, 1, 2, 3] rfl ?_
                                  exact kL_law_593 C hX hbl hbA RET ih  _ _ h
                                · replace h := ob_f h hc16
                                  by_cases hc17 : (xs (Int32.toNatClampNeg x1)) &&& (63 : Int32) = 14
                                  · have h := ob_t h hc17
                                    refine vi_tswIn (off := 584) (tgt := 616) C dL_law_32 (by rw [hc17]; decide) (by rw [hc17]; decide) (by rw [hc17]; rfl) (by decide) ?_
                                    refine vi_sub C [0, 1, 2, 3] rfl ?_
                                    exact kL_law_616 C hX hbl hbA RET ih  _ _ h
                                  · replace h := ob_f h hc17
                                    by_cases hc18 : (xs (Int32.toNatClampNeg x1)) &&& (63 : Int32) = 15
                                    · have h := ob_t h hc18
                                      refine vi_tswIn (off := 607) (tgt := 639) C dL_law_32 (by rw [hc18]; decide) (by rw [hc18]; decide) (by rw [hc18]; rfl) (by decide) ?_
                                      refine vi_sub C [0, 1, 2, 3] rfl ?_
                                      exact kL_law_639 C hX hbl hbA RET ih  _ _ h
                                    · replace h := ob_f h hc18
                                      by_cases hc19 : (xs (Int32.toNatClampNeg x1)) &&& (63 : Int32) = 16
                                      · have h := ob_t h hc19
                                        refine vi_tswIn (off := 630) (tgt := 662) C dL_law_32 (by rw [hc19]; decide) (by rw [hc19]; decide) (by rw [hc19]; rfl) (by decide) ?_
                                        refine vi_sub C [0, 1, 2, 3] rfl ?_
                                        exact kL_law_662 C hX hbl hbA RET ih  _ _ h
                                      · replace h := ob_f h hc19
                                        by_cases hc20 : (xs (Int32.toNatClampNeg x1)) &&& (63 : Int32) = 17
                                        · have h := ob_t h hc20
                                          refine vi_tswIn (off := 663) (tgt := 695) C dL_law_32 (by rw [hc20]; decide) (by rw [hc20]; decide) (by rw [hc20]; rfl) (by decide) ?_
                                          refine vi_sub C [0, 1, 2, 3] rfl ?_
                                          exact kL_law_695 C hX hbl hbA RET ih  _ _ h
                                        · replace h := ob_f h hc20
                                          by_cases hc21 : (xs (Int32.toNatClampNeg x1)) &&& (63 : Int32) = 18
                                          · have h := ob_t h hc21
                                            refine vi_tswIn (off := 696) (tgt := 728) C dL_law_32 (by rw [hc21]; decide) (by rw [hc21]; decide) (by rw [hc21]; rfl) (by decide) ?_
                                            refine vi_sub C [0, 1, 2, 3] rfl ?_
                                            exact kL_law_728 C hX hbl hbA RET ih  _ _ h
                                          · replace h := ob_f h hc21
                                            by_cases hc22 : (xs (Int32.toNatClampNeg x1)) &&& (63 : Int32) = 19
                                            · have h := ob_t h hc22
                                              refine vi_tswIn (off := 729) (tgt := 761) C dL_law_32 (by rw [hc22]; decide) (by rw [hc22]; decide) (by rw [hc22]; rfl) (by decide) ?_
                                              refine vi_sub C [0, 1, 2, 3] rfl ?_
                                              exact kL_law_761 C hX hbl hbA RET ih  _ _ h
                                            · replace h := ob_f h hc22
                                              by_cases hc23 : (xs (Int32.toNatClampNeg x1)) &&& (63 : Int32) = 20
                                              · have h := ob_t h hc23
                                                refine vi_tswIn (off := 762) (tgt := 794) C dL_law_32 (by rw [hc23]; decide) (by rw [hc23]; decide) (by rw [hc23]; rfl) (by decide) ?_
                                                refine vi_sub C [0, 1, 2, 3] rfl ?_
                                                exact kL_law_794 C hX hbl hbA RET ih  _ _ h
                                              · replace h := ob_f h hc23
                                                by_cases hc24 : (xs (Int32.toNatClampNeg x1)) &&& (63 : Int32) = 21
                                                · have h := ob_t h hc24
                                                  refine vi_tswIn (off := 795) (tgt := 827) C dL_law_32 (by rw [hc24]; decide) (by rw [hc24]; decide) (by rw [hc24]; rfl) (by decide) ?_
                                                  refine vi_sub C [0, 1, 2, 3] rfl ?_
                                                  exact kL_law_827 C hX hbl hbA RET ih  _ _ h
                                                · replace h := ob_f h hc24
                                                  by_cases hc25 : (xs (Int32.toNatClampNeg x1)) &&& (63 : Int32) = 22
                                                  · have h := ob_t h hc25
                                                    refine vi_tswIn (off := 818) (tgt := 850) C dL_law_32 (by rw [hc25]; decide) (by rw [hc25]; decide) (by rw [hc25]; rfl) (by decide) ?_
                                                    refine vi_sub C [0, 1, 2, 3] rfl ?_
                                                    exact kL_law_850 C hX hbl hbA RET ih  _ _ h
                                                  · replace h := ob_f h hc25
                                                    by_cases hc26 : (xs (Int32.toNatClampNeg x1)) &&& (63 : Int32) = 23
                                                    · have h := ob_t h hc26
                                                      refine vi_tswIn (off := 831) (tgt := 863) C dL_law_32 (by rw [hc26]; decide) (by rw [hc26]; decide) (by rw [hc26]; rfl) (by decide) ?_
                                                      refine vi_sub C [0, 1, 2, 3] rfl ?_
                                                      exact kL_law_863 C hX hbl hbA RET ih  _ _ h
                                                    · replace h := ob_f h hc26
                                                      by_cases hc27 : (xs (Int32.toNatClampNeg x1)) &&& (63 : Int32) = 24
                                                      · have h := ob_t h hc27
                                                        refine vi_tswIn (off := 854) (tgt := 886) C dL_law_32 (by rw [hc27]; decide) (by rw [hc27]; decide) (by rw [hc27]; rfl) (by decide) ?_
                                                        refine vi_sub C [0, 1, 2, 3] rfl ?_
                                                        exact kL_law_886 C hX hbl hbA RET ih  _ _ h
                                                      · replace h := ob_f h hc27
                                                        by_cases hc28 : (xs (Int32.toNatClampNeg x1)) &&& (63 : Int32) = 25
                                                        · have h := ob_t h hc28
                                                          refine vi_tswIn (off := 877) (tgt := 909) C dL_law_32 (by rw [hc28]; decide) (by rw [hc28]; decide) (by rw [hc28]; rfl) (by decide) ?_
                                                          refine vi_sub C [0, 1, 2, 3] rfl ?_
                                                          exact kL_law_909 C hX hbl hbA RET ih  _ _ h
                                                        · replace h := ob_f h hc28
                                                          by_cases hc29 : (xs (Int32.toNatClampNeg x1)) &&& (63 : Int32) = 26
                                                          · have h := ob_t h hc29
                                                            refine vi_tswIn (off := 891) (tgt := 923) C dL_law_32 (by rw [hc29]; decide) (by rw [hc29]; decide) (by rw [hc29]; rfl) (by decide) ?_
                                                            refine vi_sub C [0, 1, 2, 3] rfl ?_
                                                            exact kL_law_923 C hX hbl hbA RET ih  _ _ h
                                                          · replace h := ob_f h hc29
                                                            by_cases hc30 : (xs (Int32.toNatClampNeg x1)) &&& (63 : Int32) = 27
                                                            · have h := ob_t h hc30
                                                              refine vi_tswIn (off := 904) (tgt := 936) C dL_law_32 (by rw [hc30]; decide) (by rw [hc30]; decide) (by rw [hc30]; rfl) (by decide) ?_
                                                              refine vi_sub C [0, 1, 2, 3] rfl ?_
                                                              exact kL_law_936 C hX hbl hbA RET ih  _ _ h
                                                            · replace h := ob_f h hc30
                                                              by_cases hc31 : (xs (Int32.toNatClampNeg x1)) &&& (63 : Int32) = 28
                                                              · have h := ob_t h hc31
                                                                refine vi_tswIn (off := 945) (tgt := 977) C dL_law_32 (by rw [hc31]; decide) (by rw [hc31]; decide) (by rw [hc31]; rfl) (by decide) ?_
                                                                refine vi_sub C [0, 1, 2, 3] rfl ?_
                                                                exact kL_law_977 C hX hbl hbA RET ih  _ _ h
                                                              · replace h := ob_f h hc31
                                                                by_cases hc32 : (xs (Int32.toNatClampNeg x1)) &&& (63 : Int32) = 29
                                                                · have h := ob_t h hc32
                                                                  refine vi_tswIn (off := 968) (tgt := 1000) C dL_law_32 (by rw [hc32]; decide) (by rw [hc32]; decide) (by rw [hc32]; rfl) (by decide) ?_
                                                                  refine vi_sub C [0, 1, 2, 3] rfl ?_
                                                                  exact kL_law_1000 C hX hbl hbA RET ih  _ _ h
                                                                · replace h := ob_f h hc32
                                                                  by_cases hc33 : (xs (Int32.toNatClampNeg x1)) &&& (63 : Int32) = 30
                                                                  · have h := ob_t h hc33
                                                                    refine vi_tswIn (off := 991) (tgt := 1023) C dL_law_32 (by rw [hc33]; decide) (by rw [hc33]; decide) (by rw [hc33]; rfl) (by decide) ?_
                                                                    refine vi_sub C [0, 1, 2, 3] rfl ?_
                                                                    exact kL_law_1023 C hX hbl hbA RET ih  _ _ h
                                                                  · replace h := ob_f h hc33
                                                                    by_cases hc34 : (xs (Int32.toNatClampNeg x1)) &&& (63 : Int32) = 31
                                                                    · have h := ob_t h hc34
                                                                      refine vi_tswIn (off := 1004) (tgt := 1036) C dL_law_32 (by rw [hc34]; decide) (by rw [hc34]; decide) (by rw [hc34]; rfl) (by decide) ?_
                                                                      refine vi_sub C [0, 1, 2, 3] rfl ?_
                                                                      exact kL_law_1036 C hX hbl hbA RET ih  _ _ h
                                                                    · replace h := ob_f h hc34
                                                                      by_cases hc35 : (xs (Int32.toNatClampNeg x1)) &&& (63 : Int32) = 32
                                                                      · have h := ob_t h hc35
                                                                        refine vi_tswIn (off := 1027) (tgt := 1059) C dL_law_32 (by rw [hc35]; decide) (by rw [hc35]; decide) (by rw [hc35]; rfl) (by decide) ?_
                                                                        refine vi_sub C [0, 1, 2, 3] rfl ?_
                                                                        exact kL_law_1059 C hX hbl hbA RET ih  _ _ h
                                                                      · replace h := ob_f h hc35
                                                                        by_cases hc36 : (xs (Int32.toNatClampNeg x1)) &&& (63 : Int32) = 33
                                                                        · have h := ob_t h hc36
                                                                          refine vi_tswIn (off := 1052) (tgt := 1084) C dL_law_32 (by rw [hc36]; decide) (by rw [hc36]; decide) (by rw [hc36]; rfl) (by decide) ?_
                                                                          refine vi_sub C [0, 1, 2, 3] rfl ?_
                                                                          exact kL_law_1084 C hX hbl hbA RET ih  _ _ h
                                                                        · replace h := ob_f h hc36
                                                                          by_cases hc37 : (xs (Int32.toNatClampNeg x1)) &&& (63 : Int32) = 34
                                                                          · have h := ob_t h hc37
                                                                            refine vi_tswIn (off := 1065) (tgt := 1097) C dL_law_32 (by rw [hc37]; decide) (by rw [hc37]; decide) (by rw [hc37]; rfl) (by decide) ?_
                                                                            refine vi_sub C [0, 1, 2, 3] rfl ?_
                                                                            exact kL_law_1097 C hX hbl hbA RET ih  _ _ h
                                                                          · replace h := ob_f h hc37
                                                                            by_cases hc38 : (xs (Int32.toNatClampNeg x1)) &&& (63 : Int32) = 35
                                                                            · have h := ob_t h hc38
                                                                              refine vi_tswIn (off := 1078) (tgt := 1110) C dL_law_32 (by rw [hc38]; decide) (by rw [hc38]; decide) (by rw [hc38]; rfl) (by decide) ?_
                                                                              refine vi_sub C [0, 1, 2, 3] rfl ?_
                                                                              exact kL_law_1110 C hX hbl hbA RET ih  _ _ h
                                                                            · replace h := ob_f h hc38
                                                                              by_cases hc39 : (xs (Int32.toNatClampNeg x1)) &&& (63 : Int32) = 36
                                                                              · have h := ob_t h hc39
                                                                                refine vi_tswIn (off := 1127) (tgt := 1159) C dL_law_32 (by rw [hc39]; decide) (by rw [hc39]; decide) (by rw [hc39]; rfl) (by decide) ?_
                                                                                refine vi_sub C [0, 1, 2, 3] rfl ?_
                                                                                exact kL_law_1159 C hX hbl hbA RET ih  _ _ h
                                                                              · replace h := ob_f h hc39
                                                                                by_cases hc40 : (xs (Int32.toNatClampNeg x1)) &&& (63 : Int32) = 37
                                                                                · have h := ob_t h hc40
                                                                                  refine vi_tswIn (off := 1140) (tgt := 1172) C dL_law_32 (by rw [hc40]; decide) (by rw [hc40]; decide) (by rw [hc40]; rfl) (by decide) ?_
                                                                                  refine vi_sub C [0, 1, 2, 3] rfl ?_
                                                                                  exact kL_law_1172 C hX hbl hbA RET ih  _ _ h
                                                                                · replace h := ob_f h hc40
                                                                                  by_cases hc41 : (xs (Int32.toNatClampNeg x1)) &&& (63 : Int32) = 38
                                                                                  · have h := ob_t h hc41
                                                                                    refine vi_tswIn (off := 1153) (tgt := 1185) C dL_law_32 (by rw [hc41]; decide) (by rw [hc41]; decide) (by rw [hc41]; rfl) (by decide) ?_
                                                                                    refine vi_sub C [0, 1, 2, 3] rfl ?_
                                                                                    exact kL_law_1185 C hX hbl hbA RET ih  _ _ h
                                                                                  · replace h := ob_f h hc41
                                                                                    refine vi_tswOut (tgt := 1198) C dL_law_32 (by have thc3 := lv_neT hc3 (a := 0) (by decide); have thc4 := lv_neT hc4 (a := 1) (by decide); have thc5 := lv_neT hc5 (a := 2) (by decide); have thc6 := lv_neT hc6 (a := 3) (by decide); have thc7 := lv_neT hc7 (a := 4) (by decide); have thc8 := lv_neT hc8 (a := 5) (by decide); have thc9 := lv_neT hc9 (a := 6) (by decide); have thc10 := lv_neT hc10 (a := 7) (by decide); have thc11 := lv_neT hc11 (a := 8) (by decide); have thc12 := lv_neT hc12 (a := 9) (by decide); have thc13 := lv_neT hc13 (a := 10) (by decide); have thc14 := lv_neT hc14 (a := 11) (by decide); have thc15 := lv_neT hc15 (a := 12) (by decide); have thc16 := lv_neT hc16 (a := 13) (by decide); have thc17 := lv_neT hc17 (a := 14) (by decide); have thc18 := lv_neT hc18 (a := 15) (by decide); have thc19 := lv_neT hc19 (a := 16) (by decide); have thc20 := lv_neT hc20 (a := 17) (by decide); have thc21 := lv_neT hc21 (a := 18) (by decide); have thc22 := lv_neT hc22 (a := 19) (by decide); have thc23 := lv_neT hc23 (a := 20) (by decide); have thc24 := lv_neT hc24 (a := 21) (by decide); have thc25 := lv_neT hc25 (a := 22) (by decide); have thc26 := lv_neT hc26 (a := 23) (by decide); have thc27 := lv_neT hc27 (a := 24) (by decide); have thc28 := lv_neT hc28 (a := 25) (by decide); have thc29 := lv_neT hc29 (a := 26) (by decide); have thc30 := lv_neT hc30 (a := 27) (by decide); have thc31 := lv_neT hc31 (a := 28) (by decide); have thc32 := lv_neT hc32 (a := 29) (by decide); have thc33 := lv_neT hc33 (a := 30) (by decide); have thc34 := lv_neT hc34 (a := 31) (by decide); have thc35 := lv_neT hc35 (a := 32) (by decide); have thc36 := lv_neT hc36 (a := 33) (by decide); have thc37 := lv_neT hc37 (a := 34) (by decide); have thc38 := lv_neT hc38 (a := 35) (by decide); have thc39 := lv_neT hc39 (a := 36) (by decide); have thc40 := lv_neT hc40 (a := 37) (by decide); have thc41 := lv_neT hc41 (a := 38) (by decide); omega) (by decide) ?_
                                                                                    refine vi_sub C [0, 1, 2, 3] rfl ?_
                                                                                    exact kL_law_1198 C hX hbl hbA RET ih  _ _ h
