def hf_L_line_10 (mc : Nat) (ms : Nat) : Nat → Int32 → Int32 → Int32 → Nat → (Nat → Int32) → vZ → Nat → Nat → Option (Nat × (Nat → Int32) × vZ)
  | 0, _, _, _, _, _, _, _, _ => none
  | n + 1, x1, x2, x3, n4, g5, u, kc, ks => (if x1 ≤ x2 then if kc + (2) ≤ mc ∧ ks + (Int32.toNatClampNeg x3 + 4) ≤ ms then (hf_J4_toString_0e30d (2) (Int32.toNatClampNeg x3 + 4) x3 n4 g5).bind fun z3 => bd (kc + (2)) fun kc5 => bd (ks + (Int32.toNatClampNeg x3 + 4)) fun ks6 => some (z3.1, z3.2, u) else none else obp (fX7_written x2 u) fun y8 u7 => if kc + (gc1 (x3 + 1) n4) ≤ mc ∧ ks + (gc2 (x3 + 1) n4) ≤ ms then (hf_J4_append_cf468 (gc1 (x3 + 1) n4) (gc2 (x3 + 1) n4) ((Int32.toUInt32 y8 % 65536).toInt32) x3 n4 g5).bind fun z10 => bd (kc + (gc1 (x3 + 1) n4)) fun kc12 => bd (ks + (gc2 (x3 + 1) n4)) fun ks13 => bd ((x2 + 1 : Int32)) fun y14 => hf_L_line_10 mc ms n x1 y14 (z10.1) (z10.2.1) (z10.2.2) u7 kc12 ks13 else none)
set_option maxRecDepth 100000 in
set_option maxHeartbeats 4000000 in
theorem hk_L_line_10 {ad adK adV : Nat → Nat} {tS tF : Nat} {tX sK sV : Nat → Nat} {p : Program} {l : Launch} {e : Env} {s : State} {m : MethodId} {args : Array Value} {below : List Frame} {meth : Method} {c : Code} {A : Nat → Prop} {D : va_G} {cI cF cC cS cO cB cZ : ClassId} {Q : State → Prop} {q0 qs qo qt qv qr qx ql : Nat → Nat} {qh : Nat → Nat → Nat} {mc : Nat} {ms : Nat} (C : vC (vE ad adK adV tS tF tX sK sV) p l s m args meth c A D (vT7 cI cF cC cS cO cB cZ) cL_line 4 RL) {r_n1 : Nat} {r_g2 : Nat → Int32} {u0 : vZ} (RET : ∀ (q : Nat → Nat) (kc ks : Nat) (pc : Nat) (lv : List (Nat × Value)), (kc ≤ mc ∧ ks ≤ ms) → decode cL_line pc = .ok (.areturn, 1) → vV p l e { frames := 6, cells := mc, slots := ms, locals := 171 } s m args below meth c A D 4 kc ks Q ([((q 0), .inr (0, [.ref (q 1), .int (0 : Int32), .int (0 : Int32), .int (0 : Int32)])), ((q 1), .inl (cB, r_n1, .inl (r_g2)))] ++ wX q0 qs qo qt qv qr qx ql ad qh cI cF cC cS cO u0) pc lv [.ref (q 0)]) : ∀ (n : Nat) (b0 : Nat) (b1 : Nat) (x1 : Int32) (x2 : Int32) (x3 : Int32) (n4 : Nat) (g5 : Nat → Int32) (u : vZ) (kc : Nat) (ks : Nat), (kc ≤ mc ∧ ks ≤ ms) → hf_L_line_10 mc ms n x1 x2 x3 n4 g5 u kc ks = some (r_n1, r_g2, u0) → vV p l e { frames := 6, cells := mc, slots := ms, locals := 171 } s m args below meth c A D 4 kc ks Q ([(b0, .inr (1, [.ref b1, .int (0 : Int32), .int (0 : Int32), .int x3])), (b1, .inl (cB, n4, .inl (g5)))] ++ wX q0 qs qo qt qv qr qx ql ad qh cI cF cC cS cO u) 10 [(0, .ref (q0 0)), (1, .int x1), (2, .ref b0), (3, .int x2)] [] := by
  intro n
  induction n with
  | zero => intro b0 b1 x1 x2 x3 n4 g5 u kc ks hkc h; rw [hf_L_line_10] at h; cases h
  | succ n ih =>
    intro b0 b1 x1 x2 x3 n4 g5 u kc ks hkc h
    rw [hf_L_line_10] at h
    refine vi_iload_n C 3 dL_line_10 rfl ?_
    refine vi_iload_n C 1 dL_line_11 rfl ?_
    refine vi_icmp_ge (tgt := 32) C dL_line_12 (by decide) (fun hc1 => ?_) (fun hc1 => ?_)
    · have h := ob_t h hc1
      refine vi_aload_n C 2 dL_line_32 rfl ?_
      obtain ⟨hz2, h⟩ := ob_ok h
      obtain ⟨z3, hgz3, h⟩ := ob_bd h
      refine vi_w C (w' := ([] ++ [(b0, .inr (1, [.ref b1, .int (0 : Int32), .int (0 : Int32), .int x3])), (b1, .inl (cB, n4, .inl (g5)))]) ++ wX q0 qs qo qt qv qr qx ql ad qh cI cF cC cS cO u) rfl ?_
      refine vi_swp ?_
      refine g_cr C (g_runV (T := TJ4) (N := 4) (ci := 1) (fs := [.ref b1, .int (0 : Int32), .int (0 : Int32), .int x3]) (As := []) (rest := []) (w1 := ([] ++ wX q0 qs qo qt qv qr qx ql ad qh cI cF cC cS cO u)) (wc := [(b0, .inr (1, [.ref b1, .int (0 : Int32), .int (0 : Int32), .int x3])), (b1, .inl (cB, n4, .inl (g5)))]) C (hm_J4_toString_0e30d (a0 := b0) (a1 := b1) (mc := (2)) (ms := (Int32.toNatClampNeg x3 + 4)) (f0_3 := x3) (n1 := n4) (g1 := g5) (r_n1 := z3.1) (r_g2 := z3.2) C.2.2.2.2.2.2.2.2.1 hgz3) 0 rfl tcJ4_toString_0e30d tlL_86 tiJ4_toString_0e30d tsJ4_toString_0e30d tnJ4 tdJ4_toString_0e30d ⟨Nat.le_of_ble_eq_true rfl, Nat.le_of_ble_eq_true rfl⟩ hz2 (0 + 101 + 0) rfl rfl rfl (Nat.le_of_ble_eq_true rfl) dL_line_33 rfl) rfl (fun q4 => ?_)
      refine vi_swp ?_
      refine vi_w C (w' := ([(b0, .inr (1, [.ref b1, .int (0 : Int32), .int (0 : Int32), .int x3])), (b1, .inl (cB, n4, .inl (g5))), ((q4 0), .inr (0, [.ref (q4 1), .int (0 : Int32), .int (0 : Int32), .int (0 : Int32)])), ((q4 1), .inl (cB, z3.1, .inl (z3.2)))] ++ wX q0 qs qo qt qv qr qx ql ad qh cI cF cC cS cO u)) rfl ?_
      obtain ⟨kc5, ekc5, h⟩ := ob_nm h
      obtain ⟨ks6, eks6, h⟩ := ob_nm h
      refine vi_kk ekc5.symm eks6.symm ?_
      rw [← ekc5, ← eks6] at hz2
      refine vi_pickX (ex2 := [((q4 0), .inr (0, [.ref (q4 1), .int (0 : Int32), .int (0 : Int32), .int (0 : Int32)])), ((q4 1), .inl (cB, z3.1, .inl (z3.2)))]) [2, 3] (by decide) rfl ?_
      cases h
      exact RET (fun j => [(q4 0), (q4 1)].getD j 0) _ _ _ _ hz2 dL_line_36
    · have h := ob_f h hc1
      refine vi_aload_n C 2 dL_line_15 rfl ?_
      refine vi_aload_n C 0 dL_line_16 rfl ?_
      refine vi_iload_n C 3 dL_line_17 rfl ?_
      obtain ⟨y8, u7, hgu7, h⟩ := ob_p h
      refine cY_i (As := [.int x2]) (rest := [.ref b0]) (ud := u7) C 2 (mX7_written C.2.2.2.2.2.2.2.2.1 hgu7) 1 rfl tcX7_written tlL_80 tiX7_written tsX7_written rfl tnX7 tdX7_written ⟨Nat.le_of_ble_eq_true rfl, Nat.le_of_ble_eq_true rfl⟩ hkc rfl rfl (Nat.le_of_ble_eq_true rfl) dL_line_18 ?_
      refine vi_i2c C dL_line_21 ?_
      obtain ⟨hz9, h⟩ := ob_ok h
      obtain ⟨z10, hgz10, h⟩ := ob_bd h
      refine vi_w C (w' := ([] ++ [(b0, .inr (1, [.ref b1, .int (0 : Int32), .int (0 : Int32), .int x3])), (b1, .inl (cB, n4, .inl (g5)))]) ++ wX q0 qs qo qt qv qr qx ql ad qh cI cF cC cS cO u7) rfl ?_
      refine vi_swp ?_
      refine g_cr C (g_runV (T := TJ4) (N := 4) (ci := 1) (fs := [.ref b1, .int (0 : Int32), .int (0 : Int32), .int x3]) (As := [.int ((Int32.toUInt32 y8 % 65536).toInt32)]) (rest := []) (w1 := ([] ++ wX q0 qs qo qt qv qr qx ql ad qh cI cF cC cS cO u7)) (wc := [(b0, .inr (1, [.ref b1, .int (0 : Int32), .int (0 : Int32), .int x3])), (b1, .inl (cB, n4, .inl (g5)))]) C (hm_J4_append_cf468 (a0 := b0) (a1 := b1) (mc := (gc1 (x3 + 1) n4)) (ms := (gc2 (x3 + 1) n4)) (x1 := ((Int32.toUInt32 y8 % 65536).toInt32)) (f0_3 := x3) (n1 := n4) (g1 := g5) (r_o1 := z10.1) (r_n2 := z10.2.1) (r_g3 := z10.2.2) C.2.2.2.2.2.2.2.2.1 hgz10) 1 rfl tcJ4_append_cf468 tlL_83 tiJ4_append_cf468 tsJ4_append_cf468 tnJ4 tdJ4_append_cf468 ⟨Nat.le_of_ble_eq_true rfl, Nat.le_of_ble_eq_true rfl⟩ hz9 (0 + 101 + 0) rfl rfl rfl (Nat.le_of_ble_eq_true rfl) dL_line_22 rfl) rfl (fun q11 => ?_)
      refine vi_swp ?_
      refine vi_w C (w' := ([(b0, .inr (1, [.ref (q11 0), .int (0 : Int32), .int (0 : Int32), .int (z10.1)])), ((q11 0), .inl (cB, z10.2.1, .inl (z10.2.2)))] ++ wX q0 qs qo qt qv qr qx ql ad qh cI cF cC cS cO u7)) rfl ?_
      obtain ⟨kc12, ekc12, h⟩ := ob_nm h
      obtain ⟨ks13, eks13, h⟩ := ob_nm h
      refine vi_kk ekc12.symm eks13.symm ?_
      rw [← ekc12, ← eks13] at hz9
      refine vi_pop C dL_line_25 rfl ?_
      obtain ⟨y14, ey14, h⟩ := ob_nm h
      refine vi_iinc (v := y14) (lv' := [(3, .int y14), (0, .ref (q0 0)), (1, .int x1), (2, .ref b0)]) C 3 dL_line_26 rfl (by rw [ey14]; rfl) (by decide) rfl ?_
      refine vi_goto (tgt := 10) C dL_line_29 (by decide) ?_
      refine vi_sub C [1, 2, 3, 0] rfl ?_
      exact ih _ _ _ _ _ _ _ _ _ _ hz9 h
def hf_L_line (mc : Nat) (ms : Nat) (x1 : Int32) (u : vZ) : Option (Nat × (Nat → Int32) × vZ) := if 0 + 1 ≤ mc ∧ 0 + 4 ≤ ms then bd (0 + 1) fun kc3 => bd (0 + 4) fun ks4 => if kc3 + (1) ≤ mc ∧ ks4 + (16) ≤ ms then (hf_J4_init_da8c8 (1) (16)).bind fun z6 => bd (kc3 + (1)) fun kc8 => bd (ks4 + (16)) fun ks9 => hf_L_line_10 mc ms vF x1 (0 : Int32) (0 : Int32) (z6.1) (z6.2) u kc8 ks9 else none else none
set_option maxRecDepth 100000 in
set_option maxHeartbeats 4000000 in
theorem hk_L_line_e {ad adK adV : Nat → Nat} {tS tF : Nat} {tX sK sV : Nat → Nat} {p : Program} {l : Launch} {e : Env} {s : State} {m : MethodId} {args : Array Value} {below : List Frame} {meth : Method} {c : Code} {A : Nat → Prop} {D : va_G} {cI cF cC cS cO cB cZ : ClassId} {Q : State → Prop} {q0 qs qo qt qv qr qx ql : Nat → Nat} {qh : Nat → Nat → Nat} {mc : Nat} {ms : Nat} (C : vC (vE ad adK adV tS tF tX sK sV) p l s m args meth c A D (vT7 cI cF cC cS cO cB cZ) cL_line 4 RL) {r_n1 : Nat} {r_g2 : Nat → Int32} {u0 : vZ} (RET : ∀ (q : Nat → Nat) (kc ks : Nat) (pc : Nat) (lv : List (Nat × Value)), (kc ≤ mc ∧ ks ≤ ms) → decode cL_line pc = .ok (.areturn, 1) → vV p l e { frames := 6, cells := mc, slots := ms, locals := 171 } s m args below meth c A D 4 kc ks Q ([((q 0), .inr (0, [.ref (q 1), .int (0 : Int32), .int (0 : Int32), .int (0 : Int32)])), ((q 1), .inl (cB, r_n1, .inl (r_g2)))] ++ wX q0 qs qo qt qv qr qx ql ad qh cI cF cC cS cO u0) pc lv [.ref (q 0)]) {x1 : Int32} {u : vZ} (h : hf_L_line mc ms x1 u = some (r_n1, r_g2, u0)) : vV p l e { frames := 6, cells := mc, slots := ms, locals := 171 } s m args below meth c A D 4 (0) (0) Q ([] ++ wX q0 qs qo qt qv qr qx ql ad qh cI cF cC cS cO u) 0 [(0, .ref (q0 0)), (1, .int x1)] [] := by
  rw [hf_L_line] at h
  obtain ⟨hz1, h⟩ := ob_ok h
  refine vi_new (ci := 1) (fs := [.null, .int (0 : Int32), .int (0 : Int32), .int (0 : Int32)]) C inJ4w tyJ4 tyJ4_ok tlcL_77 tinst_J4 tnJ4 rfl (by decide +kernel) hz1.1 hz1.2 dL_line_0 (fun a2 => ?_)
  refine vi_swp ?_
  refine vi_w C (w' := ([(a2, .inr (1, [.null, .int (0 : Int32), .int (0 : Int32), .int (0 : Int32)]))] ++ wX q0 qs qo qt qv qr qx ql ad qh cI cF cC cS cO u)) rfl ?_
  obtain ⟨kc3, ekc3, h⟩ := ob_nm h
  obtain ⟨ks4, eks4, h⟩ := ob_nm h
  refine vi_kk ekc3.symm eks4.symm ?_
  rw [← ekc3, ← eks4] at hz1
  refine vi_dup C dL_line_3 rfl ?_
  obtain ⟨hz5, h⟩ := ob_ok h
  obtain ⟨z6, hgz6, h⟩ := ob_bd h
  refine vi_w C (w' := ([] ++ [(a2, .inr (1, [.null, .int (0 : Int32), .int (0 : Int32), .int (0 : Int32)]))]) ++ wX q0 qs qo qt qv qr qx ql ad qh cI cF cC cS cO u) rfl ?_
  refine vi_swp ?_
  refine g_cv C (g_runI (As := []) (rest := [.ref a2]) (w1 := ([] ++ wX q0 qs qo qt qv qr qx ql ad qh cI cF cC cS cO u)) (wc := [(a2, .inr (1, [.null, .int (0 : Int32), .int (0 : Int32), .int (0 : Int32)]))]) C (hm_J4_init_da8c8 (a0 := a2) (mc := (1)) (ms := (16)) (r_n1 := z6.1) (r_g2 := z6.2) C.2.2.2.2.2.2.2.2.1 hgz6) 0 rfl tcJ4_init_da8c8 tlL_79 tiJ4_init_da8c8 rfl tnJ4 tdJ4_init_da8c8 ⟨Nat.le_of_ble_eq_true rfl, Nat.le_of_ble_eq_true rfl⟩ hz5 rfl (Nat.le_of_ble_eq_true rfl) dL_line_4 rfl) rfl (fun q7 => ?_)
  refine vi_swp ?_
  refine vi_w C (w' := ([(a2, .inr (1, [.ref (q7 0), .int (0 : Int32), .int (0 : Int32), .int (0 : Int32)])), ((q7 0), .inl (cB, z6.1, .inl (z6.2)))] ++ wX q0 qs qo qt qv qr qx ql ad qh cI cF cC cS cO u)) rfl ?_
  obtain ⟨kc8, ekc8, h⟩ := ob_nm h
  obtain ⟨ks9, eks9, h⟩ := ob_nm h
  refine vi_kk ekc8.symm eks9.symm ?_
  rw [← ekc8, ← eks9] at hz5
  refine vi_astore_n (lv' := [(2, .ref a2), (0, .ref (q0 0)), (1, .int x1)]) C dL_line_7 rfl (by decide) rfl ?_
  refine vi_iconst (v := 0) C dL_line_8 (by decide) ?_
  refine vi_istore_n (lv' := [(3, .int (0 : Int32)), (2, .ref a2), (0, .ref (q0 0)), (1, .int x1)]) C dL_line_9 rfl (by decide) rfl ?_
  refine vi_sub C [2, 3, 1, 0] rfl ?_
  exact hk_L_line_10 C RET  vF _ _ _ _ _ _ _ _ _ _ hz5 h
theorem hm_L_line {ad adK adV : Nat → Nat} {tS tF : Nat} {tX sK sV : Nat → Nat} (hE : vEok (vE ad adK adV tS tF tX sK sV)) {l : Launch} {D : va_G} {cI cF cC cS cO cB cZ : ClassId} {q0 qs qo qt qv qr qx ql : Nat → Nat} {qh : Nat → Nat → Nat} {mc : Nat} {ms : Nat} {r_n1 : Nat} {r_g2 : Nat → Int32} {u0 : vZ} {x1 : Int32} {u : vZ} (h : hf_L_line mc ms x1 u = some (r_n1, r_g2, u0)) : vG (vE ad adK adV tS tF tX sK sV) l yL_line cL_line 4 (some (FieldType.object "java/lang/String")) 6 171 mc ms D (vT7 cI cF cC cS cO cB cZ) [.ref (q0 0), .int x1] ([] ++ wX q0 qs qo qt qv qr qx ql ad qh cI cF cC cS cO u) (gQr D (fun q => ([((q 0), .inr (0, [.ref (q 1), .int (0 : Int32), .int (0 : Int32), .int (0 : Int32)])), ((q 1), .inl (cB, r_n1, .inl (r_g2)))] ++ wX q0 qs qo qt qv qr qx ql ad qh cI cF cC cS cO u0)) (fun q => (q 0))) :=
  vG_of hE (by decide +kernel) (Nat.le_of_ble_eq_true rfl) (fun p e s m args below meth c A C hr hin => hk_L_line_e C (fun q kc ks pc lv hk hd => g_retr (WQ := (fun q => ([((q 0), .inr (0, [.ref (q 1), .int (0 : Int32), .int (0 : Int32), .int (0 : Int32)])), ((q 1), .inl (cB, r_n1, .inl (r_g2)))] ++ wX q0 qs qo qt qv qr qx ql ad qh cI cF cC cS cO u0))) (ra := fun q => (q 0)) C hr (Or.inl ⟨_, rfl⟩) q rfl rfl hk hd) h)
