-- ---- J6_toUnsignedString0_37a41
def hf_J6_toUnsignedString0_37a41 (mc : Nat) (ms : Nat) (x0 : Int32) (x1 : Int32) : Option (Nat × (Nat → Int32)) := (fJ6_numberOfLeadingZeros_0f7a4 x0).bind fun y1 => bd (((32 : Int32) - y1 : Int32)) fun y2 => if x1 = 0 then none else (fJ9_max_7cf53 ((y2 + (x1 - (1 : Int32))) / x1) (1 : Int32)).bind fun y4 => if y4 < 0 ∨ 100000 < (Int32.toNatClampNeg y4) then none else if 0 + 1 ≤ mc ∧ 0 + (Int32.toNatClampNeg y4) ≤ ms then bd ((Int32.toNatClampNeg y4)) fun n7 => bd (0 + 1) fun kc9 => bd (0 + n7) fun ks10 => (hf_J6_formatUnsignedInt_567d9 x0 x1 y4 n7 (fun _ => 0)).bind fun z11 => if kc9 + 1 ≤ mc ∧ ks10 + 4 ≤ ms then bd (kc9 + 1) fun kc15 => bd (ks10 + 4) fun ks16 => (hf_J0_init_031fb (z11.1) (z11.2)).bind fun z17 => some (z11.1, z11.2) else none else none
set_option maxRecDepth 100000 in
set_option maxHeartbeats 4000000 in
theorem hk_J6_toUnsignedString0_37a41_e {ad adK adV : Nat → Nat} {tS tF : Nat} {tX sK sV : Nat → Nat} {p : Program} {l : Launch} {e : Env} {s : State} {m : MethodId} {args : Array Value} {below : List Frame} {meth : Method} {c : Code} {A : Nat → Prop} {D : va_G} {cI cF cC cS cO cB cZ : ClassId} {Q : State → Prop} {mc : Nat} {ms : Nat} (C : vC (vE ad adK adV tS tF tX sK sV) p l s m args meth c A D (vT7 cI cF cC cS cO cB cZ) cJ6_toUnsignedString0_37a41 5 RJ6) {r_n1 : Nat} {r_g2 : Nat → Int32} (RET : ∀ (q : Nat → Nat) (kc ks : Nat) (pc : Nat) (lv : List (Nat × Value)), (kc ≤ mc ∧ ks ≤ ms) → decode cJ6_toUnsignedString0_37a41 pc = .ok (.areturn, 1) → vV p l e { frames := 2, cells := mc, slots := ms, locals := 82 } s m args below meth c A D 5 kc ks Q [((q 0), .inr (0, [.ref (q 1), .int (0 : Int32), .int (0 : Int32), .int (0 : Int32)])), ((q 1), .inl (cB, r_n1, .inl (r_g2)))] pc lv [.ref (q 0)]) {x0 : Int32} {x1 : Int32} (h : hf_J6_toUnsignedString0_37a41 mc ms x0 x1 = some (r_n1, r_g2)) : vV p l e { frames := 2, cells := mc, slots := ms, locals := 82 } s m args below meth c A D 5 (0) (0) Q [] 0 [(0, .int x0), (1, .int x1)] [] := by
  rw [hf_J6_toUnsignedString0_37a41] at h
  refine vi_bipush (v := 32) C dJ6_toUnsignedString0_37a41_0 (by decide) ?_
  refine vi_iload_n C 0 dJ6_toUnsignedString0_37a41_2 rfl ?_
  obtain ⟨y1, hgy1, h⟩ := ob_bd h
  refine vi_callS1i (As := [.int x0]) (rest := [.int (32 : Int32)]) C (mJ6_numberOfLeadingZeros_0f7a4 C.2.2.2.2.2.2.2.2.1 hgy1) 1 rfl tcJ6_numberOfLeadingZeros_0f7a4 tlJ6_51 ttJ6_numberOfLeadingZeros_0f7a4 tnJ6 tdJ6_numberOfLeadingZeros_0f7a4 ⟨Nat.le_of_ble_eq_true rfl, Nat.le_of_ble_eq_true rfl⟩ ⟨Nat.zero_le _, Nat.zero_le _⟩ rfl (Nat.le_of_ble_eq_true rfl) dJ6_toUnsignedString0_37a41_3 ?_
  refine vi_isub C dJ6_toUnsignedString0_37a41_6 ?_
  obtain ⟨y2, ey2, h⟩ := ob_nm h
  refine vi_nmi ey2 ?_
  refine vi_istore_n (lv' := [(2, .int y2), (0, .int x0), (1, .int x1)]) C dJ6_toUnsignedString0_37a41_7 rfl (by decide) rfl ?_
  refine vi_iload_n C 0 dJ6_toUnsignedString0_37a41_8 rfl ?_
  refine vi_iload_n C 2 dJ6_toUnsignedString0_37a41_9 rfl ?_
  refine vi_iconst (v := 1) C dJ6_toUnsignedString0_37a41_10 (by decide) ?_
  refine vi_isub C dJ6_toUnsignedString0_37a41_11 ?_
  refine vi_iadd C dJ6_toUnsignedString0_37a41_12 ?_
  refine vi_iload_n C 2 dJ6_toUnsignedString0_37a41_13 rfl ?_
  obtain ⟨hz3, h⟩ := ob_if h
  refine vi_idiv C dJ6_toUnsignedString0_37a41_14 hz3 ?_
  refine vi_iconst (v := 1) C dJ6_toUnsignedString0_37a41_15 (by decide) ?_
  obtain ⟨y4, hgy4, h⟩ := ob_bd h
  refine vi_callS1i (As := [.int ((y2 + (x1 - (1 : Int32))) / x1), .int (1 : Int32)]) (rest := []) C (mJ9_max_7cf53 C.2.2.2.2.2.2.2.2.1 hgy4) 2 rfl tcJ9_max_7cf53 tlJ6_55 ttJ9_max_7cf53 tnJ9 tdJ9_max_7cf53 ⟨Nat.le_of_ble_eq_true rfl, Nat.le_of_ble_eq_true rfl⟩ ⟨Nat.zero_le _, Nat.zero_le _⟩ rfl (Nat.le_of_ble_eq_true rfl) dJ6_toUnsignedString0_37a41_16 ?_
  refine vi_istore_n (lv' := [(3, .int y4), (2, .int y2), (0, .int x0), (1, .int x1)]) C dJ6_toUnsignedString0_37a41_19 rfl (by decide) rfl ?_
  refine vi_getCo C tfJ6_13 dJ6_toUnsignedString0_37a41_20 ?_
  refine vi_if_eq (tgt := 50) C dJ6_toUnsignedString0_37a41_23 (by decide) (fun hc => absurd hc (by decide)) (fun _ => ?_)
  refine vi_iload_n C 0 dJ6_toUnsignedString0_37a41_26 rfl ?_
  obtain ⟨hz5, h⟩ := ob_if h
  obtain ⟨hz6, h⟩ := ob_ok h
  obtain ⟨n7, en7, h⟩ := ob_nm h
  rw [← en7] at hz6
  refine vi_newa (atype := .byte) (ty := .byte) (cA := cB) (N := n7) (a0 := (n7, .inl (fun _ => 0))) C 5 tac_byte rfl rfl (fun _ => rfl) (fun z => hz5 (Or.inl z)) en7.symm (by rw [en7]; exact (gle8 hz5)) hz6.1 hz6.2 dJ6_toUnsignedString0_37a41_27 (fun a8 => ?_)
  refine vi_w C (w' := [(a8, .inl (cB, n7, .inl (fun _ => 0)))]) rfl ?_
  obtain ⟨kc9, ekc9, h⟩ := ob_nm h
  obtain ⟨ks10, eks10, h⟩ := ob_nm h
  refine vi_kk ekc9.symm eks10.symm ?_
  rw [← ekc9, ← eks10] at hz6
  refine vi_astore (lv' := [(4, .ref a8), (3, .int y4), (2, .int y2), (0, .int x0), (1, .int x1)]) C dJ6_toUnsignedString0_37a41_29 (by decide) rfl ?_
  refine vi_iload_n C 3 dJ6_toUnsignedString0_37a41_31 rfl ?_
  refine vi_iload_n C 4 dJ6_toUnsignedString0_37a41_32 rfl ?_
  refine vi_aload C 0 dJ6_toUnsignedString0_37a41_33 rfl ?_
  refine vi_iload_n C 1 dJ6_toUnsignedString0_37a41_35 rfl ?_
  obtain ⟨z11, hgz11, h⟩ := ob_bd h
  refine vi_w C (w' := [] ++ [(a8, .inl (cB, n7, .inl (fun _ => 0)))]) rfl ?_
  refine g_cv C (g_runS (As := [.int x0, .int x1, .ref a8, .int y4]) (rest := []) (w1 := []) (wc := [(a8, .inl (cB, n7, .inl (fun _ => 0)))]) C (hm_J6_formatUnsignedInt_567d9 (a0 := a8) (x0 := x0) (x1 := x1) (x3 := y4) (n0 := n7) (g0 := (fun _ => 0)) (r_n1 := z11.1) (r_g2 := z11.2) C.2.2.2.2.2.2.2.2.1 hgz11) 4 rfl tcJ6_formatUnsignedInt_567d9 tlJ6_61 ttJ6_formatUnsignedInt_567d9 tnJ6 tdJ6_formatUnsignedInt_567d9 ⟨Nat.le_of_ble_eq_true rfl, Nat.le_of_ble_eq_true rfl⟩ hz6 rfl (Nat.le_of_ble_eq_true rfl) dJ6_toUnsignedString0_37a41_36 rfl) rfl (fun q12 => ?_)
  refine vi_w C (w' := [(a8, .inl (cB, z11.1, .inl (z11.2)))]) rfl ?_
  refine vi_kk (kc1 := kc9) (ks1 := ks10) rfl rfl ?_
  obtain ⟨hz13, h⟩ := ob_ok h
  refine vi_new (ci := 0) (fs := [.null, .int (0 : Int32), .int (0 : Int32), .int (0 : Int32)]) C inJ0w tyJ0 tyJ0_ok tlcJ6_5 tinst_J0 tnJ0 rfl (by decide +kernel) hz13.1 hz13.2 dJ6_toUnsignedString0_37a41_39 (fun a14 => ?_)
  refine vi_w C (w' := [(a8, .inl (cB, z11.1, .inl (z11.2))), (a14, .inr (0, [.null, .int (0 : Int32), .int (0 : Int32), .int (0 : Int32)]))]) rfl ?_
  obtain ⟨kc15, ekc15, h⟩ := ob_nm h
  obtain ⟨ks16, eks16, h⟩ := ob_nm h
  refine vi_kk ekc15.symm eks16.symm ?_
  rw [← ekc15, ← eks16] at hz13
  refine vi_dup C dJ6_toUnsignedString0_37a41_42 rfl ?_
  refine vi_aload C 0 dJ6_toUnsignedString0_37a41_43 rfl ?_
  refine vi_iconst (v := 0) C dJ6_toUnsignedString0_37a41_45 (by decide) ?_
  obtain ⟨z17, hgz17, h⟩ := ob_bd h
  refine vi_pick (w' := [(a14, .inr (0, [.null, .int (0 : Int32), .int (0 : Int32), .int (0 : Int32)])), (a8, .inl (cB, z11.1, .inl (z11.2)))]) [1, 0] (by decide) rfl ?_
  refine vi_w C (w' := [] ++ [(a14, .inr (0, [.null, .int (0 : Int32), .int (0 : Int32), .int (0 : Int32)])), (a8, .inl (cB, z11.1, .inl (z11.2)))]) rfl ?_
  refine g_cv C (g_runI (As := [.ref a8, .int (0 : Int32)]) (rest := [.ref a14]) (w1 := []) (wc := [(a14, .inr (0, [.null, .int (0 : Int32), .int (0 : Int32), .int (0 : Int32)])), (a8, .inl (cB, z11.1, .inl (z11.2)))]) C (hm_J0_init_031fb (a0 := a14) (a1 := a8) (n1 := (z11.1)) (g1 := (z11.2))  C.2.2.2.2.2.2.2.2.1 hgz17) 2 rfl tcJ0_init_031fb tlJ6_65 tiJ0_init_031fb rfl tnJ0 tdJ0_init_031fb ⟨Nat.le_of_ble_eq_true rfl, Nat.le_of_ble_eq_true rfl⟩ hz13 rfl (Nat.le_of_ble_eq_true rfl) dJ6_toUnsignedString0_37a41_46 rfl) rfl (fun q18 => ?_)
  refine vi_w C (w' := [(a14, .inr (0, [.ref a8, .int (0 : Int32), .int (0 : Int32), .int (0 : Int32)])), (a8, .inl (cB, z11.1, .inl (z11.2)))]) rfl ?_
  refine vi_kk (kc1 := kc15) (ks1 := ks16) rfl rfl ?_
  cases h
  exact RET (fun j => [a14, a8].getD j 0) _ _ _ _ hz13 dJ6_toUnsignedString0_37a41_49
theorem hm_J6_toUnsignedString0_37a41 {ad adK adV : Nat → Nat} {tS tF : Nat} {tX sK sV : Nat → Nat} (hE : vEok (vE ad adK adV tS tF tX sK sV)) {l : Launch} {D : va_G} {cI cF cC cS cO cB cZ : ClassId} {mc : Nat} {ms : Nat} {r_n1 : Nat} {r_g2 : Nat → Int32} {x0 : Int32} {x1 : Int32} (h : hf_J6_toUnsignedString0_37a41 mc ms x0 x1 = some (r_n1, r_g2)) : vG (vE ad adK adV tS tF tX sK sV) l yJ6_toUnsignedString0_37a41 cJ6_toUnsignedString0_37a41 5 (some (FieldType.object "java/lang/String")) 2 82 mc ms D (vT7 cI cF cC cS cO cB cZ) [.int x0, .int x1] [] (gQr D (fun q => [((q 0), .inr (0, [.ref (q 1), .int (0 : Int32), .int (0 : Int32), .int (0 : Int32)])), ((q 1), .inl (cB, r_n1, .inl (r_g2)))]) (fun q => (q 0))) :=
  vG_ofF hE (by decide +kernel) (Nat.le_of_ble_eq_true rfl) (fun p e s m args below meth c A C hr hin => hk_J6_toUnsignedString0_37a41_e C (fun q kc ks pc lv hk hd => g_retr (WQ := (fun q => [((q 0), .inr (0, [.ref (q 1), .int (0 : Int32), .int (0 : Int32), .int (0 : Int32)])), ((q 1), .inl (cB, r_n1, .inl (r_g2)))])) (ra := fun q => (q 0)) C hr (Or.inl ⟨_, rfl⟩) q rfl rfl hk hd) h)
-- ---- J6_toHexString_b52d3
def hf_J6_toHexString_b52d3 (mc : Nat) (ms : Nat) (x0 : Int32) : Option (Nat × (Nat → Int32)) := if 0 + (2) ≤ mc ∧ 0 + (12) ≤ ms then (hf_J6_toUnsignedString0_37a41 (2) (12) x0 (4 : Int32)).bind fun z2 => bd (0 + (2)) fun kc4 => bd (0 + (12)) fun ks5 => some (z2.1, z2.2) else none
set_option maxRecDepth 100000 in
set_option maxHeartbeats 4000000 in
theorem hk_J6_toHexString_b52d3_e {ad adK adV : Nat → Nat} {tS tF : Nat} {tX sK sV : Nat → Nat} {p : Program} {l : Launch} {e : Env} {s : State} {m : MethodId} {args : Array Value} {below : List Frame} {meth : Method} {c : Code} {A : Nat → Prop} {D : va_G} {cI cF cC cS cO cB cZ : ClassId} {Q : State → Prop} {mc : Nat} {ms : Nat} (C : vC (vE ad adK adV tS tF tX sK sV) p l s m args meth c A D (vT7 cI cF cC cS cO cB cZ) cJ6_toHexString_b52d3 1 RJ6) {r_n1 : Nat} {r_g2 : Nat → Int32} (RET : ∀ (q : Nat → Nat) (kc ks : Nat) (pc : Nat) (lv : List (Nat × Value)), (kc ≤ mc ∧ ks ≤ ms) → decode cJ6_toHexString_b52d3 pc = .ok (.areturn, 1) → vV p l e { frames := 3, cells := mc, slots := ms, locals := 106 } s m args below meth c A D 1 kc ks Q [((q 0), .inr (0, [.ref (q 1), .int (0 : Int32), .int (0 : Int32), .int (0 : Int32)])), ((q 1), .inl (cB, r_n1, .inl (r_g2)))] pc lv [.ref (q 0)]) {x0 : Int32} (h : hf_J6_toHexString_b52d3 mc ms x0 = some (r_n1, r_g2)) : vV p l e { frames := 3, cells := mc, slots := ms, locals := 106 } s m args below meth c A D 1 (0) (0) Q [] 0 [(0, .int x0)] [] := by
  rw [hf_J6_toHexString_b52d3] at h
  refine vi_iload_n C 0 dJ6_toHexString_b52d3_0 rfl ?_
  refine vi_iconst (v := 4) C dJ6_toHexString_b52d3_1 (by decide) ?_
  obtain ⟨hz1, h⟩ := ob_ok h
  obtain ⟨z2, hgz2, h⟩ := ob_bd h
  refine vi_w C (w' := [] ++ []) rfl ?_
  refine g_cr C (g_runS (As := [.int x0, .int (4 : Int32)]) (rest := []) (w1 := []) (wc := []) C (hm_J6_toUnsignedString0_37a41  (mc := (2)) (ms := (12)) (x0 := x0) (x1 := (4 : Int32)) (r_n1 := z2.1) (r_g2 := z2.2) C.2.2.2.2.2.2.2.2.1 hgz2) 2 rfl tcJ6_toUnsignedString0_37a41 tlJ6_48 ttJ6_toUnsignedString0_37a41 tnJ6 tdJ6_toUnsignedString0_37a41 ⟨Nat.le_of_ble_eq_true rfl, Nat.le_of_ble_eq_true rfl⟩ hz1 rfl (Nat.le_of_ble_eq_true rfl) dJ6_toHexString_b52d3_2 rfl) rfl (fun q3 => ?_)
  refine vi_w C (w' := [((q3 0), .inr (0, [.ref (q3 1), .int (0 : Int32), .int (0 : Int32), .int (0 : Int32)])), ((q3 1), .inl (cB, z2.1, .inl (z2.2)))]) rfl ?_
  obtain ⟨kc4, ekc4, h⟩ := ob_nm h
  obtain ⟨ks5, eks5, h⟩ := ob_nm h
  refine vi_kk ekc4.symm eks5.symm ?_
  rw [← ekc4, ← eks5] at hz1
  cases h
  exact RET (fun j => [(q3 0), (q3 1)].getD j 0) _ _ _ _ hz1 dJ6_toHexString_b52d3_5
theorem hm_J6_toHexString_b52d3 {ad adK adV : Nat → Nat} {tS tF : Nat} {tX sK sV : Nat → Nat} (hE : vEok (vE ad adK adV tS tF tX sK sV)) {l : Launch} {D : va_G} {cI cF cC cS cO cB cZ : ClassId} {mc : Nat} {ms : Nat} {r_n1 : Nat} {r_g2 : Nat → Int32} {x0 : Int32} (h : hf_J6_toHexString_b52d3 mc ms x0 = some (r_n1, r_g2)) : vG (vE ad adK adV tS tF tX sK sV) l yJ6_toHexString_b52d3 cJ6_toHexString_b52d3 1 (some (FieldType.object "java/lang/String")) 3 106 mc ms D (vT7 cI cF cC cS cO cB cZ) [.int x0] [] (gQr D (fun q => [((q 0), .inr (0, [.ref (q 1), .int (0 : Int32), .int (0 : Int32), .int (0 : Int32)])), ((q 1), .inl (cB, r_n1, .inl (r_g2)))]) (fun q => (q 0))) :=
  vG_ofF hE (by decide +kernel) (Nat.le_of_ble_eq_true rfl) (fun p e s m args below meth c A C hr hin => hk_J6_toHexString_b52d3_e C (fun q kc ks pc lv hk hd => g_retr (WQ := (fun q => [((q 0), .inr (0, [.ref (q 1), .int (0 : Int32), .int (0 : Int32), .int (0 : Int32)])), ((q 1), .inl (cB, r_n1, .inl (r_g2)))])) (ra := fun q => (q 0)) C hr (Or.inl ⟨_, rfl⟩) q rfl rfl hk hd) h)
-- ---- X8_init
def hf_X8_init (x1 : Int32) : Option (Int32) := some (x1)
set_option maxRecDepth 100000 in
set_option maxHeartbeats 4000000 in
theorem hk_X8_init_e {ad adK adV : Nat → Nat} {tS tF : Nat} {tX sK sV : Nat → Nat} {p : Program} {l : Launch} {e : Env} {s : State} {m : MethodId} {args : Array Value} {below : List Frame} {meth : Method} {c : Code} {A : Nat → Prop} {D : va_G} {cI cF cC cS cO cB cZ : ClassId} {Q : State → Prop} {a0 : Nat} (C : vC (vE ad adK adV tS tF tX sK sV) p l s m args meth c A D (vT7 cI cF cC cS cO cB cZ) cX8_init 2 RX8) (hin : meth.name = "<init>") {r_o1 : Int32} (RET : ∀ (q : Nat → Nat) (kc ks : Nat) (pc : Nat) (lv : List (Nat × Value)), True → decode cX8_init pc = .ok (.return_, 1) → vV p l e { frames := 1, cells := 0, slots := 0, locals := 60 } s m args below meth c A D 2 0 0 Q [(a0, .inr (8, [.int r_o1]))] pc lv []) {x1 : Int32} (h : hf_X8_init x1 = some (r_o1)) : vV p l e { frames := 1, cells := 0, slots := 0, locals := 60 } s m args below meth c A D 2 0 0 Q [(a0, .inr (8, [.int (0 : Int32)]))] 0 [(0, .ref a0), (1, .int x1)] [] := by
  rw [hf_X8_init] at h
  refine vi_aload_n C 0 dX8_init_0 rfl ?_
  refine vi_objInit C tlX8_1 ti_objinit tc_objinit dX8_init_1 (Nat.le_of_ble_eq_true rfl) (Nat.le_of_ble_eq_true rfl) ?_
  refine vi_aload_n C 0 dX8_init_4 rfl ?_
  refine vi_iload_n C 1 dX8_init_5 rfl ?_
  refine vi_put (ref := "MoodSextantLaw$Bits") (ty := tyX8 0) (w' := [(a0, .inr (8, [.int x1]))]) C 0 0 inX8w tyX8 tyX8_ok nmX8 rfl rfl (by decide) tfX8_7 rfl rfl (tyX8_ok 0 (by decide)) rfl rfl (by show 0 < 1; decide) rfl dX8_init_6 ?_
  cases h
  exact RET (fun j => [].getD j 0) 0 0 _ _ trivial dX8_init_9
theorem hm_X8_init {ad adK adV : Nat → Nat} {tS tF : Nat} {tX sK sV : Nat → Nat} (hE : vEok (vE ad adK adV tS tF tX sK sV)) {l : Launch} {D : va_G} {cI cF cC cS cO cB cZ : ClassId} {a0 : Nat} {r_o1 : Int32} {x1 : Int32} (h : hf_X8_init x1 = some (r_o1)) : vG (vE ad adK adV tS tF tX sK sV) l yX8_init cX8_init 2 none 1 60 0 0 D (vT7 cI cF cC cS cO cB cZ) [.ref a0, .int x1] [(a0, .inr (8, [.int (0 : Int32)]))] (gQv D (fun q => [(a0, .inr (8, [.int r_o1]))])) :=
  vG_of hE (by decide +kernel) (Nat.le_of_ble_eq_true rfl) (fun p e s m args below meth c A C hr hin => hk_X8_init_e C hin (fun q kc ks pc lv hk hd => g_retv (WQ := (fun q => [(a0, .inr (8, [.int r_o1]))])) C hr q rfl ⟨Nat.le_refl 0, Nat.le_refl 0⟩ hd) h)
-- ---- X8_next
def hf_X8_next (x1 : Int32) (f0_0 : Int32) : Option (Int32 × Int32) := bd (((f0_0 * (1103515245 : Int32)) + (12345 : Int32) : Int32)) fun y1 => if x1 = 0 then none else some (((Int32.toUInt32 y1 >>> (Int32.toUInt32 (16 : Int32) &&& Int32.toUInt32 31)).toInt32) - ((Int32.toUInt32 y1 >>> (Int32.toUInt32 (16 : Int32) &&& Int32.toUInt32 31)).toInt32) / x1 * x1, y1)
set_option maxRecDepth 100000 in
set_option maxHeartbeats 4000000 in
theorem hk_X8_next_e {ad adK adV : Nat → Nat} {tS tF : Nat} {tX sK sV : Nat → Nat} {p : Program} {l : Launch} {e : Env} {s : State} {m : MethodId} {args : Array Value} {below : List Frame} {meth : Method} {c : Code} {A : Nat → Prop} {D : va_G} {cI cF cC cS cO cB cZ : ClassId} {Q : State → Prop} {a0 : Nat} (C : vC (vE ad adK adV tS tF tX sK sV) p l s m args meth c A D (vT7 cI cF cC cS cO cB cZ) cX8_next 2 RX8) {r0 : Int32} {r_o1 : Int32} (RET : ∀ (q : Nat → Nat) (kc ks : Nat) (pc : Nat) (lv : List (Nat × Value)), True → decode cX8_next pc = .ok (.ireturn, 1) → vV p l e { frames := 0, cells := 0, slots := 0, locals := 0 } s m args below meth c A D 2 0 0 Q [(a0, .inr (8, [.int r_o1]))] pc lv [.int r0]) {x1 : Int32} {f0_0 : Int32} (h : hf_X8_next x1 f0_0 = some (r0, r_o1)) : vV p l e { frames := 0, cells := 0, slots := 0, locals := 0 } s m args below meth c A D 2 0 0 Q [(a0, .inr (8, [.int f0_0]))] 0 [(0, .ref a0), (1, .int x1)] [] := by
  rw [hf_X8_next] at h
  refine vi_aload_n C 0 dX8_next_0 rfl ?_
  refine vi_aload_n C 0 dX8_next_1 rfl ?_
  refine vi_get (ref := "MoodSextantLaw$Bits") (v := .int f0_0) C 0 0 inX8w rfl rfl (by decide) tfX8_7 rfl rfl dX8_next_2 ?_
  refine vi_ldc (v := 1103515245) C dX8_next_5 tkX8_13 ?_
  refine vi_imul C dX8_next_7 ?_
  refine vi_sipush (v := 12345) C dX8_next_8 (by decide) ?_
  refine vi_iadd C dX8_next_11 ?_
  obtain ⟨y1, ey1, h⟩ := ob_nm h
  refine vi_nmi ey1 ?_
  refine vi_put (ref := "MoodSextantLaw$Bits") (ty := tyX8 0) (w' := [(a0, .inr (8, [.int y1]))]) C 0 0 inX8w tyX8 tyX8_ok nmX8 rfl rfl (by decide) tfX8_7 rfl rfl (tyX8_ok 0 (by decide)) rfl rfl (by show 0 < 1; decide) rfl dX8_next_12 ?_
  refine vi_aload_n C 0 dX8_next_15 rfl ?_
  refine vi_get (ref := "MoodSextantLaw$Bits") (v := .int y1) C 0 0 inX8w rfl rfl (by decide) tfX8_7 rfl rfl dX8_next_16 ?_
  refine vi_bipush (v := 16) C dX8_next_19 (by decide) ?_
  refine vi_iushr C dX8_next_21 ?_
  refine vi_iload_n C 1 dX8_next_22 rfl ?_
  obtain ⟨hz2, h⟩ := ob_if h
  refine vi_irem C dX8_next_23 hz2 ?_
  cases h
  exact RET (fun j => [].getD j 0) 0 0 _ _ trivial dX8_next_24
theorem hm_X8_next {ad adK adV : Nat → Nat} {tS tF : Nat} {tX sK sV : Nat → Nat} (hE : vEok (vE ad adK adV tS tF tX sK sV)) {l : Launch} {D : va_G} {cI cF cC cS cO cB cZ : ClassId} {a0 : Nat} {r0 : Int32} {r_o1 : Int32} {x1 : Int32} {f0_0 : Int32} (h : hf_X8_next x1 f0_0 = some (r0, r_o1)) : vG (vE ad adK adV tS tF tX sK sV) l yX8_next cX8_next 2 (some .int) 0 0 0 0 D (vT7 cI cF cC cS cO cB cZ) [.ref a0, .int x1] [(a0, .inr (8, [.int f0_0]))] (gQi D (fun q => [(a0, .inr (8, [.int r_o1]))]) r0) :=
  vG_of hE (by decide +kernel) (Nat.le_of_ble_eq_true rfl) (fun p e s m args below meth c A C hr hin => hk_X8_next_e C (fun q kc ks pc lv hk hd => g_reti (WQ := (fun q => [(a0, .inr (8, [.int r_o1]))])) C hr rfl q rfl ⟨Nat.le_refl 0, Nat.le_refl 0⟩ hd) h)
