-- ---- J5_append_cf1ce_K
def hf_J5_append_cf1ce_K (mc : Nat) (ms : Nat) (ki : Nat) (f0_3 : Int32) (n1 : Nat) (g1 : Nat → Int32) : Option (Int32 × Nat × (Nat → Int32)) := (hf_J0_length_8abf5_K ki).bind fun z1 => if ki < 3 then if 0 + (gc1 (f0_3 + z1) n1) ≤ mc ∧ 0 + (gc2 (f0_3 + z1) n1) ≤ ms then (hf_J5_ensureCapacityInternal_d00df (gc1 (f0_3 + z1) n1) (gc2 (f0_3 + z1) n1) (f0_3 + z1) f0_3 n1 g1).bind fun z5 => bd (0 + (gc1 (f0_3 + z1) n1)) fun kc7 => bd (0 + (gc2 (f0_3 + z1) n1)) fun ks8 => (hf_J5_putStringAt_47b60_K ki (z5.1) (z5.1) (z5.2.1) (z5.2.2)).bind fun z9 => bd (((z5.1) + z1 : Int32)) fun y11 => some (y11, z9.1, z9.2) else none else none
set_option maxRecDepth 100000 in
set_option maxHeartbeats 4000000 in
theorem hk_J5_append_cf1ce_K_e {ad adK adV : Nat → Nat} {tS tF : Nat} {tX sK sV : Nat → Nat} {p : Program} {l : Launch} {e : Env} {s : State} {m : MethodId} {args : Array Value} {below : List Frame} {meth : Method} {c : Code} {A : Nat → Prop} {D : va_G} {cI cF cC cS cO cB cZ : ClassId} {Q : State → Prop} {mc : Nat} {ms : Nat} {ki : Nat} {a0 : Nat} {a1 : Nat} (C : vC (vE ad adK adV tS tF tX sK sV) p l s m args meth c A D (vT7 cI cF cC cS cO cB cZ) cJ5_append_cf1ce 3 RJ5) {r_o1 : Int32} {r_n2 : Nat} {r_g3 : Nat → Int32} (RET : ∀ (q : Nat → Nat) (kc ks : Nat) (pc : Nat) (lv : List (Nat × Value)), (kc ≤ mc ∧ ks ≤ ms) → decode cJ5_append_cf1ce pc = .ok (.areturn, 1) → vV p l e { frames := 4, cells := mc, slots := ms, locals := 105 } s m args below meth c A D 3 kc ks Q [(a0, .inr (1, [.ref (q 0), .int (0 : Int32), .int (0 : Int32), .int r_o1])), ((q 0), .inl (cB, r_n2, .inl (r_g3)))] pc lv [.ref a0]) {f0_3 : Int32} {n1 : Nat} {g1 : Nat → Int32} (h : hf_J5_append_cf1ce_K mc ms ki f0_3 n1 g1 = some (r_o1, r_n2, r_g3)) : vV p l e { frames := 4, cells := mc, slots := ms, locals := 105 } s m args below meth c A D 3 (0) (0) Q [(a0, .inr (1, [.ref a1, .int (0 : Int32), .int (0 : Int32), .int f0_3])), (a1, .inl (cB, n1, .inl (g1)))] 0 [(0, .ref a0), (1, .ref (sK ki))] [] := by
  rw [hf_J5_append_cf1ce_K] at h
  refine vi_aload_n C 1 dJ5_append_cf1ce_0 rfl ?_
  refine vi_ifnonnull (tgt := 9) C dJ5_append_cf1ce_1 (by decide) ?_
  refine vi_aload_n C 1 dJ5_append_cf1ce_9 rfl ?_
  obtain ⟨z1, hgz1, h⟩ := ob_bd h
  refine vi_w C (w' := [(a0, .inr (1, [.ref a1, .int (0 : Int32), .int (0 : Int32), .int f0_3])), (a1, .inl (cB, n1, .inl (g1)))] ++ []) rfl ?_
  obtain ⟨hz2, h⟩ := ob_ok h
  refine g_ci C (g_runK (As := []) (rest := []) (w1 := [(a0, .inr (1, [.ref a1, .int (0 : Int32), .int (0 : Int32), .int f0_3])), (a1, .inl (cB, n1, .inl (g1)))]) (wc := []) C (hm_J0_length_8abf5_K  (ki := ki) (r0 := z1) C.2.2.2.2.2.2.2.2.1 hgz1) 0 rfl tcJ0_length_8abf5 tlJ5_32 tiJ0_length_8abf5 tsJ0_length_8abf5 tnJ0 tdJ0_length_8abf5 ⟨Nat.le_of_ble_eq_true rfl, Nat.le_of_ble_eq_true rfl⟩ ⟨Nat.zero_le _, Nat.zero_le _⟩ (fun H locs hS => vE_recvS C hz2 hS) rfl (Nat.le_of_ble_eq_true rfl) dJ5_append_cf1ce_10 rfl) rfl (fun q3 => ?_)
  refine vi_w C (w' := [(a0, .inr (1, [.ref a1, .int (0 : Int32), .int (0 : Int32), .int f0_3])), (a1, .inl (cB, n1, .inl (g1)))]) rfl ?_
  refine vi_kk (kc1 := (0)) (ks1 := (0)) rfl rfl ?_
  refine vi_istore_n (lv' := [(2, .int z1), (0, .ref a0), (1, .ref (sK ki))]) C dJ5_append_cf1ce_13 rfl (by decide) rfl ?_
  refine vi_aload_n C 1 dJ5_append_cf1ce_14 rfl ?_
  refine vi_aload_n C 1 dJ5_append_cf1ce_15 rfl ?_
  refine vi_get (ref := "java/lang/AbstractStringBuilder") (v := .int f0_3) C 0 3 inJ4w rfl rfl (by decide) tfJ5_79 rfl rfl dJ5_append_cf1ce_16 ?_
  refine vi_iload_n C 0 dJ5_append_cf1ce_19 rfl ?_
  refine vi_iadd C dJ5_append_cf1ce_20 ?_
  obtain ⟨hz4, h⟩ := ob_ok h
  obtain ⟨z5, hgz5, h⟩ := ob_bd h
  refine vi_w C (w' := [] ++ [(a0, .inr (1, [.ref a1, .int (0 : Int32), .int (0 : Int32), .int f0_3])), (a1, .inl (cB, n1, .inl (g1)))]) rfl ?_
  refine g_cv C (g_runU (x := yJ5_ensureCapacityInternal_d00df) (owner := RJ5) (Cn := RJ4) (T := TJ4) (N := 4) (ci := 1) (fs := [.ref a1, .int (0 : Int32), .int (0 : Int32), .int f0_3]) (As := [.int (f0_3 + z1)]) (rest := []) (w1 := []) (wc := [(a0, .inr (1, [.ref a1, .int (0 : Int32), .int (0 : Int32), .int f0_3])), (a1, .inl (cB, n1, .inl (g1)))]) C (hm_J5_ensureCapacityInternal_d00df (a0 := a0) (a1 := a1) (mc := (gc1 (f0_3 + z1) n1)) (ms := (gc2 (f0_3 + z1) n1)) (x1 := (f0_3 + z1)) (f0_3 := f0_3) (n1 := n1) (g1 := g1) (r_o1 := z5.1) (r_n2 := z5.2.1) (r_g3 := z5.2.2) C.2.2.2.2.2.2.2.2.1 hgz5) 1 rfl tcJ5_ensureCapacityInternal_d00df tlJ5_100 tiJ5_ensureCapacityInternal_d00df tsmJ5_ensureCapacityInternal_d00df (va_Decl.of (C.2.2.2.2.1 _ tiJ5_ensureCapacityInternal_d00df) (C.2.2.2.2.1 _ tcJ5_ensureCapacityInternal_d00df)) (g_selPriv (by decide) (C.2.2.2.2.1 _ tinst_J4) (va_Nw.use rfl ((vE_x C).2.2.2.2.2 _ (List.mem_of_getElem? (i := 1) rfl))) (C.2.2.2.2.1 _ tiJ5_ensureCapacityInternal_d00df) (C.2.2.2.2.1 _ tsmJ5_ensureCapacityInternal_d00df)) tnJ5 (by decide) tdJ5_ensureCapacityInternal_d00df.2.2 ⟨Nat.le_of_ble_eq_true rfl, Nat.le_of_ble_eq_true rfl⟩ hz4 0 rfl rfl rfl (Nat.le_of_ble_eq_true rfl) dJ5_append_cf1ce_21 rfl) rfl (fun q6 => ?_)
  refine vi_w C (w' := [(a0, .inr (1, [.ref (q6 0), .int (0 : Int32), .int (0 : Int32), .int (z5.1)])), ((q6 0), .inl (cB, z5.2.1, .inl (z5.2.2)))]) rfl ?_
  obtain ⟨kc7, ekc7, h⟩ := ob_nm h
  obtain ⟨ks8, eks8, h⟩ := ob_nm h
  refine vi_kk ekc7.symm eks8.symm ?_
  rw [← ekc7, ← eks8] at hz4
  refine vi_aload_n C 1 dJ5_append_cf1ce_24 rfl ?_
  refine vi_aload_n C 1 dJ5_append_cf1ce_25 rfl ?_
  refine vi_get (ref := "java/lang/AbstractStringBuilder") (v := .int (z5.1)) C 0 3 inJ4w rfl rfl (by decide) tfJ5_79 rfl rfl dJ5_append_cf1ce_26 ?_
  refine vi_aload_n C 2 dJ5_append_cf1ce_29 rfl ?_
  obtain ⟨z9, hgz9, h⟩ := ob_bd h
  refine vi_w C (w' := [] ++ [(a0, .inr (1, [.ref (q6 0), .int (0 : Int32), .int (0 : Int32), .int (z5.1)])), ((q6 0), .inl (cB, z5.2.1, .inl (z5.2.2)))]) rfl ?_
  refine g_cv C (g_runU (x := yJ5_putStringAt_47b60) (owner := RJ5) (Cn := RJ4) (T := TJ4) (N := 4) (ci := 1) (fs := [.ref (q6 0), .int (0 : Int32), .int (0 : Int32), .int (z5.1)]) (As := [.int (z5.1), .ref (sK ki)]) (rest := []) (w1 := []) (wc := [(a0, .inr (1, [.ref (q6 0), .int (0 : Int32), .int (0 : Int32), .int (z5.1)])), ((q6 0), .inl (cB, z5.2.1, .inl (z5.2.2)))]) C (hm_J5_putStringAt_47b60_K (a0 := a0) (a1 := (q6 0)) (ki := ki) (f0_3 := (z5.1)) (x1 := (z5.1)) (n1 := (z5.2.1)) (g1 := (z5.2.2)) (r_n1 := z9.1) (r_g2 := z9.2) C.2.2.2.2.2.2.2.2.1 hgz9) 2 rfl tcJ5_putStringAt_47b60 tlJ5_208 tiJ5_putStringAt_47b60 tsmJ5_putStringAt_47b60 (va_Decl.of (C.2.2.2.2.1 _ tiJ5_putStringAt_47b60) (C.2.2.2.2.1 _ tcJ5_putStringAt_47b60)) (g_selPriv (by decide) (C.2.2.2.2.1 _ tinst_J4) (va_Nw.use rfl ((vE_x C).2.2.2.2.2 _ (List.mem_of_getElem? (i := 3) rfl))) (C.2.2.2.2.1 _ tiJ5_putStringAt_47b60) (C.2.2.2.2.1 _ tsmJ5_putStringAt_47b60)) tnJ5 (by decide) tdJ5_putStringAt_47b60.2.2 ⟨Nat.le_of_ble_eq_true rfl, Nat.le_of_ble_eq_true rfl⟩ hz4 0 rfl rfl rfl (Nat.le_of_ble_eq_true rfl) dJ5_append_cf1ce_30 rfl) rfl (fun q10 => ?_)
  refine vi_w C (w' := [(a0, .inr (1, [.ref (q6 0), .int (0 : Int32), .int (0 : Int32), .int (z5.1)])), ((q6 0), .inl (cB, z9.1, .inl (z9.2)))]) rfl ?_
  refine vi_kk (kc1 := kc7) (ks1 := ks8) rfl rfl ?_
  refine vi_aload_n C 1 dJ5_append_cf1ce_33 rfl ?_
  refine vi_dup C dJ5_append_cf1ce_34 rfl ?_
  refine vi_get (ref := "java/lang/AbstractStringBuilder") (v := .int (z5.1)) C 0 3 inJ4w rfl rfl (by decide) tfJ5_79 rfl rfl dJ5_append_cf1ce_35 ?_
  refine vi_iload_n C 0 dJ5_append_cf1ce_38 rfl ?_
  refine vi_iadd C dJ5_append_cf1ce_39 ?_
  obtain ⟨y11, ey11, h⟩ := ob_nm h
  refine vi_nmi ey11 ?_
  refine vi_put (ref := "java/lang/AbstractStringBuilder") (ty := tyJ4 3) (w' := [(a0, .inr (1, [.ref (q6 0), .int (0 : Int32), .int (0 : Int32), .int y11])), ((q6 0), .inl (cB, z9.1, .inl (z9.2)))]) C 0 3 inJ4w tyJ4 tyJ4_ok nmJ4 rfl rfl (by decide) tfJ5_79 rfl rfl (tyJ4_ok 3 (by decide)) rfl rfl (by show 3 < 4; decide) rfl dJ5_append_cf1ce_40 ?_
  refine vi_aload_n C 1 dJ5_append_cf1ce_43 rfl ?_
  cases h
  exact RET (fun j => [(q6 0)].getD j 0) _ _ _ _ hz4 dJ5_append_cf1ce_44
theorem hm_J5_append_cf1ce_K {ad adK adV : Nat → Nat} {tS tF : Nat} {tX sK sV : Nat → Nat} (hE : vEok (vE ad adK adV tS tF tX sK sV)) {l : Launch} {D : va_G} {cI cF cC cS cO cB cZ : ClassId} {mc : Nat} {ms : Nat} {ki : Nat} {a0 : Nat} {a1 : Nat} {r_o1 : Int32} {r_n2 : Nat} {r_g3 : Nat → Int32} {f0_3 : Int32} {n1 : Nat} {g1 : Nat → Int32} (h : hf_J5_append_cf1ce_K mc ms ki f0_3 n1 g1 = some (r_o1, r_n2, r_g3)) : vG (vE ad adK adV tS tF tX sK sV) l yJ5_append_cf1ce cJ5_append_cf1ce 3 (some (FieldType.object "java/lang/AbstractStringBuilder")) 4 105 mc ms D (vT7 cI cF cC cS cO cB cZ) [.ref a0, .ref (sK ki)] [(a0, .inr (1, [.ref a1, .int (0 : Int32), .int (0 : Int32), .int f0_3])), (a1, .inl (cB, n1, .inl (g1)))] (gQr D (fun q => [(a0, .inr (1, [.ref (q 0), .int (0 : Int32), .int (0 : Int32), .int r_o1])), ((q 0), .inl (cB, r_n2, .inl (r_g3)))]) (fun q => a0)) :=
  vG_ofF hE (by decide +kernel) (Nat.le_of_ble_eq_true rfl) (fun p e s m args below meth c A C hr hin => hk_J5_append_cf1ce_K_e C (fun q kc ks pc lv hk hd => g_retr (WQ := (fun q => [(a0, .inr (1, [.ref (q 0), .int (0 : Int32), .int (0 : Int32), .int r_o1])), ((q 0), .inl (cB, r_n2, .inl (r_g3)))])) (ra := fun q => a0) C hr (Or.inl ⟨_, rfl⟩) q rfl rfl hk hd) h)
-- ---- J4_append_15ec4
def hf_J4_append_15ec4 (mc : Nat) (ms : Nat) (n3 : Nat) (g3 : Nat → Int32) (f0_3 : Int32) (n1 : Nat) (g1 : Nat → Int32) : Option (Int32 × Nat × (Nat → Int32)) := if 0 + (gc1 (f0_3 + Int32.ofNat n3) n1) ≤ mc ∧ 0 + (gc2 (f0_3 + Int32.ofNat n3) n1) ≤ ms then (hf_J5_append_cf1ce (gc1 (f0_3 + Int32.ofNat n3) n1) (gc2 (f0_3 + Int32.ofNat n3) n1) n3 g3 f0_3 n1 g1).bind fun z2 => bd (0 + (gc1 (f0_3 + Int32.ofNat n3) n1)) fun kc4 => bd (0 + (gc2 (f0_3 + Int32.ofNat n3) n1)) fun ks5 => some (z2.1, z2.2.1, z2.2.2) else none
set_option maxRecDepth 100000 in
set_option maxHeartbeats 4000000 in
theorem hk_J4_append_15ec4_e {ad adK adV : Nat → Nat} {tS tF : Nat} {tX sK sV : Nat → Nat} {p : Program} {l : Launch} {e : Env} {s : State} {m : MethodId} {args : Array Value} {below : List Frame} {meth : Method} {c : Code} {A : Nat → Prop} {D : va_G} {cI cF cC cS cO cB cZ : ClassId} {Q : State → Prop} {mc : Nat} {ms : Nat} {n3 : Nat} {g3 : Nat → Int32} {a0 : Nat} {a1 : Nat} {a2 : Nat} {a3 : Nat} (C : vC (vE ad adK adV tS tF tX sK sV) p l s m args meth c A D (vT7 cI cF cC cS cO cB cZ) cJ4_append_15ec4 2 RJ4) {r_o1 : Int32} {r_n2 : Nat} {r_g3 : Nat → Int32} (RET : ∀ (q : Nat → Nat) (kc ks : Nat) (pc : Nat) (lv : List (Nat × Value)), (kc ≤ mc ∧ ks ≤ ms) → decode cJ4_append_15ec4 pc = .ok (.areturn, 1) → vV p l e { frames := 5, cells := mc, slots := ms, locals := 127 } s m args below meth c A D 2 kc ks Q [(a0, .inr (1, [.ref (q 0), .int (0 : Int32), .int (0 : Int32), .int r_o1])), ((q 0), .inl (cB, r_n2, .inl (r_g3))), (a2, .inr (0, [.ref a3, .int (0 : Int32), .int (0 : Int32), .int (0 : Int32)])), (a3, .inl (cB, n3, .inl (g3)))] pc lv [.ref a0]) {f0_3 : Int32} {n1 : Nat} {g1 : Nat → Int32} (h : hf_J4_append_15ec4 mc ms n3 g3 f0_3 n1 g1 = some (r_o1, r_n2, r_g3)) : vV p l e { frames := 5, cells := mc, slots := ms, locals := 127 } s m args below meth c A D 2 (0) (0) Q [(a0, .inr (1, [.ref a1, .int (0 : Int32), .int (0 : Int32), .int f0_3])), (a1, .inl (cB, n1, .inl (g1))), (a2, .inr (0, [.ref a3, .int (0 : Int32), .int (0 : Int32), .int (0 : Int32)])), (a3, .inl (cB, n3, .inl (g3)))] 0 [(0, .ref a0), (1, .ref a2)] [] := by
  rw [hf_J4_append_15ec4] at h
  refine vi_aload_n C 0 dJ4_append_15ec4_0 rfl ?_
  refine vi_aload_n C 1 dJ4_append_15ec4_1 rfl ?_
  obtain ⟨hz1, h⟩ := ob_ok h
  obtain ⟨z2, hgz2, h⟩ := ob_bd h
  refine vi_w C (w' := [] ++ [(a0, .inr (1, [.ref a1, .int (0 : Int32), .int (0 : Int32), .int f0_3])), (a1, .inl (cB, n1, .inl (g1))), (a2, .inr (0, [.ref a3, .int (0 : Int32), .int (0 : Int32), .int (0 : Int32)])), (a3, .inl (cB, n3, .inl (g3)))]) rfl ?_
  refine g_cr C (g_runSU (T := TJ4) (N := 4) (As := [.ref a2]) (rest := []) (w1 := []) (wc := [(a0, .inr (1, [.ref a1, .int (0 : Int32), .int (0 : Int32), .int f0_3])), (a1, .inl (cB, n1, .inl (g1))), (a2, .inr (0, [.ref a3, .int (0 : Int32), .int (0 : Int32), .int (0 : Int32)])), (a3, .inl (cB, n3, .inl (g3)))]) C (hm_J5_append_cf1ce (a0 := a0) (a1 := a1) (a2 := a2) (a3 := a3) (mc := (gc1 (f0_3 + Int32.ofNat n3) n1)) (ms := (gc2 (f0_3 + Int32.ofNat n3) n1)) (n3 := n3) (g3 := g3) (f0_3 := f0_3) (n1 := n1) (g1 := g1) (r_o1 := z2.1) (r_n2 := z2.2.1) (r_g3 := z2.2.2) C.2.2.2.2.2.2.2.2.1 hgz2) 1 rfl tcJ5_append_cf1ce tlJ4_29 tiJ5_append_cf1ce tsmJ5_append_cf1ce tsuJ4 tnJ5 (by decide) tdJ5_append_cf1ce.2.2 ⟨Nat.le_of_ble_eq_true rfl, Nat.le_of_ble_eq_true rfl⟩ hz1 0 rfl rfl rfl rfl (Nat.le_of_ble_eq_true rfl) dJ4_append_15ec4_2 rfl) rfl (fun q3 => ?_)
  refine vi_w C (w' := [(a0, .inr (1, [.ref (q3 0), .int (0 : Int32), .int (0 : Int32), .int (z2.1)])), ((q3 0), .inl (cB, z2.2.1, .inl (z2.2.2))), (a2, .inr (0, [.ref a3, .int (0 : Int32), .int (0 : Int32), .int (0 : Int32)])), (a3, .inl (cB, n3, .inl (g3)))]) rfl ?_
  obtain ⟨kc4, ekc4, h⟩ := ob_nm h
  obtain ⟨ks5, eks5, h⟩ := ob_nm h
  refine vi_kk ekc4.symm eks5.symm ?_
  rw [← ekc4, ← eks5] at hz1
  refine vi_pop C dJ4_append_15ec4_5 rfl ?_
  refine vi_aload_n C 0 dJ4_append_15ec4_6 rfl ?_
  cases h
  exact RET (fun j => [(q3 0)].getD j 0) _ _ _ _ hz1 dJ4_append_15ec4_7
theorem hm_J4_append_15ec4 {ad adK adV : Nat → Nat} {tS tF : Nat} {tX sK sV : Nat → Nat} (hE : vEok (vE ad adK adV tS tF tX sK sV)) {l : Launch} {D : va_G} {cI cF cC cS cO cB cZ : ClassId} {mc : Nat} {ms : Nat} {n3 : Nat} {g3 : Nat → Int32} {a0 : Nat} {a1 : Nat} {a2 : Nat} {a3 : Nat} {r_o1 : Int32} {r_n2 : Nat} {r_g3 : Nat → Int32} {f0_3 : Int32} {n1 : Nat} {g1 : Nat → Int32} (h : hf_J4_append_15ec4 mc ms n3 g3 f0_3 n1 g1 = some (r_o1, r_n2, r_g3)) : vG (vE ad adK adV tS tF tX sK sV) l yJ4_append_15ec4 cJ4_append_15ec4 2 (some (FieldType.object "java/lang/StringBuilder")) 5 127 mc ms D (vT7 cI cF cC cS cO cB cZ) [.ref a0, .ref a2] [(a0, .inr (1, [.ref a1, .int (0 : Int32), .int (0 : Int32), .int f0_3])), (a1, .inl (cB, n1, .inl (g1))), (a2, .inr (0, [.ref a3, .int (0 : Int32), .int (0 : Int32), .int (0 : Int32)])), (a3, .inl (cB, n3, .inl (g3)))] (gQr D (fun q => [(a0, .inr (1, [.ref (q 0), .int (0 : Int32), .int (0 : Int32), .int r_o1])), ((q 0), .inl (cB, r_n2, .inl (r_g3))), (a2, .inr (0, [.ref a3, .int (0 : Int32), .int (0 : Int32), .int (0 : Int32)])), (a3, .inl (cB, n3, .inl (g3)))]) (fun q => a0)) :=
  vG_ofF hE (by decide +kernel) (Nat.le_of_ble_eq_true rfl) (fun p e s m args below meth c A C hr hin => hk_J4_append_15ec4_e C (fun q kc ks pc lv hk hd => g_retr (WQ := (fun q => [(a0, .inr (1, [.ref (q 0), .int (0 : Int32), .int (0 : Int32), .int r_o1])), ((q 0), .inl (cB, r_n2, .inl (r_g3))), (a2, .inr (0, [.ref a3, .int (0 : Int32), .int (0 : Int32), .int (0 : Int32)])), (a3, .inl (cB, n3, .inl (g3)))])) (ra := fun q => a0) C hr (Or.inl ⟨_, rfl⟩) q rfl rfl hk hd) h)
-- ---- J4_append_15ec4_K
def hf_J4_append_15ec4_K (mc : Nat) (ms : Nat) (ki : Nat) (f0_3 : Int32) (n1 : Nat) (g1 : Nat → Int32) : Option (Int32 × Nat × (Nat → Int32)) := if 0 + (gc1 (f0_3 + Int32.ofNat (vLlen.getD ki 0)) n1) ≤ mc ∧ 0 + (gc2 (f0_3 + Int32.ofNat (vLlen.getD ki 0)) n1) ≤ ms then (hf_J5_append_cf1ce_K (gc1 (f0_3 + Int32.ofNat (vLlen.getD ki 0)) n1) (gc2 (f0_3 + Int32.ofNat (vLlen.getD ki 0)) n1) ki f0_3 n1 g1).bind fun z2 => bd (0 + (gc1 (f0_3 + Int32.ofNat (vLlen.getD ki 0)) n1)) fun kc4 => bd (0 + (gc2 (f0_3 + Int32.ofNat (vLlen.getD ki 0)) n1)) fun ks5 => some (z2.1, z2.2.1, z2.2.2) else none
set_option maxRecDepth 100000 in
set_option maxHeartbeats 4000000 in
theorem hk_J4_append_15ec4_K_e {ad adK adV : Nat → Nat} {tS tF : Nat} {tX sK sV : Nat → Nat} {p : Program} {l : Launch} {e : Env} {s : State} {m : MethodId} {args : Array Value} {below : List Frame} {meth : Method} {c : Code} {A : Nat → Prop} {D : va_G} {cI cF cC cS cO cB cZ : ClassId} {Q : State → Prop} {mc : Nat} {ms : Nat} {ki : Nat} {a0 : Nat} {a1 : Nat} (C : vC (vE ad adK adV tS tF tX sK sV) p l s m args meth c A D (vT7 cI cF cC cS cO cB cZ) cJ4_append_15ec4 2 RJ4) {r_o1 : Int32} {r_n2 : Nat} {r_g3 : Nat → Int32} (RET : ∀ (q : Nat → Nat) (kc ks : Nat) (pc : Nat) (lv : List (Nat × Value)), (kc ≤ mc ∧ ks ≤ ms) → decode cJ4_append_15ec4 pc = .ok (.areturn, 1) → vV p l e { frames := 5, cells := mc, slots := ms, locals := 127 } s m args below meth c A D 2 kc ks Q [(a0, .inr (1, [.ref (q 0), .int (0 : Int32), .int (0 : Int32), .int r_o1])), ((q 0), .inl (cB, r_n2, .inl (r_g3)))] pc lv [.ref a0]) {f0_3 : Int32} {n1 : Nat} {g1 : Nat → Int32} (h : hf_J4_append_15ec4_K mc ms ki f0_3 n1 g1 = some (r_o1, r_n2, r_g3)) : vV p l e { frames := 5, cells := mc, slots := ms, locals := 127 } s m args below meth c A D 2 (0) (0) Q [(a0, .inr (1, [.ref a1, .int (0 : Int32), .int (0 : Int32), .int f0_3])), (a1, .inl (cB, n1, .inl (g1)))] 0 [(0, .ref a0), (1, .ref (sK ki))] [] := by
  rw [hf_J4_append_15ec4_K] at h
  refine vi_aload_n C 0 dJ4_append_15ec4_0 rfl ?_
  refine vi_aload_n C 1 dJ4_append_15ec4_1 rfl ?_
  obtain ⟨hz1, h⟩ := ob_ok h
  obtain ⟨z2, hgz2, h⟩ := ob_bd h
  refine vi_w C (w' := [] ++ [(a0, .inr (1, [.ref a1, .int (0 : Int32), .int (0 : Int32), .int f0_3])), (a1, .inl (cB, n1, .inl (g1)))]) rfl ?_
  refine g_cr C (g_runSU (T := TJ4) (N := 4) (As := [.ref (sK ki)]) (rest := []) (w1 := []) (wc := [(a0, .inr (1, [.ref a1, .int (0 : Int32), .int (0 : Int32), .int f0_3])), (a1, .inl (cB, n1, .inl (g1)))]) C (hm_J5_append_cf1ce_K (a0 := a0) (a1 := a1) (mc := (gc1 (f0_3 + Int32.ofNat (vLlen.getD ki 0)) n1)) (ms := (gc2 (f0_3 + Int32.ofNat (vLlen.getD ki 0)) n1)) (ki := ki) (f0_3 := f0_3) (n1 := n1) (g1 := g1) (r_o1 := z2.1) (r_n2 := z2.2.1) (r_g3 := z2.2.2) C.2.2.2.2.2.2.2.2.1 hgz2) 1 rfl tcJ5_append_cf1ce tlJ4_29 tiJ5_append_cf1ce tsmJ5_append_cf1ce tsuJ4 tnJ5 (by decide) tdJ5_append_cf1ce.2.2 ⟨Nat.le_of_ble_eq_true rfl, Nat.le_of_ble_eq_true rfl⟩ hz1 0 rfl rfl rfl rfl (Nat.le_of_ble_eq_true rfl) dJ4_append_15ec4_2 rfl) rfl (fun q3 => ?_)
  refine vi_w C (w' := [(a0, .inr (1, [.ref (q3 0), .int (0 : Int32), .int (0 : Int32), .int (z2.1)])), ((q3 0), .inl (cB, z2.2.1, .inl (z2.2.2)))]) rfl ?_
  obtain ⟨kc4, ekc4, h⟩ := ob_nm h
  obtain ⟨ks5, eks5, h⟩ := ob_nm h
  refine vi_kk ekc4.symm eks5.symm ?_
  rw [← ekc4, ← eks5] at hz1
  refine vi_pop C dJ4_append_15ec4_5 rfl ?_
  refine vi_aload_n C 0 dJ4_append_15ec4_6 rfl ?_
  cases h
  exact RET (fun j => [(q3 0)].getD j 0) _ _ _ _ hz1 dJ4_append_15ec4_7
theorem hm_J4_append_15ec4_K {ad adK adV : Nat → Nat} {tS tF : Nat} {tX sK sV : Nat → Nat} (hE : vEok (vE ad adK adV tS tF tX sK sV)) {l : Launch} {D : va_G} {cI cF cC cS cO cB cZ : ClassId} {mc : Nat} {ms : Nat} {ki : Nat} {a0 : Nat} {a1 : Nat} {r_o1 : Int32} {r_n2 : Nat} {r_g3 : Nat → Int32} {f0_3 : Int32} {n1 : Nat} {g1 : Nat → Int32} (h : hf_J4_append_15ec4_K mc ms ki f0_3 n1 g1 = some (r_o1, r_n2, r_g3)) : vG (vE ad adK adV tS tF tX sK sV) l yJ4_append_15ec4 cJ4_append_15ec4 2 (some (FieldType.object "java/lang/StringBuilder")) 5 127 mc ms D (vT7 cI cF cC cS cO cB cZ) [.ref a0, .ref (sK ki)] [(a0, .inr (1, [.ref a1, .int (0 : Int32), .int (0 : Int32), .int f0_3])), (a1, .inl (cB, n1, .inl (g1)))] (gQr D (fun q => [(a0, .inr (1, [.ref (q 0), .int (0 : Int32), .int (0 : Int32), .int r_o1])), ((q 0), .inl (cB, r_n2, .inl (r_g3)))]) (fun q => a0)) :=
  vG_ofF hE (by decide +kernel) (Nat.le_of_ble_eq_true rfl) (fun p e s m args below meth c A C hr hin => hk_J4_append_15ec4_K_e C (fun q kc ks pc lv hk hd => g_retr (WQ := (fun q => [(a0, .inr (1, [.ref (q 0), .int (0 : Int32), .int (0 : Int32), .int r_o1])), ((q 0), .inl (cB, r_n2, .inl (r_g3)))])) (ra := fun q => a0) C hr (Or.inl ⟨_, rfl⟩) q rfl rfl hk hd) h)
-- ---- J4_append_cf1ce
def hf_J4_append_cf1ce (mc : Nat) (ms : Nat) (n3 : Nat) (g3 : Nat → Int32) (f0_3 : Int32) (n1 : Nat) (g1 : Nat → Int32) : Option (Int32 × Nat × (Nat → Int32)) := if 0 + (gc1 (f0_3 + Int32.ofNat n3) n1) ≤ mc ∧ 0 + (gc2 (f0_3 + Int32.ofNat n3) n1) ≤ ms then (hf_J4_append_15ec4 (gc1 (f0_3 + Int32.ofNat n3) n1) (gc2 (f0_3 + Int32.ofNat n3) n1) n3 g3 f0_3 n1 g1).bind fun z2 => bd (0 + (gc1 (f0_3 + Int32.ofNat n3) n1)) fun kc4 => bd (0 + (gc2 (f0_3 + Int32.ofNat n3) n1)) fun ks5 => some (z2.1, z2.2.1, z2.2.2) else none
set_option maxRecDepth 100000 in
set_option maxHeartbeats 4000000 in
theorem hk_J4_append_cf1ce_e {ad adK adV : Nat → Nat} {tS tF : Nat} {tX sK sV : Nat → Nat} {p : Program} {l : Launch} {e : Env} {s : State} {m : MethodId} {args : Array Value} {below : List Frame} {meth : Method} {c : Code} {A : Nat → Prop} {D : va_G} {cI cF cC cS cO cB cZ : ClassId} {Q : State → Prop} {mc : Nat} {ms : Nat} {n3 : Nat} {g3 : Nat → Int32} {a0 : Nat} {a1 : Nat} {a2 : Nat} {a3 : Nat} (C : vC (vE ad adK adV tS tF tX sK sV) p l s m args meth c A D (vT7 cI cF cC cS cO cB cZ) cJ4_append_cf1ce 2 RJ4) {r_o1 : Int32} {r_n2 : Nat} {r_g3 : Nat → Int32} (RET : ∀ (q : Nat → Nat) (kc ks : Nat) (pc : Nat) (lv : List (Nat × Value)), (kc ≤ mc ∧ ks ≤ ms) → decode cJ4_append_cf1ce pc = .ok (.areturn, 1) → vV p l e { frames := 6, cells := mc, slots := ms, locals := 148 } s m args below meth c A D 2 kc ks Q [(a0, .inr (1, [.ref (q 0), .int (0 : Int32), .int (0 : Int32), .int r_o1])), ((q 0), .inl (cB, r_n2, .inl (r_g3))), (a2, .inr (0, [.ref a3, .int (0 : Int32), .int (0 : Int32), .int (0 : Int32)])), (a3, .inl (cB, n3, .inl (g3)))] pc lv [.ref a0]) {f0_3 : Int32} {n1 : Nat} {g1 : Nat → Int32} (h : hf_J4_append_cf1ce mc ms n3 g3 f0_3 n1 g1 = some (r_o1, r_n2, r_g3)) : vV p l e { frames := 6, cells := mc, slots := ms, locals := 148 } s m args below meth c A D 2 (0) (0) Q [(a0, .inr (1, [.ref a1, .int (0 : Int32), .int (0 : Int32), .int f0_3])), (a1, .inl (cB, n1, .inl (g1))), (a2, .inr (0, [.ref a3, .int (0 : Int32), .int (0 : Int32), .int (0 : Int32)])), (a3, .inl (cB, n3, .inl (g3)))] 0 [(0, .ref a0), (1, .ref a2)] [] := by
  rw [hf_J4_append_cf1ce] at h
  refine vi_aload_n C 0 dJ4_append_cf1ce_0 rfl ?_
  refine vi_aload_n C 1 dJ4_append_cf1ce_1 rfl ?_
  obtain ⟨hz1, h⟩ := ob_ok h
  obtain ⟨z2, hgz2, h⟩ := ob_bd h
  refine vi_w C (w' := [] ++ [(a0, .inr (1, [.ref a1, .int (0 : Int32), .int (0 : Int32), .int f0_3])), (a1, .inl (cB, n1, .inl (g1))), (a2, .inr (0, [.ref a3, .int (0 : Int32), .int (0 : Int32), .int (0 : Int32)])), (a3, .inl (cB, n3, .inl (g3)))]) rfl ?_
  refine g_cr C (g_runV (T := TJ4) (N := 4) (ci := 1) (fs := [.ref a1, .int (0 : Int32), .int (0 : Int32), .int f0_3]) (As := [.ref a2]) (rest := []) (w1 := []) (wc := [(a0, .inr (1, [.ref a1, .int (0 : Int32), .int (0 : Int32), .int f0_3])), (a1, .inl (cB, n1, .inl (g1))), (a2, .inr (0, [.ref a3, .int (0 : Int32), .int (0 : Int32), .int (0 : Int32)])), (a3, .inl (cB, n3, .inl (g3)))]) C (hm_J4_append_15ec4 (a0 := a0) (a1 := a1) (a2 := a2) (a3 := a3) (mc := (gc1 (f0_3 + Int32.ofNat n3) n1)) (ms := (gc2 (f0_3 + Int32.ofNat n3) n1)) (n3 := n3) (g3 := g3) (f0_3 := f0_3) (n1 := n1) (g1 := g1) (r_o1 := z2.1) (r_n2 := z2.2.1) (r_g3 := z2.2.2) C.2.2.2.2.2.2.2.2.1 hgz2) 1 rfl tcJ4_append_15ec4 tlJ4_23 tiJ4_append_15ec4 tsJ4_append_15ec4 tnJ4 tdJ4_append_15ec4 ⟨Nat.le_of_ble_eq_true rfl, Nat.le_of_ble_eq_true rfl⟩ hz1 0 rfl rfl rfl (Nat.le_of_ble_eq_true rfl) dJ4_append_cf1ce_2 rfl) rfl (fun q3 => ?_)
  refine vi_w C (w' := [(a0, .inr (1, [.ref (q3 0), .int (0 : Int32), .int (0 : Int32), .int (z2.1)])), ((q3 0), .inl (cB, z2.2.1, .inl (z2.2.2))), (a2, .inr (0, [.ref a3, .int (0 : Int32), .int (0 : Int32), .int (0 : Int32)])), (a3, .inl (cB, n3, .inl (g3)))]) rfl ?_
  obtain ⟨kc4, ekc4, h⟩ := ob_nm h
  obtain ⟨ks5, eks5, h⟩ := ob_nm h
  refine vi_kk ekc4.symm eks5.symm ?_
  rw [← ekc4, ← eks5] at hz1
  cases h
  exact RET (fun j => [(q3 0)].getD j 0) _ _ _ _ hz1 dJ4_append_cf1ce_5
theorem hm_J4_append_cf1ce {ad adK adV : Nat → Nat} {tS tF : Nat} {tX sK sV : Nat → Nat} (hE : vEok (vE ad adK adV tS tF tX sK sV)) {l : Launch} {D : va_G} {cI cF cC cS cO cB cZ : ClassId} {mc : Nat} {ms : Nat} {n3 : Nat} {g3 : Nat → Int32} {a0 : Nat} {a1 : Nat} {a2 : Nat} {a3 : Nat} {r_o1 : Int32} {r_n2 : Nat} {r_g3 : Nat → Int32} {f0_3 : Int32} {n1 : Nat} {g1 : Nat → Int32} (h : hf_J4_append_cf1ce mc ms n3 g3 f0_3 n1 g1 = some (r_o1, r_n2, r_g3)) : vG (vE ad adK adV tS tF tX sK sV) l yJ4_append_cf1ce cJ4_append_cf1ce 2 (some (FieldType.object "java/lang/AbstractStringBuilder")) 6 148 mc ms D (vT7 cI cF cC cS cO cB cZ) [.ref a0, .ref a2] [(a0, .inr (1, [.ref a1, .int (0 : Int32), .int (0 : Int32), .int f0_3])), (a1, .inl (cB, n1, .inl (g1))), (a2, .inr (0, [.ref a3, .int (0 : Int32), .int (0 : Int32), .int (0 : Int32)])), (a3, .inl (cB, n3, .inl (g3)))] (gQr D (fun q => [(a0, .inr (1, [.ref (q 0), .int (0 : Int32), .int (0 : Int32), .int r_o1])), ((q 0), .inl (cB, r_n2, .inl (r_g3))), (a2, .inr (0, [.ref a3, .int (0 : Int32), .int (0 : Int32), .int (0 : Int32)])), (a3, .inl (cB, n3, .inl (g3)))]) (fun q => a0)) :=
  vG_ofF hE (by decide +kernel) (Nat.le_of_ble_eq_true rfl) (fun p e s m args below meth c A C hr hin => hk_J4_append_cf1ce_e C (fun q kc ks pc lv hk hd => g_retr (WQ := (fun q => [(a0, .inr (1, [.ref (q 0), .int (0 : Int32), .int (0 : Int32), .int r_o1])), ((q 0), .inl (cB, r_n2, .inl (r_g3))), (a2, .inr (0, [.ref a3, .int (0 : Int32), .int (0 : Int32), .int (0 : Int32)])), (a3, .inl (cB, n3, .inl (g3)))])) (ra := fun q => a0) C hr (Or.inl ⟨_, rfl⟩) q rfl rfl hk hd) h)
-- ---- J5_init_d00df
def hf_J5_init_d00df (mc : Nat) (ms : Nat) (x1 : Int32) : Option (Nat × (Nat → Int32)) := if x1 < 0 ∨ 100000 < (Int32.toNatClampNeg x1) then none else if 0 + 1 ≤ mc ∧ 0 + (Int32.toNatClampNeg x1) ≤ ms then bd ((Int32.toNatClampNeg x1)) fun n3 => bd (0 + 1) fun kc5 => bd (0 + n3) fun ks6 => some (n3, fun _ => 0) else none
set_option maxRecDepth 100000 in
set_option maxHeartbeats 4000000 in
theorem hk_J5_init_d00df_e {ad adK adV : Nat → Nat} {tS tF : Nat} {tX sK sV : Nat → Nat} {p : Program} {l : Launch} {e : Env} {s : State} {m : MethodId} {args : Array Value} {below : List Frame} {meth : Method} {c : Code} {A : Nat → Prop} {D : va_G} {cI cF cC cS cO cB cZ : ClassId} {Q : State → Prop} {mc : Nat} {ms : Nat} {a0 : Nat} (C : vC (vE ad adK adV tS tF tX sK sV) p l s m args meth c A D (vT7 cI cF cC cS cO cB cZ) cJ5_init_d00df 2 RJ5) (hin : meth.name = "<init>") {r_n1 : Nat} {r_g2 : Nat → Int32} (RET : ∀ (q : Nat → Nat) (kc ks : Nat) (pc : Nat) (lv : List (Nat × Value)), (kc ≤ mc ∧ ks ≤ ms) → decode cJ5_init_d00df pc = .ok (.return_, 1) → vV p l e { frames := 1, cells := mc, slots := ms, locals := 60 } s m args below meth c A D 2 kc ks Q [(a0, .inr (1, [.ref (q 0), .int (0 : Int32), .int (0 : Int32), .int (0 : Int32)])), ((q 0), .inl (cB, r_n1, .inl (r_g2)))] pc lv []) {x1 : Int32} (h : hf_J5_init_d00df mc ms x1 = some (r_n1, r_g2)) : vV p l e { frames := 1, cells := mc, slots := ms, locals := 60 } s m args below meth c A D 2 (0) (0) Q [(a0, .inr (1, [.null, .int (0 : Int32), .int (0 : Int32), .int (0 : Int32)]))] 0 [(0, .ref a0), (1, .int x1)] [] := by
  rw [hf_J5_init_d00df] at h
  refine vi_aload_n C 0 dJ5_init_d00df_0 rfl ?_
  refine vi_objInit C tlJ5_3 ti_objinit tc_objinit dJ5_init_d00df_1 (Nat.le_of_ble_eq_true rfl) (Nat.le_of_ble_eq_true rfl) ?_
  refine vi_getCo C tfJ5_18 dJ5_init_d00df_4 ?_
  refine vi_if_eq (tgt := 25) C dJ5_init_d00df_7 (by decide) (fun hc => absurd hc (by decide)) (fun _ => ?_)
  refine vi_aload_n C 0 dJ5_init_d00df_10 rfl ?_
  refine vi_iload_n C 1 dJ5_init_d00df_11 rfl ?_
  obtain ⟨hz1, h⟩ := ob_if h
  obtain ⟨hz2, h⟩ := ob_ok h
  obtain ⟨n3, en3, h⟩ := ob_nm h
  rw [← en3] at hz2
  refine vi_newa (atype := .byte) (ty := .byte) (cA := cB) (N := n3) (a0 := (n3, .inl (fun _ => 0))) C 5 tac_byte rfl rfl (fun _ => rfl) (fun z => hz1 (Or.inl z)) en3.symm (by rw [en3]; exact (gle8 hz1)) hz2.1 hz2.2 dJ5_init_d00df_12 (fun a4 => ?_)
  refine vi_w C (w' := [(a0, .inr (1, [.null, .int (0 : Int32), .int (0 : Int32), .int (0 : Int32)])), (a4, .inl (cB, n3, .inl (fun _ => 0)))]) rfl ?_
  obtain ⟨kc5, ekc5, h⟩ := ob_nm h
  obtain ⟨ks6, eks6, h⟩ := ob_nm h
  refine vi_kk ekc5.symm eks6.symm ?_
  rw [← ekc5, ← eks6] at hz2
  refine vi_put (ref := "java/lang/AbstractStringBuilder") (ty := tyJ4 0) (w' := [(a0, .inr (1, [.ref a4, .int (0 : Int32), .int (0 : Int32), .int (0 : Int32)])), (a4, .inl (cB, n3, .inl (fun _ => 0)))]) C 0 0 inJ4w tyJ4 tyJ4_ok nmJ4 rfl rfl (by decide) tfJ5_15 rfl rfl (tyJ4_ok 0 (by decide)) rfl rfl (by show 0 < 4; decide) rfl dJ5_init_d00df_14 ?_
  refine vi_aload_n C 0 dJ5_init_d00df_17 rfl ?_
  refine vi_iconst (v := 0) C dJ5_init_d00df_18 (by decide) ?_
  refine vi_put (ref := "java/lang/AbstractStringBuilder") (ty := tyJ4 1) (w' := [(a0, .inr (1, [.ref a4, .int (0 : Int32), .int (0 : Int32), .int (0 : Int32)])), (a4, .inl (cB, n3, .inl (fun _ => 0)))]) C 0 1 inJ4w tyJ4 tyJ4_ok nmJ4 rfl rfl (by decide) tfJ5_22 rfl rfl (tyJ4_ok 1 (by decide)) rfl rfl (by show 1 < 4; decide) rfl dJ5_init_d00df_19 ?_
  refine vi_goto (tgt := 38) C dJ5_init_d00df_22 (by decide) ?_
  cases h
  exact RET (fun j => [a4].getD j 0) _ _ _ _ hz2 dJ5_init_d00df_38
theorem hm_J5_init_d00df {ad adK adV : Nat → Nat} {tS tF : Nat} {tX sK sV : Nat → Nat} (hE : vEok (vE ad adK adV tS tF tX sK sV)) {l : Launch} {D : va_G} {cI cF cC cS cO cB cZ : ClassId} {mc : Nat} {ms : Nat} {a0 : Nat} {r_n1 : Nat} {r_g2 : Nat → Int32} {x1 : Int32} (h : hf_J5_init_d00df mc ms x1 = some (r_n1, r_g2)) : vG (vE ad adK adV tS tF tX sK sV) l yJ5_init_d00df cJ5_init_d00df 2 none 1 60 mc ms D (vT7 cI cF cC cS cO cB cZ) [.ref a0, .int x1] [(a0, .inr (1, [.null, .int (0 : Int32), .int (0 : Int32), .int (0 : Int32)]))] (gQv D (fun q => [(a0, .inr (1, [.ref (q 0), .int (0 : Int32), .int (0 : Int32), .int (0 : Int32)])), ((q 0), .inl (cB, r_n1, .inl (r_g2)))])) :=
  vG_ofF hE (by decide +kernel) (Nat.le_of_ble_eq_true rfl) (fun p e s m args below meth c A C hr hin => hk_J5_init_d00df_e C hin (fun q kc ks pc lv hk hd => g_retv (WQ := (fun q => [(a0, .inr (1, [.ref (q 0), .int (0 : Int32), .int (0 : Int32), .int (0 : Int32)])), ((q 0), .inl (cB, r_n1, .inl (r_g2)))])) C hr q rfl hk hd) h)
-- ---- J4_init_da8c8
def hf_J4_init_da8c8 (mc : Nat) (ms : Nat) : Option (Nat × (Nat → Int32)) := if 0 + (1) ≤ mc ∧ 0 + (Int32.toNatClampNeg (16 : Int32)) ≤ ms then (hf_J5_init_d00df (1) (Int32.toNatClampNeg (16 : Int32)) (16 : Int32)).bind fun z2 => bd (0 + (1)) fun kc4 => bd (0 + (Int32.toNatClampNeg (16 : Int32))) fun ks5 => some (z2.1, z2.2) else none
set_option maxRecDepth 100000 in
set_option maxHeartbeats 4000000 in
theorem hk_J4_init_da8c8_e {ad adK adV : Nat → Nat} {tS tF : Nat} {tX sK sV : Nat → Nat} {p : Program} {l : Launch} {e : Env} {s : State} {m : MethodId} {args : Array Value} {below : List Frame} {meth : Method} {c : Code} {A : Nat → Prop} {D : va_G} {cI cF cC cS cO cB cZ : ClassId} {Q : State → Prop} {mc : Nat} {ms : Nat} {a0 : Nat} (C : vC (vE ad adK adV tS tF tX sK sV) p l s m args meth c A D (vT7 cI cF cC cS cO cB cZ) cJ4_init_da8c8 1 RJ4) (hin : meth.name = "<init>") {r_n1 : Nat} {r_g2 : Nat → Int32} (RET : ∀ (q : Nat → Nat) (kc ks : Nat) (pc : Nat) (lv : List (Nat × Value)), (kc ≤ mc ∧ ks ≤ ms) → decode cJ4_init_da8c8 pc = .ok (.return_, 1) → vV p l e { frames := 2, cells := mc, slots := ms, locals := 81 } s m args below meth c A D 1 kc ks Q [(a0, .inr (1, [.ref (q 0), .int (0 : Int32), .int (0 : Int32), .int (0 : Int32)])), ((q 0), .inl (cB, r_n1, .inl (r_g2)))] pc lv []) (h : hf_J4_init_da8c8 mc ms = some (r_n1, r_g2)) : vV p l e { frames := 2, cells := mc, slots := ms, locals := 81 } s m args below meth c A D 1 (0) (0) Q [(a0, .inr (1, [.null, .int (0 : Int32), .int (0 : Int32), .int (0 : Int32)]))] 0 [(0, .ref a0)] [] := by
  rw [hf_J4_init_da8c8] at h
  refine vi_aload_n C 0 dJ4_init_da8c8_0 rfl ?_
  refine vi_bipush (v := 16) C dJ4_init_da8c8_1 (by decide) ?_
  obtain ⟨hz1, h⟩ := ob_ok h
  obtain ⟨z2, hgz2, h⟩ := ob_bd h
  refine vi_w C (w' := [] ++ [(a0, .inr (1, [.null, .int (0 : Int32), .int (0 : Int32), .int (0 : Int32)]))]) rfl ?_
  refine g_cv C (g_runI (As := [.int (16 : Int32)]) (rest := []) (w1 := []) (wc := [(a0, .inr (1, [.null, .int (0 : Int32), .int (0 : Int32), .int (0 : Int32)]))]) C (hm_J5_init_d00df (a0 := a0) (mc := (1)) (ms := (Int32.toNatClampNeg (16 : Int32))) (x1 := (16 : Int32)) (r_n1 := z2.1) (r_g2 := z2.2) C.2.2.2.2.2.2.2.2.1 hgz2) 1 rfl tcJ5_init_d00df tlJ4_1 tiJ5_init_d00df rfl tnJ5 tdJ5_init_d00df ⟨Nat.le_of_ble_eq_true rfl, Nat.le_of_ble_eq_true rfl⟩ hz1 rfl (Nat.le_of_ble_eq_true rfl) dJ4_init_da8c8_3 rfl) rfl (fun q3 => ?_)
  refine vi_w C (w' := [(a0, .inr (1, [.ref (q3 0), .int (0 : Int32), .int (0 : Int32), .int (0 : Int32)])), ((q3 0), .inl (cB, z2.1, .inl (z2.2)))]) rfl ?_
  obtain ⟨kc4, ekc4, h⟩ := ob_nm h
  obtain ⟨ks5, eks5, h⟩ := ob_nm h
  refine vi_kk ekc4.symm eks5.symm ?_
  rw [← ekc4, ← eks5] at hz1
  cases h
  exact RET (fun j => [(q3 0)].getD j 0) _ _ _ _ hz1 dJ4_init_da8c8_6
theorem hm_J4_init_da8c8 {ad adK adV : Nat → Nat} {tS tF : Nat} {tX sK sV : Nat → Nat} (hE : vEok (vE ad adK adV tS tF tX sK sV)) {l : Launch} {D : va_G} {cI cF cC cS cO cB cZ : ClassId} {mc : Nat} {ms : Nat} {a0 : Nat} {r_n1 : Nat} {r_g2 : Nat → Int32} (h : hf_J4_init_da8c8 mc ms = some (r_n1, r_g2)) : vG (vE ad adK adV tS tF tX sK sV) l yJ4_init_da8c8 cJ4_init_da8c8 1 none 2 81 mc ms D (vT7 cI cF cC cS cO cB cZ) [.ref a0] [(a0, .inr (1, [.null, .int (0 : Int32), .int (0 : Int32), .int (0 : Int32)]))] (gQv D (fun q => [(a0, .inr (1, [.ref (q 0), .int (0 : Int32), .int (0 : Int32), .int (0 : Int32)])), ((q 0), .inl (cB, r_n1, .inl (r_g2)))])) :=
  vG_ofF hE (by decide +kernel) (Nat.le_of_ble_eq_true rfl) (fun p e s m args below meth c A C hr hin => hk_J4_init_da8c8_e C hin (fun q kc ks pc lv hk hd => g_retv (WQ := (fun q => [(a0, .inr (1, [.ref (q 0), .int (0 : Int32), .int (0 : Int32), .int (0 : Int32)])), ((q 0), .inl (cB, r_n1, .inl (r_g2)))])) C hr q rfl hk hd) h)
-- ---- J5_init_a7421
def hf_J5_init_a7421_24 (mc : Nat) (ms : Nat) (n2 : Nat) (g2 : Nat → Int32) (x1 : Int32) (kc : Nat) (ks : Nat) : Option (Int32 × Nat × (Nat → Int32)) := (hf_J0_coder_7d493 n2 g2).bind fun z1 => if x1 < 0 ∨ 100000 < (Int32.toNatClampNeg x1) then none else if kc + 1 ≤ mc ∧ ks + (Int32.toNatClampNeg x1) ≤ ms then bd ((Int32.toNatClampNeg x1)) fun n5 => bd (kc + 1) fun kc7 => bd (ks + n5) fun ks8 => if kc7 + (gc1 ((0 : Int32) + Int32.ofNat n2) n5) ≤ mc ∧ ks8 + (gc2 ((0 : Int32) + Int32.ofNat n2) n5) ≤ ms then (hf_J4_append_cf1ce (gc1 ((0 : Int32) + Int32.ofNat n2) n5) (gc2 ((0 : Int32) + Int32.ofNat n2) n5) n2 g2 (0 : Int32) n5 (fun _ => 0)).bind fun z10 => bd (kc7 + (gc1 ((0 : Int32) + Int32.ofNat n2) n5)) fun kc12 => bd (ks8 + (gc2 ((0 : Int32) + Int32.ofNat n2) n5)) fun ks13 => some (z10.1, z10.2.1, z10.2.2) else none else none
set_option maxRecDepth 100000 in
set_option maxHeartbeats 4000000 in
theorem hk_J5_init_a7421_24 {ad adK adV : Nat → Nat} {tS tF : Nat} {tX sK sV : Nat → Nat} {p : Program} {l : Launch} {e : Env} {s : State} {m : MethodId} {args : Array Value} {below : List Frame} {meth : Method} {c : Code} {A : Nat → Prop} {D : va_G} {cI cF cC cS cO cB cZ : ClassId} {Q : State → Prop} {mc : Nat} {ms : Nat} {n2 : Nat} {g2 : Nat → Int32} {a0 : Nat} {a1 : Nat} {a2 : Nat} (C : vC (vE ad adK adV tS tF tX sK sV) p l s m args meth c A D (vT7 cI cF cC cS cO cB cZ) cJ5_init_a7421 5 RJ5) (hin : meth.name = "<init>") {r_o1 : Int32} {r_n2 : Nat} {r_g3 : Nat → Int32} (RET : ∀ (q : Nat → Nat) (kc ks : Nat) (pc : Nat) (lv : List (Nat × Value)), (kc ≤ mc ∧ ks ≤ ms) → decode cJ5_init_a7421 pc = .ok (.return_, 1) → vV p l e { frames := 7, cells := mc, slots := ms, locals := 169 } s m args below meth c A D 5 kc ks Q [(a0, .inr (1, [.ref (q 0), .int (0 : Int32), .int (0 : Int32), .int r_o1])), ((q 0), .inl (cB, r_n2, .inl (r_g3))), (a1, .inr (0, [.ref a2, .int (0 : Int32), .int (0 : Int32), .int (0 : Int32)])), (a2, .inl (cB, n2, .inl (g2)))] pc lv []) : ∀ (x1 : Int32) (kc : Nat) (ks : Nat), (kc ≤ mc ∧ ks ≤ ms) → hf_J5_init_a7421_24 mc ms n2 g2 x1 kc ks = some (r_o1, r_n2, r_g3) → vV p l e { frames := 7, cells := mc, slots := ms, locals := 169 } s m args below meth c A D 5 kc ks Q [(a0, .inr (1, [.null, .int (0 : Int32), .int (0 : Int32), .int (0 : Int32)])), (a1, .inr (0, [.ref a2, .int (0 : Int32), .int (0 : Int32), .int (0 : Int32)])), (a2, .inl (cB, n2, .inl (g2)))] 24 [(0, .ref a0), (1, .ref a1)] [.int x1] := by
  intro x1 kc ks hkc h
  rw [hf_J5_init_a7421_24] at h
  refine vi_istore_n (lv' := [(3, .int x1), (0, .ref a0), (1, .ref a1)]) C dJ5_init_a7421_24 rfl (by decide) rfl ?_
  refine vi_aload_n C 2 dJ5_init_a7421_25 rfl ?_
  obtain ⟨z1, hgz1, h⟩ := ob_bd h
  refine vi_w C (w' := [(a0, .inr (1, [.null, .int (0 : Int32), .int (0 : Int32), .int (0 : Int32)]))] ++ [(a1, .inr (0, [.ref a2, .int (0 : Int32), .int (0 : Int32), .int (0 : Int32)])), (a2, .inl (cB, n2, .inl (g2)))]) rfl ?_
  refine g_ci C (g_runV (T := TJ0) (N := 4) (ci := 0) (fs := [.ref a2, .int (0 : Int32), .int (0 : Int32), .int (0 : Int32)]) (As := []) (rest := []) (w1 := [(a0, .inr (1, [.null, .int (0 : Int32), .int (0 : Int32), .int (0 : Int32)]))]) (wc := [(a1, .inr (0, [.ref a2, .int (0 : Int32), .int (0 : Int32), .int (0 : Int32)])), (a2, .inl (cB, n2, .inl (g2)))]) C (hm_J0_coder_7d493 (a0 := a1) (a1 := a2) (n1 := n2) (g1 := g2)  C.2.2.2.2.2.2.2.2.1 hgz1) 0 rfl tcJ0_coder_7d493 tlJ5_40 tiJ0_coder_7d493 tsJ0_coder_7d493 tnJ0 tdJ0_coder_7d493 ⟨Nat.le_of_ble_eq_true rfl, Nat.le_of_ble_eq_true rfl⟩ hkc 1 rfl rfl rfl (Nat.le_of_ble_eq_true rfl) dJ5_init_a7421_26 rfl) rfl (fun q2 => ?_)
  refine vi_w C (w' := [(a0, .inr (1, [.null, .int (0 : Int32), .int (0 : Int32), .int (0 : Int32)])), (a1, .inr (0, [.ref a2, .int (0 : Int32), .int (0 : Int32), .int (0 : Int32)])), (a2, .inl (cB, n2, .inl (g2)))]) rfl ?_
  refine vi_kk (kc1 := kc) (ks1 := ks) rfl rfl ?_
  refine vi_istore (lv' := [(4, .int (0 : Int32)), (3, .int x1), (0, .ref a0), (1, .ref a1)]) C dJ5_init_a7421_29 (by decide) rfl ?_
  refine vi_aload_n C 2 dJ5_init_a7421_31 rfl ?_
  refine vi_iload C 0 dJ5_init_a7421_32 rfl ?_
  refine vi_put (ref := "java/lang/AbstractStringBuilder") (ty := tyJ4 1) (w' := [(a0, .inr (1, [.null, .int (0 : Int32), .int (0 : Int32), .int (0 : Int32)])), (a1, .inr (0, [.ref a2, .int (0 : Int32), .int (0 : Int32), .int (0 : Int32)])), (a2, .inl (cB, n2, .inl (g2)))]) C 0 1 inJ4w tyJ4 tyJ4_ok nmJ4 rfl rfl (by decide) tfJ5_22 rfl rfl (tyJ4_ok 1 (by decide)) rfl rfl (by show 1 < 4; decide) rfl dJ5_init_a7421_34 ?_
  refine vi_aload_n C 2 dJ5_init_a7421_37 rfl ?_
  refine vi_iload C 0 dJ5_init_a7421_38 rfl ?_
  refine vi_if_ne (tgt := 49) C dJ5_init_a7421_40 (by decide) (fun hc => absurd (by decide) hc) (fun _ => ?_)
  refine vi_iload_n C 1 dJ5_init_a7421_43 rfl ?_
  obtain ⟨hz3, h⟩ := ob_if h
  obtain ⟨hz4, h⟩ := ob_ok h
  obtain ⟨n5, en5, h⟩ := ob_nm h
  rw [← en5] at hz4
  refine vi_newa (atype := .byte) (ty := .byte) (cA := cB) (N := n5) (a0 := (n5, .inl (fun _ => 0))) C 5 tac_byte rfl rfl (fun _ => rfl) (fun z => hz3 (Or.inl z)) en5.symm (by rw [en5]; exact (gle8 hz3)) hz4.1 hz4.2 dJ5_init_a7421_44 (fun a6 => ?_)
  refine vi_w C (w' := [(a0, .inr (1, [.null, .int (0 : Int32), .int (0 : Int32), .int (0 : Int32)])), (a1, .inr (0, [.ref a2, .int (0 : Int32), .int (0 : Int32), .int (0 : Int32)])), (a2, .inl (cB, n2, .inl (g2))), (a6, .inl (cB, n5, .inl (fun _ => 0)))]) rfl ?_
  obtain ⟨kc7, ekc7, h⟩ := ob_nm h
  obtain ⟨ks8, eks8, h⟩ := ob_nm h
  refine vi_kk ekc7.symm eks8.symm ?_
  rw [← ekc7, ← eks8] at hz4
  refine vi_goto (tgt := 53) C dJ5_init_a7421_46 (by decide) ?_
  refine vi_put (ref := "java/lang/AbstractStringBuilder") (ty := tyJ4 0) (w' := [(a0, .inr (1, [.ref a6, .int (0 : Int32), .int (0 : Int32), .int (0 : Int32)])), (a1, .inr (0, [.ref a2, .int (0 : Int32), .int (0 : Int32), .int (0 : Int32)])), (a2, .inl (cB, n2, .inl (g2))), (a6, .inl (cB, n5, .inl (fun _ => 0)))]) C 0 0 inJ4w tyJ4 tyJ4_ok nmJ4 rfl rfl (by decide) tfJ5_15 rfl rfl (tyJ4_ok 0 (by decide)) rfl rfl (by show 0 < 4; decide) rfl dJ5_init_a7421_53 ?_
  refine vi_aload_n C 2 dJ5_init_a7421_56 rfl ?_
  refine vi_aload_n C 3 dJ5_init_a7421_57 rfl ?_
  obtain ⟨hz9, h⟩ := ob_ok h
  obtain ⟨z10, hgz10, h⟩ := ob_bd h
  refine vi_pick (w' := [(a0, .inr (1, [.ref a6, .int (0 : Int32), .int (0 : Int32), .int (0 : Int32)])), (a6, .inl (cB, n5, .inl (fun _ => 0))), (a1, .inr (0, [.ref a2, .int (0 : Int32), .int (0 : Int32), .int (0 : Int32)])), (a2, .inl (cB, n2, .inl (g2)))]) [0, 3, 1, 2] (by decide) rfl ?_
  refine vi_w C (w' := [] ++ [(a0, .inr (1, [.ref a6, .int (0 : Int32), .int (0 : Int32), .int (0 : Int32)])), (a6, .inl (cB, n5, .inl (fun _ => 0))), (a1, .inr (0, [.ref a2, .int (0 : Int32), .int (0 : Int32), .int (0 : Int32)])), (a2, .inl (cB, n2, .inl (g2)))]) rfl ?_
  refine g_cr C (g_runU (x := yJ5_append_cf1ce) (owner := RJ5) (Cn := RJ4) (T := TJ4) (N := 4) (ci := 1) (fs := [.ref a6, .int (0 : Int32), .int (0 : Int32), .int (0 : Int32)]) (As := [.ref a1]) (rest := []) (w1 := []) (wc := [(a0, .inr (1, [.ref a6, .int (0 : Int32), .int (0 : Int32), .int (0 : Int32)])), (a6, .inl (cB, n5, .inl (fun _ => 0))), (a1, .inr (0, [.ref a2, .int (0 : Int32), .int (0 : Int32), .int (0 : Int32)])), (a2, .inl (cB, n2, .inl (g2)))]) C (hm_J4_append_cf1ce (a0 := a0) (a1 := a6) (a2 := a1) (a3 := a2) (mc := (gc1 ((0 : Int32) + Int32.ofNat n2) n5)) (ms := (gc2 ((0 : Int32) + Int32.ofNat n2) n5)) (n3 := n2) (g3 := g2) (f0_3 := (0 : Int32)) (n1 := n5) (g1 := (fun _ => 0)) (r_o1 := z10.1) (r_n2 := z10.2.1) (r_g3 := z10.2.2) C.2.2.2.2.2.2.2.2.1 hgz10) 1 rfl tcJ4_append_cf1ce tlJ5_43 tiJ4_append_cf1ce tsmJ5_append_cf1ce (va_Decl.of (C.2.2.2.2.1 _ tiJ5_append_cf1ce) (C.2.2.2.2.1 _ tcJ5_append_cf1ce)) (C.2.2.2.2.1 _ tslJ5_append_cf1ce) tnJ4 (by decide) tdJ5_append_cf1ce.2.2 ⟨Nat.le_of_ble_eq_true rfl, Nat.le_of_ble_eq_true rfl⟩ hz9 0 rfl rfl rfl (Nat.le_of_ble_eq_true rfl) dJ5_init_a7421_58 rfl) rfl (fun q11 => ?_)
  refine vi_w C (w' := [(a0, .inr (1, [.ref (q11 0), .int (0 : Int32), .int (0 : Int32), .int (z10.1)])), ((q11 0), .inl (cB, z10.2.1, .inl (z10.2.2))), (a1, .inr (0, [.ref a2, .int (0 : Int32), .int (0 : Int32), .int (0 : Int32)])), (a2, .inl (cB, n2, .inl (g2)))]) rfl ?_
  obtain ⟨kc12, ekc12, h⟩ := ob_nm h
  obtain ⟨ks13, eks13, h⟩ := ob_nm h
  refine vi_kk ekc12.symm eks13.symm ?_
  rw [← ekc12, ← eks13] at hz9
  refine vi_pop C dJ5_init_a7421_61 rfl ?_
  cases h
  exact RET (fun j => [(q11 0)].getD j 0) _ _ _ _ hz9 dJ5_init_a7421_62
def hf_J5_init_a7421 (mc : Nat) (ms : Nat) (n2 : Nat) (g2 : Nat → Int32) : Option (Int32 × Nat × (Nat → Int32)) := (hf_J0_length_8abf5 n2 g2).bind fun z1 => (if (2147483631 : Int32) ≤ z1 then hf_J5_init_a7421_24 mc ms n2 g2 (2147483647 : Int32) (0) (0) else hf_J5_init_a7421_24 mc ms n2 g2 (z1 + (16 : Int32)) (0) (0))
set_option maxRecDepth 100000 in
set_option maxHeartbeats 4000000 in
theorem hk_J5_init_a7421_e {ad adK adV : Nat → Nat} {tS tF : Nat} {tX sK sV : Nat → Nat} {p : Program} {l : Launch} {e : Env} {s : State} {m : MethodId} {args : Array Value} {below : List Frame} {meth : Method} {c : Code} {A : Nat → Prop} {D : va_G} {cI cF cC cS cO cB cZ : ClassId} {Q : State → Prop} {mc : Nat} {ms : Nat} {n2 : Nat} {g2 : Nat → Int32} {a0 : Nat} {a1 : Nat} {a2 : Nat} (C : vC (vE ad adK adV tS tF tX sK sV) p l s m args meth c A D (vT7 cI cF cC cS cO cB cZ) cJ5_init_a7421 5 RJ5) (hin : meth.name = "<init>") {r_o1 : Int32} {r_n2 : Nat} {r_g3 : Nat → Int32} (RET : ∀ (q : Nat → Nat) (kc ks : Nat) (pc : Nat) (lv : List (Nat × Value)), (kc ≤ mc ∧ ks ≤ ms) → decode cJ5_init_a7421 pc = .ok (.return_, 1) → vV p l e { frames := 7, cells := mc, slots := ms, locals := 169 } s m args below meth c A D 5 kc ks Q [(a0, .inr (1, [.ref (q 0), .int (0 : Int32), .int (0 : Int32), .int r_o1])), ((q 0), .inl (cB, r_n2, .inl (r_g3))), (a1, .inr (0, [.ref a2, .int (0 : Int32), .int (0 : Int32), .int (0 : Int32)])), (a2, .inl (cB, n2, .inl (g2)))] pc lv []) (h : hf_J5_init_a7421 mc ms n2 g2 = some (r_o1, r_n2, r_g3)) : vV p l e { frames := 7, cells := mc, slots := ms, locals := 169 } s m args below meth c A D 5 (0) (0) Q [(a0, .inr (1, [.null, .int (0 : Int32), .int (0 : Int32), .int (0 : Int32)])), (a1, .inr (0, [.ref a2, .int (0 : Int32), .int (0 : Int32), .int (0 : Int32)])), (a2, .inl (cB, n2, .inl (g2)))] 0 [(0, .ref a0), (1, .ref a1)] [] := by
  rw [hf_J5_init_a7421] at h
  refine vi_aload_n C 0 dJ5_init_a7421_0 rfl ?_
  refine vi_objInit C tlJ5_3 ti_objinit tc_objinit dJ5_init_a7421_1 (Nat.le_of_ble_eq_true rfl) (Nat.le_of_ble_eq_true rfl) ?_
  refine vi_aload_n C 1 dJ5_init_a7421_4 rfl ?_
  obtain ⟨z1, hgz1, h⟩ := ob_bd h
  refine vi_w C (w' := [(a0, .inr (1, [.null, .int (0 : Int32), .int (0 : Int32), .int (0 : Int32)]))] ++ [(a1, .inr (0, [.ref a2, .int (0 : Int32), .int (0 : Int32), .int (0 : Int32)])), (a2, .inl (cB, n2, .inl (g2)))]) rfl ?_
  refine g_ci C (g_runV (T := TJ0) (N := 4) (ci := 0) (fs := [.ref a2, .int (0 : Int32), .int (0 : Int32), .int (0 : Int32)]) (As := []) (rest := []) (w1 := [(a0, .inr (1, [.null, .int (0 : Int32), .int (0 : Int32), .int (0 : Int32)]))]) (wc := [(a1, .inr (0, [.ref a2, .int (0 : Int32), .int (0 : Int32), .int (0 : Int32)])), (a2, .inl (cB, n2, .inl (g2)))]) C (hm_J0_length_8abf5 (a0 := a1) (a1 := a2) (n1 := n2) (g1 := g2) (r0 := z1) C.2.2.2.2.2.2.2.2.1 hgz1) 0 rfl tcJ0_length_8abf5 tlJ5_32 tiJ0_length_8abf5 tsJ0_length_8abf5 tnJ0 tdJ0_length_8abf5 ⟨Nat.le_of_ble_eq_true rfl, Nat.le_of_ble_eq_true rfl⟩ ⟨Nat.zero_le _, Nat.zero_le _⟩ 1 rfl rfl rfl (Nat.le_of_ble_eq_true rfl) dJ5_init_a7421_5 rfl) rfl (fun q2 => ?_)
  refine vi_w C (w' := [(a0, .inr (1, [.null, .int (0 : Int32), .int (0 : Int32), .int (0 : Int32)])), (a1, .inr (0, [.ref a2, .int (0 : Int32), .int (0 : Int32), .int (0 : Int32)])), (a2, .inl (cB, n2, .inl (g2)))]) rfl ?_
  refine vi_kk (kc1 := (0)) (ks1 := (0)) rfl rfl ?_
  refine vi_istore_n (lv' := [(2, .int z1), (0, .ref a0), (1, .ref a1)]) C dJ5_init_a7421_8 rfl (by decide) rfl ?_
  refine vi_iload_n C 0 dJ5_init_a7421_9 rfl ?_
  refine vi_ldc (v := 2147483631) C dJ5_init_a7421_10 tkJ5_38 ?_
  refine vi_icmp_ge (tgt := 22) C dJ5_init_a7421_12 (by decide) (fun hc3 => ?_) (fun hc3 => ?_)
  · have h := ob_t h hc3
    refine vi_ldc (v := 2147483647) C dJ5_init_a7421_22 tkJ5_39 ?_
    refine vi_sub C [1, 2] rfl ?_
    exact hk_J5_init_a7421_24 C hin RET   _ _ _ ⟨Nat.zero_le _, Nat.zero_le _⟩ h
  · have h := ob_f h hc3
    refine vi_iload_n C 0 dJ5_init_a7421_15 rfl ?_
    refine vi_bipush (v := 16) C dJ5_init_a7421_16 (by decide) ?_
    refine vi_iadd C dJ5_init_a7421_18 ?_
    refine vi_goto (tgt := 24) C dJ5_init_a7421_19 (by decide) ?_
    refine vi_sub C [1, 2] rfl ?_
    exact hk_J5_init_a7421_24 C hin RET   _ _ _ ⟨Nat.zero_le _, Nat.zero_le _⟩ h
theorem hm_J5_init_a7421 {ad adK adV : Nat → Nat} {tS tF : Nat} {tX sK sV : Nat → Nat} (hE : vEok (vE ad adK adV tS tF tX sK sV)) {l : Launch} {D : va_G} {cI cF cC cS cO cB cZ : ClassId} {mc : Nat} {ms : Nat} {n2 : Nat} {g2 : Nat → Int32} {a0 : Nat} {a1 : Nat} {a2 : Nat} {r_o1 : Int32} {r_n2 : Nat} {r_g3 : Nat → Int32} (h : hf_J5_init_a7421 mc ms n2 g2 = some (r_o1, r_n2, r_g3)) : vG (vE ad adK adV tS tF tX sK sV) l yJ5_init_a7421 cJ5_init_a7421 5 none 7 169 mc ms D (vT7 cI cF cC cS cO cB cZ) [.ref a0, .ref a1] [(a0, .inr (1, [.null, .int (0 : Int32), .int (0 : Int32), .int (0 : Int32)])), (a1, .inr (0, [.ref a2, .int (0 : Int32), .int (0 : Int32), .int (0 : Int32)])), (a2, .inl (cB, n2, .inl (g2)))] (gQv D (fun q => [(a0, .inr (1, [.ref (q 0), .int (0 : Int32), .int (0 : Int32), .int r_o1])), ((q 0), .inl (cB, r_n2, .inl (r_g3))), (a1, .inr (0, [.ref a2, .int (0 : Int32), .int (0 : Int32), .int (0 : Int32)])), (a2, .inl (cB, n2, .inl (g2)))])) :=
  vG_ofF hE (by decide +kernel) (Nat.le_of_ble_eq_true rfl) (fun p e s m args below meth c A C hr hin => hk_J5_init_a7421_e C hin (fun q kc ks pc lv hk hd => g_retv (WQ := (fun q => [(a0, .inr (1, [.ref (q 0), .int (0 : Int32), .int (0 : Int32), .int r_o1])), ((q 0), .inl (cB, r_n2, .inl (r_g3))), (a1, .inr (0, [.ref a2, .int (0 : Int32), .int (0 : Int32), .int (0 : Int32)])), (a2, .inl (cB, n2, .inl (g2)))])) C hr q rfl hk hd) h)
-- ---- J4_init_a7421
def hf_J4_init_a7421 (mc : Nat) (ms : Nat) (n2 : Nat) (g2 : Nat → Int32) : Option (Int32 × Nat × (Nat → Int32)) := if 0 + (1) ≤ mc ∧ 0 + (n2 + 16) ≤ ms then (hf_J5_init_a7421 (1) (n2 + 16) n2 g2).bind fun z2 => bd (0 + (1)) fun kc4 => bd (0 + (n2 + 16)) fun ks5 => some (z2.1, z2.2.1, z2.2.2) else none
set_option maxRecDepth 100000 in
set_option maxHeartbeats 4000000 in
theorem hk_J4_init_a7421_e {ad adK adV : Nat → Nat} {tS tF : Nat} {tX sK sV : Nat → Nat} {p : Program} {l : Launch} {e : Env} {s : State} {m : MethodId} {args : Array Value} {below : List Frame} {meth : Method} {c : Code} {A : Nat → Prop} {D : va_G} {cI cF cC cS cO cB cZ : ClassId} {Q : State → Prop} {mc : Nat} {ms : Nat} {n2 : Nat} {g2 : Nat → Int32} {a0 : Nat} {a1 : Nat} {a2 : Nat} (C : vC (vE ad adK adV tS tF tX sK sV) p l s m args meth c A D (vT7 cI cF cC cS cO cB cZ) cJ4_init_a7421 2 RJ4) (hin : meth.name = "<init>") {r_o1 : Int32} {r_n2 : Nat} {r_g3 : Nat → Int32} (RET : ∀ (q : Nat → Nat) (kc ks : Nat) (pc : Nat) (lv : List (Nat × Value)), (kc ≤ mc ∧ ks ≤ ms) → decode cJ4_init_a7421 pc = .ok (.return_, 1) → vV p l e { frames := 8, cells := mc, slots := ms, locals := 193 } s m args below meth c A D 2 kc ks Q [(a0, .inr (1, [.ref (q 0), .int (0 : Int32), .int (0 : Int32), .int r_o1])), ((q 0), .inl (cB, r_n2, .inl (r_g3))), (a1, .inr (0, [.ref a2, .int (0 : Int32), .int (0 : Int32), .int (0 : Int32)])), (a2, .inl (cB, n2, .inl (g2)))] pc lv []) (h : hf_J4_init_a7421 mc ms n2 g2 = some (r_o1, r_n2, r_g3)) : vV p l e { frames := 8, cells := mc, slots := ms, locals := 193 } s m args below meth c A D 2 (0) (0) Q [(a0, .inr (1, [.null, .int (0 : Int32), .int (0 : Int32), .int (0 : Int32)])), (a1, .inr (0, [.ref a2, .int (0 : Int32), .int (0 : Int32), .int (0 : Int32)])), (a2, .inl (cB, n2, .inl (g2)))] 0 [(0, .ref a0), (1, .ref a1)] [] := by
  rw [hf_J4_init_a7421] at h
  refine vi_aload_n C 0 dJ4_init_a7421_0 rfl ?_
  refine vi_aload_n C 1 dJ4_init_a7421_1 rfl ?_
  obtain ⟨hz1, h⟩ := ob_ok h
  obtain ⟨z2, hgz2, h⟩ := ob_bd h
  refine vi_w C (w' := [] ++ [(a0, .inr (1, [.null, .int (0 : Int32), .int (0 : Int32), .int (0 : Int32)])), (a1, .inr (0, [.ref a2, .int (0 : Int32), .int (0 : Int32), .int (0 : Int32)])), (a2, .inl (cB, n2, .inl (g2)))]) rfl ?_
  refine g_cv C (g_runI (As := [.ref a1]) (rest := []) (w1 := []) (wc := [(a0, .inr (1, [.null, .int (0 : Int32), .int (0 : Int32), .int (0 : Int32)])), (a1, .inr (0, [.ref a2, .int (0 : Int32), .int (0 : Int32), .int (0 : Int32)])), (a2, .inl (cB, n2, .inl (g2)))]) C (hm_J5_init_a7421 (a0 := a0) (a1 := a1) (a2 := a2) (mc := (1)) (ms := (n2 + 16)) (n2 := n2) (g2 := g2) (r_o1 := z2.1) (r_n2 := z2.2.1) (r_g3 := z2.2.2) C.2.2.2.2.2.2.2.2.1 hgz2) 1 rfl tcJ5_init_a7421 tlJ4_7 tiJ5_init_a7421 rfl tnJ5 tdJ5_init_a7421 ⟨Nat.le_of_ble_eq_true rfl, Nat.le_of_ble_eq_true rfl⟩ hz1 rfl (Nat.le_of_ble_eq_true rfl) dJ4_init_a7421_2 rfl) rfl (fun q3 => ?_)
  refine vi_w C (w' := [(a0, .inr (1, [.ref (q3 0), .int (0 : Int32), .int (0 : Int32), .int (z2.1)])), ((q3 0), .inl (cB, z2.2.1, .inl (z2.2.2))), (a1, .inr (0, [.ref a2, .int (0 : Int32), .int (0 : Int32), .int (0 : Int32)])), (a2, .inl (cB, n2, .inl (g2)))]) rfl ?_
  obtain ⟨kc4, ekc4, h⟩ := ob_nm h
  obtain ⟨ks5, eks5, h⟩ := ob_nm h
  refine vi_kk ekc4.symm eks5.symm ?_
  rw [← ekc4, ← eks5] at hz1
  cases h
  exact RET (fun j => [(q3 0)].getD j 0) _ _ _ _ hz1 dJ4_init_a7421_5
theorem hm_J4_init_a7421 {ad adK adV : Nat → Nat} {tS tF : Nat} {tX sK sV : Nat → Nat} (hE : vEok (vE ad adK adV tS tF tX sK sV)) {l : Launch} {D : va_G} {cI cF cC cS cO cB cZ : ClassId} {mc : Nat} {ms : Nat} {n2 : Nat} {g2 : Nat → Int32} {a0 : Nat} {a1 : Nat} {a2 : Nat} {r_o1 : Int32} {r_n2 : Nat} {r_g3 : Nat → Int32} (h : hf_J4_init_a7421 mc ms n2 g2 = some (r_o1, r_n2, r_g3)) : vG (vE ad adK adV tS tF tX sK sV) l yJ4_init_a7421 cJ4_init_a7421 2 none 8 193 mc ms D (vT7 cI cF cC cS cO cB cZ) [.ref a0, .ref a1] [(a0, .inr (1, [.null, .int (0 : Int32), .int (0 : Int32), .int (0 : Int32)])), (a1, .inr (0, [.ref a2, .int (0 : Int32), .int (0 : Int32), .int (0 : Int32)])), (a2, .inl (cB, n2, .inl (g2)))] (gQv D (fun q => [(a0, .inr (1, [.ref (q 0), .int (0 : Int32), .int (0 : Int32), .int r_o1])), ((q 0), .inl (cB, r_n2, .inl (r_g3))), (a1, .inr (0, [.ref a2, .int (0 : Int32), .int (0 : Int32), .int (0 : Int32)])), (a2, .inl (cB, n2, .inl (g2)))])) :=
  vG_ofF hE (by decide +kernel) (Nat.le_of_ble_eq_true rfl) (fun p e s m args below meth c A C hr hin => hk_J4_init_a7421_e C hin (fun q kc ks pc lv hk hd => g_retv (WQ := (fun q => [(a0, .inr (1, [.ref (q 0), .int (0 : Int32), .int (0 : Int32), .int r_o1])), ((q 0), .inl (cB, r_n2, .inl (r_g3))), (a1, .inr (0, [.ref a2, .int (0 : Int32), .int (0 : Int32), .int (0 : Int32)])), (a2, .inl (cB, n2, .inl (g2)))])) C hr q rfl hk hd) h)
