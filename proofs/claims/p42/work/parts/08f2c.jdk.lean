-- ---- J0_length_8abf5
def hf_J0_length_8abf5 (n1 : Nat) (g1 : Nat → Int32) : Option (Int32) := (hf_J0_coder_7d493 n1 g1).bind fun z1 => some ((Int32.ofNat n1) >>> ((0 : Int32) &&& 31))
set_option maxRecDepth 100000 in
set_option maxHeartbeats 4000000 in
theorem hk_J0_length_8abf5_e {ad adK adV : Nat → Nat} {tS tF : Nat} {tX sK sV : Nat → Nat} {p : Program} {l : Launch} {e : Env} {s : State} {m : MethodId} {args : Array Value} {below : List Frame} {meth : Method} {c : Code} {A : Nat → Prop} {D : va_G} {cI cF cC cS cO cB cZ : ClassId} {Q : State → Prop} {n1 : Nat} {g1 : Nat → Int32} {a0 : Nat} {a1 : Nat} (C : vC (vE ad adK adV tS tF tX sK sV) p l s m args meth c A D (vT7 cI cF cC cS cO cB cZ) cJ0_length_8abf5 1 RJ0) {r0 : Int32} (RET : ∀ (q : Nat → Nat) (kc ks : Nat) (pc : Nat) (lv : List (Nat × Value)), True → decode cJ0_length_8abf5 pc = .ok (.ireturn, 1) → vV p l e { frames := 1, cells := 0, slots := 0, locals := 20 } s m args below meth c A D 1 0 0 Q [(a0, .inr (0, [.ref a1, .int (0 : Int32), .int (0 : Int32), .int (0 : Int32)])), (a1, .inl (cB, n1, .inl (g1)))] pc lv [.int r0]) (h : hf_J0_length_8abf5 n1 g1 = some (r0)) : vV p l e { frames := 1, cells := 0, slots := 0, locals := 20 } s m args below meth c A D 1 0 0 Q [(a0, .inr (0, [.ref a1, .int (0 : Int32), .int (0 : Int32), .int (0 : Int32)])), (a1, .inl (cB, n1, .inl (g1)))] 0 [(0, .ref a0)] [] := by
  rw [hf_J0_length_8abf5] at h
  refine vi_aload_n C 0 dJ0_length_8abf5_0 rfl ?_
  refine vi_get (ref := "java/lang/String") (v := .ref a1) C 0 0 inJ0w rfl rfl (by decide) tfJ0_9 rfl rfl dJ0_length_8abf5_1 ?_
  refine vi_alen (v := Int32.ofNat n1) C 1 5 rfl rfl rfl dJ0_length_8abf5_4 ?_
  refine vi_aload_n C 0 dJ0_length_8abf5_5 rfl ?_
  obtain ⟨z1, hgz1, h⟩ := ob_bd h
  refine vi_w C (w' := [] ++ [(a0, .inr (0, [.ref a1, .int (0 : Int32), .int (0 : Int32), .int (0 : Int32)])), (a1, .inl (cB, n1, .inl (g1)))]) rfl ?_
  refine g_ci C (g_runV (T := TJ0) (N := 4) (ci := 0) (fs := [.ref a1, .int (0 : Int32), .int (0 : Int32), .int (0 : Int32)]) (As := []) (rest := [.int (Int32.ofNat n1)]) (w1 := []) (wc := [(a0, .inr (0, [.ref a1, .int (0 : Int32), .int (0 : Int32), .int (0 : Int32)])), (a1, .inl (cB, n1, .inl (g1)))]) C (hm_J0_coder_7d493 (a0 := a0) (a1 := a1) (n1 := n1) (g1 := g1)  C.2.2.2.2.2.2.2.2.1 hgz1) 0 rfl tcJ0_coder_7d493 tlJ0_335 tiJ0_coder_7d493 tsJ0_coder_7d493 tnJ0 tdJ0_coder_7d493 ⟨Nat.le_of_ble_eq_true rfl, Nat.le_of_ble_eq_true rfl⟩ ⟨Nat.le_refl 0, Nat.le_refl 0⟩ 0 rfl rfl rfl (Nat.le_of_ble_eq_true rfl) dJ0_length_8abf5_6 rfl) rfl (fun q2 => ?_)
  refine vi_w C (w' := [(a0, .inr (0, [.ref a1, .int (0 : Int32), .int (0 : Int32), .int (0 : Int32)])), (a1, .inl (cB, n1, .inl (g1)))]) rfl ?_
  refine vi_kk (kc1 := 0) (ks1 := 0) rfl rfl ?_
  refine vi_ishr C dJ0_length_8abf5_9 ?_
  cases h
  exact RET (fun j => [].getD j 0) 0 0 _ _ trivial dJ0_length_8abf5_10
theorem hm_J0_length_8abf5 {ad adK adV : Nat → Nat} {tS tF : Nat} {tX sK sV : Nat → Nat} (hE : vEok (vE ad adK adV tS tF tX sK sV)) {l : Launch} {D : va_G} {cI cF cC cS cO cB cZ : ClassId} {n1 : Nat} {g1 : Nat → Int32} {a0 : Nat} {a1 : Nat} {r0 : Int32} (h : hf_J0_length_8abf5 n1 g1 = some (r0)) : vG (vE ad adK adV tS tF tX sK sV) l yJ0_length_8abf5 cJ0_length_8abf5 1 (some .int) 1 20 0 0 D (vT7 cI cF cC cS cO cB cZ) [.ref a0] [(a0, .inr (0, [.ref a1, .int (0 : Int32), .int (0 : Int32), .int (0 : Int32)])), (a1, .inl (cB, n1, .inl (g1)))] (gQi D (fun q => [(a0, .inr (0, [.ref a1, .int (0 : Int32), .int (0 : Int32), .int (0 : Int32)])), (a1, .inl (cB, n1, .inl (g1)))]) r0) :=
  vG_ofF hE (by decide +kernel) (Nat.le_of_ble_eq_true rfl) (fun p e s m args below meth c A C hr hin => hk_J0_length_8abf5_e C (fun q kc ks pc lv hk hd => g_reti (WQ := (fun q => [(a0, .inr (0, [.ref a1, .int (0 : Int32), .int (0 : Int32), .int (0 : Int32)])), (a1, .inl (cB, n1, .inl (g1)))])) C hr rfl q rfl ⟨Nat.le_refl 0, Nat.le_refl 0⟩ hd) h)
-- ---- J0_length_8abf5_K
def hf_J0_length_8abf5_K (ki : Nat) : Option (Int32) := if ki < 3 then if ki < 3 then (hf_J0_coder_7d493_K ki).bind fun z3 => if ki < 3 then some ((Int32.ofNat (vLlen.getD ki 0)) >>> ((0 : Int32) &&& 31)) else none else none else none
set_option maxRecDepth 100000 in
set_option maxHeartbeats 4000000 in
theorem hk_J0_length_8abf5_K_e {ad adK adV : Nat → Nat} {tS tF : Nat} {tX sK sV : Nat → Nat} {p : Program} {l : Launch} {e : Env} {s : State} {m : MethodId} {args : Array Value} {below : List Frame} {meth : Method} {c : Code} {A : Nat → Prop} {D : va_G} {cI cF cC cS cO cB cZ : ClassId} {Q : State → Prop} {ki : Nat} (C : vC (vE ad adK adV tS tF tX sK sV) p l s m args meth c A D (vT7 cI cF cC cS cO cB cZ) cJ0_length_8abf5 1 RJ0) {r0 : Int32} (RET : ∀ (q : Nat → Nat) (kc ks : Nat) (pc : Nat) (lv : List (Nat × Value)), True → decode cJ0_length_8abf5 pc = .ok (.ireturn, 1) → vV p l e { frames := 1, cells := 0, slots := 0, locals := 20 } s m args below meth c A D 1 0 0 Q [] pc lv [.int r0]) (h : hf_J0_length_8abf5_K ki = some (r0)) : vV p l e { frames := 1, cells := 0, slots := 0, locals := 20 } s m args below meth c A D 1 0 0 Q [] 0 [(0, .ref (sK ki))] [] := by
  rw [hf_J0_length_8abf5_K] at h
  refine vi_aload_n C 0 dJ0_length_8abf5_0 rfl ?_
  obtain ⟨hz1, h⟩ := ob_ok h
  refine vi_getValueS C hz1 tfJ0_9 dJ0_length_8abf5_1 ?_
  obtain ⟨hz2, h⟩ := ob_ok h
  refine vi_lenS C hz2 dJ0_length_8abf5_4 ?_
  refine vi_aload_n C 0 dJ0_length_8abf5_5 rfl ?_
  obtain ⟨z3, hgz3, h⟩ := ob_bd h
  refine vi_w C (w' := [] ++ []) rfl ?_
  obtain ⟨hz4, h⟩ := ob_ok h
  refine g_ci C (g_runK (As := []) (rest := [.int (Int32.ofNat (vLlen.getD ki 0))]) (w1 := []) (wc := []) C (hm_J0_coder_7d493_K  (ki := ki)  C.2.2.2.2.2.2.2.2.1 hgz3) 0 rfl tcJ0_coder_7d493 tlJ0_335 tiJ0_coder_7d493 tsJ0_coder_7d493 tnJ0 tdJ0_coder_7d493 ⟨Nat.le_of_ble_eq_true rfl, Nat.le_of_ble_eq_true rfl⟩ ⟨Nat.le_refl 0, Nat.le_refl 0⟩ (fun H locs hS => vE_recvS C hz4 hS) rfl (Nat.le_of_ble_eq_true rfl) dJ0_length_8abf5_6 rfl) rfl (fun q5 => ?_)
  refine vi_w C (w' := []) rfl ?_
  refine vi_kk (kc1 := 0) (ks1 := 0) rfl rfl ?_
  refine vi_ishr C dJ0_length_8abf5_9 ?_
  cases h
  exact RET (fun j => [].getD j 0) 0 0 _ _ trivial dJ0_length_8abf5_10
theorem hm_J0_length_8abf5_K {ad adK adV : Nat → Nat} {tS tF : Nat} {tX sK sV : Nat → Nat} (hE : vEok (vE ad adK adV tS tF tX sK sV)) {l : Launch} {D : va_G} {cI cF cC cS cO cB cZ : ClassId} {ki : Nat} {r0 : Int32} (h : hf_J0_length_8abf5_K ki = some (r0)) : vG (vE ad adK adV tS tF tX sK sV) l yJ0_length_8abf5 cJ0_length_8abf5 1 (some .int) 1 20 0 0 D (vT7 cI cF cC cS cO cB cZ) [.ref (sK ki)] [] (gQi D (fun q => []) r0) :=
  vG_ofF hE (by decide +kernel) (Nat.le_of_ble_eq_true rfl) (fun p e s m args below meth c A C hr hin => hk_J0_length_8abf5_K_e C (fun q kc ks pc lv hk hd => g_reti (WQ := (fun q => [])) C hr rfl q rfl ⟨Nat.le_refl 0, Nat.le_refl 0⟩ hd) h)
-- ---- J0_isLatin1_aae02
def hf_J0_isLatin1_aae02 (n1 : Nat) (g1 : Nat → Int32) : Option (Unit) := some ()
set_option maxRecDepth 100000 in
set_option maxHeartbeats 4000000 in
theorem hk_J0_isLatin1_aae02_e {ad adK adV : Nat → Nat} {tS tF : Nat} {tX sK sV : Nat → Nat} {p : Program} {l : Launch} {e : Env} {s : State} {m : MethodId} {args : Array Value} {below : List Frame} {meth : Method} {c : Code} {A : Nat → Prop} {D : va_G} {cI cF cC cS cO cB cZ : ClassId} {Q : State → Prop} {n1 : Nat} {g1 : Nat → Int32} {a0 : Nat} {a1 : Nat} (C : vC (vE ad adK adV tS tF tX sK sV) p l s m args meth c A D (vT7 cI cF cC cS cO cB cZ) cJ0_isLatin1_aae02 1 RJ0) (RET : ∀ (q : Nat → Nat) (kc ks : Nat) (pc : Nat) (lv : List (Nat × Value)), True → decode cJ0_isLatin1_aae02 pc = .ok (.ireturn, 1) → vV p l e { frames := 0, cells := 0, slots := 0, locals := 0 } s m args below meth c A D 1 0 0 Q [(a0, .inr (0, [.ref a1, .int (0 : Int32), .int (0 : Int32), .int (0 : Int32)])), (a1, .inl (cB, n1, .inl (g1)))] pc lv [.int (1 : Int32)]) (h : hf_J0_isLatin1_aae02 n1 g1 = some ()) : vV p l e { frames := 0, cells := 0, slots := 0, locals := 0 } s m args below meth c A D 1 0 0 Q [(a0, .inr (0, [.ref a1, .int (0 : Int32), .int (0 : Int32), .int (0 : Int32)])), (a1, .inl (cB, n1, .inl (g1)))] 0 [(0, .ref a0)] [] := by
  rw [hf_J0_isLatin1_aae02] at h
  refine vi_getCo C tfJ0_38 dJ0_isLatin1_aae02_0 ?_
  refine vi_if_eq (tgt := 17) C dJ0_isLatin1_aae02_3 (by decide) (fun hc => absurd hc (by decide)) (fun _ => ?_)
  refine vi_aload_n C 0 dJ0_isLatin1_aae02_6 rfl ?_
  refine vi_get (ref := "java/lang/String") (v := .int (0 : Int32)) C 0 1 inJ0w rfl rfl (by decide) tfJ0_15 rfl rfl dJ0_isLatin1_aae02_7 ?_
  refine vi_if_ne (tgt := 17) C dJ0_isLatin1_aae02_10 (by decide) (fun hc => absurd (by decide) hc) (fun _ => ?_)
  refine vi_iconst (v := 1) C dJ0_isLatin1_aae02_13 (by decide) ?_
  refine vi_goto (tgt := 18) C dJ0_isLatin1_aae02_14 (by decide) ?_
  cases h
  exact RET (fun j => [].getD j 0) 0 0 _ _ trivial dJ0_isLatin1_aae02_18
theorem hm_J0_isLatin1_aae02 {ad adK adV : Nat → Nat} {tS tF : Nat} {tX sK sV : Nat → Nat} (hE : vEok (vE ad adK adV tS tF tX sK sV)) {l : Launch} {D : va_G} {cI cF cC cS cO cB cZ : ClassId} {n1 : Nat} {g1 : Nat → Int32} {a0 : Nat} {a1 : Nat} (h : hf_J0_isLatin1_aae02 n1 g1 = some ()) : vG (vE ad adK adV tS tF tX sK sV) l yJ0_isLatin1_aae02 cJ0_isLatin1_aae02 1 (some .boolean) 0 0 0 0 D (vT7 cI cF cC cS cO cB cZ) [.ref a0] [(a0, .inr (0, [.ref a1, .int (0 : Int32), .int (0 : Int32), .int (0 : Int32)])), (a1, .inl (cB, n1, .inl (g1)))] (gQi D (fun q => [(a0, .inr (0, [.ref a1, .int (0 : Int32), .int (0 : Int32), .int (0 : Int32)])), (a1, .inl (cB, n1, .inl (g1)))]) (1 : Int32)) :=
  vG_ofF hE (by decide +kernel) (Nat.le_of_ble_eq_true rfl) (fun p e s m args below meth c A C hr hin => hk_J0_isLatin1_aae02_e C (fun q kc ks pc lv hk hd => g_reti (WQ := (fun q => [(a0, .inr (0, [.ref a1, .int (0 : Int32), .int (0 : Int32), .int (0 : Int32)])), (a1, .inl (cB, n1, .inl (g1)))])) C hr rfl q rfl ⟨Nat.le_refl 0, Nat.le_refl 0⟩ hd) h)
-- ---- J0_getBytes_840e7
def hf_J0_getBytes_840e7 (n1 : Nat) (g1 : Nat → Int32) (x2 : Int32) (n2 : Nat) (g2 : Nat → Int32) : Option (Nat × (Nat → Int32)) := (hf_J0_coder_7d493 n1 g1).bind fun z1 => if (¬ (0 : Int32) < 0 ∧ ¬ x2 <<< ((0 : Int32) &&& 31) < 0 ∧ ¬ Int32.ofNat n1 < 0) ∧ Int32.toNatClampNeg (0 : Int32) + Int32.toNatClampNeg (Int32.ofNat n1) ≤ n1 ∧ Int32.toNatClampNeg (x2 <<< ((0 : Int32) &&& 31)) + Int32.toNatClampNeg (Int32.ofNat n1) ≤ n2 ∧ ∀ i : Nat, i < Int32.toNatClampNeg (Int32.ofNat n1) → fits .byte (.int (g1 (Int32.toNatClampNeg (0 : Int32) + i))) = true then bd ((va_cpy g1 g2 (Int32.toNatClampNeg (0 : Int32)) (Int32.toNatClampNeg (x2 <<< ((0 : Int32) &&& 31))) (Int32.toNatClampNeg (Int32.ofNat n1)) : Nat → Int32)) fun g4 => some (n2, g4) else none
set_option maxRecDepth 100000 in
set_option maxHeartbeats 4000000 in
theorem hk_J0_getBytes_840e7_e {ad adK adV : Nat → Nat} {tS tF : Nat} {tX sK sV : Nat → Nat} {p : Program} {l : Launch} {e : Env} {s : State} {m : MethodId} {args : Array Value} {below : List Frame} {meth : Method} {c : Code} {A : Nat → Prop} {D : va_G} {cI cF cC cS cO cB cZ : ClassId} {Q : State → Prop} {n1 : Nat} {g1 : Nat → Int32} {a0 : Nat} {a1 : Nat} {a2 : Nat} (C : vC (vE ad adK adV tS tF tX sK sV) p l s m args meth c A D (vT7 cI cF cC cS cO cB cZ) cJ0_getBytes_840e7 4 RJ0) {r_n1 : Nat} {r_g2 : Nat → Int32} (RET : ∀ (q : Nat → Nat) (kc ks : Nat) (pc : Nat) (lv : List (Nat × Value)), True → decode cJ0_getBytes_840e7 pc = .ok (.return_, 1) → vV p l e { frames := 1, cells := 0, slots := 0, locals := 60 } s m args below meth c A D 4 0 0 Q [(a2, .inl (cB, r_n1, .inl (r_g2))), (a0, .inr (0, [.ref a1, .int (0 : Int32), .int (0 : Int32), .int (0 : Int32)])), (a1, .inl (cB, n1, .inl (g1)))] pc lv []) {x2 : Int32} {n2 : Nat} {g2 : Nat → Int32} (h : hf_J0_getBytes_840e7 n1 g1 x2 n2 g2 = some (r_n1, r_g2)) : vV p l e { frames := 1, cells := 0, slots := 0, locals := 60 } s m args below meth c A D 4 0 0 Q [(a0, .inr (0, [.ref a1, .int (0 : Int32), .int (0 : Int32), .int (0 : Int32)])), (a1, .inl (cB, n1, .inl (g1))), (a2, .inl (cB, n2, .inl (g2)))] 0 [(0, .ref a0), (1, .ref a2), (2, .int x2), (3, .int (0 : Int32))] [] := by
  rw [hf_J0_getBytes_840e7] at h
  refine vi_aload_n C 0 dJ0_getBytes_840e7_0 rfl ?_
  obtain ⟨z1, hgz1, h⟩ := ob_bd h
  refine vi_pick (w' := [(a2, .inl (cB, n2, .inl (g2))), (a0, .inr (0, [.ref a1, .int (0 : Int32), .int (0 : Int32), .int (0 : Int32)])), (a1, .inl (cB, n1, .inl (g1)))]) [2, 0, 1] (by decide) rfl ?_
  refine vi_w C (w' := [(a2, .inl (cB, n2, .inl (g2)))] ++ [(a0, .inr (0, [.ref a1, .int (0 : Int32), .int (0 : Int32), .int (0 : Int32)])), (a1, .inl (cB, n1, .inl (g1)))]) rfl ?_
  refine g_ci C (g_runV (T := TJ0) (N := 4) (ci := 0) (fs := [.ref a1, .int (0 : Int32), .int (0 : Int32), .int (0 : Int32)]) (As := []) (rest := []) (w1 := [(a2, .inl (cB, n2, .inl (g2)))]) (wc := [(a0, .inr (0, [.ref a1, .int (0 : Int32), .int (0 : Int32), .int (0 : Int32)])), (a1, .inl (cB, n1, .inl (g1)))]) C (hm_J0_coder_7d493 (a0 := a0) (a1 := a1) (n1 := n1) (g1 := g1)  C.2.2.2.2.2.2.2.2.1 hgz1) 0 rfl tcJ0_coder_7d493 tlJ0_335 tiJ0_coder_7d493 tsJ0_coder_7d493 tnJ0 tdJ0_coder_7d493 ⟨Nat.le_of_ble_eq_true rfl, Nat.le_of_ble_eq_true rfl⟩ ⟨Nat.le_refl 0, Nat.le_refl 0⟩ 1 rfl rfl rfl (Nat.le_of_ble_eq_true rfl) dJ0_getBytes_840e7_1 rfl) rfl (fun q2 => ?_)
  refine vi_w C (w' := [(a2, .inl (cB, n2, .inl (g2))), (a0, .inr (0, [.ref a1, .int (0 : Int32), .int (0 : Int32), .int (0 : Int32)])), (a1, .inl (cB, n1, .inl (g1)))]) rfl ?_
  refine vi_kk (kc1 := 0) (ks1 := 0) rfl rfl ?_
  refine vi_iload_n C 3 dJ0_getBytes_840e7_4 rfl ?_
  refine vi_icmp_ne (tgt := 28) C dJ0_getBytes_840e7_5 (by decide) (fun hc => absurd (by decide) hc) (fun _ => ?_)
  refine vi_aload_n C 0 dJ0_getBytes_840e7_8 rfl ?_
  refine vi_get (ref := "java/lang/String") (v := .ref a1) C 1 0 inJ0w rfl rfl (by decide) tfJ0_9 rfl rfl dJ0_getBytes_840e7_9 ?_
  refine vi_iconst (v := 0) C dJ0_getBytes_840e7_12 (by decide) ?_
  refine vi_aload_n C 1 dJ0_getBytes_840e7_13 rfl ?_
  refine vi_iload_n C 2 dJ0_getBytes_840e7_14 rfl ?_
  refine vi_iload_n C 3 dJ0_getBytes_840e7_15 rfl ?_
  refine vi_ishl C dJ0_getBytes_840e7_16 ?_
  refine vi_aload_n C 0 dJ0_getBytes_840e7_17 rfl ?_
  refine vi_get (ref := "java/lang/String") (v := .ref a1) C 1 0 inJ0w rfl rfl (by decide) tfJ0_9 rfl rfl dJ0_getBytes_840e7_18 ?_
  refine vi_alen (v := Int32.ofNat n1) C 2 5 rfl rfl rfl dJ0_getBytes_840e7_21 ?_
  obtain ⟨hz3, h⟩ := ob_ok h
  obtain ⟨g4, eg4, h⟩ := ob_nm h
  refine vi_copyB (f := g1) (w2 := [(a2, .inl (cB, n2, .inl (g4))), (a0, .inr (0, [.ref a1, .int (0 : Int32), .int (0 : Int32), .int (0 : Int32)])), (a1, .inl (cB, n1, .inl (g1)))]) C 2 0 5 tlJ0_212 tcpnat tcpstat tcpini rfl rfl rfl hz3 (by rw [eg4]; rfl) (Nat.le_of_ble_eq_true rfl) (Nat.le_of_ble_eq_true rfl) dJ0_getBytes_840e7_22 ?_
  refine vi_goto (tgt := 43) C dJ0_getBytes_840e7_25 (by decide) ?_
  cases h
  exact RET (fun j => [].getD j 0) 0 0 _ _ trivial dJ0_getBytes_840e7_43
theorem hm_J0_getBytes_840e7 {ad adK adV : Nat → Nat} {tS tF : Nat} {tX sK sV : Nat → Nat} (hE : vEok (vE ad adK adV tS tF tX sK sV)) {l : Launch} {D : va_G} {cI cF cC cS cO cB cZ : ClassId} {n1 : Nat} {g1 : Nat → Int32} {a0 : Nat} {a1 : Nat} {a2 : Nat} {r_n1 : Nat} {r_g2 : Nat → Int32} {x2 : Int32} {n2 : Nat} {g2 : Nat → Int32} (h : hf_J0_getBytes_840e7 n1 g1 x2 n2 g2 = some (r_n1, r_g2)) : vG (vE ad adK adV tS tF tX sK sV) l yJ0_getBytes_840e7 cJ0_getBytes_840e7 4 none 1 60 0 0 D (vT7 cI cF cC cS cO cB cZ) [.ref a0, .ref a2, .int x2, .int (0 : Int32)] [(a0, .inr (0, [.ref a1, .int (0 : Int32), .int (0 : Int32), .int (0 : Int32)])), (a1, .inl (cB, n1, .inl (g1))), (a2, .inl (cB, n2, .inl (g2)))] (gQv D (fun q => [(a2, .inl (cB, r_n1, .inl (r_g2))), (a0, .inr (0, [.ref a1, .int (0 : Int32), .int (0 : Int32), .int (0 : Int32)])), (a1, .inl (cB, n1, .inl (g1)))])) :=
  vG_ofF hE (by decide +kernel) (Nat.le_of_ble_eq_true rfl) (fun p e s m args below meth c A C hr hin => hk_J0_getBytes_840e7_e C (fun q kc ks pc lv hk hd => g_retv (WQ := (fun q => [(a2, .inl (cB, r_n1, .inl (r_g2))), (a0, .inr (0, [.ref a1, .int (0 : Int32), .int (0 : Int32), .int (0 : Int32)])), (a1, .inl (cB, n1, .inl (g1)))])) C hr q rfl ⟨Nat.le_refl 0, Nat.le_refl 0⟩ hd) h)
-- ---- J0_getBytes_840e7_K
def hf_J0_getBytes_840e7_K (ki : Nat) (x2 : Int32) (n0 : Nat) (g0 : Nat → Int32) : Option (Nat × (Nat → Int32)) := (hf_J0_coder_7d493_K ki).bind fun z1 => if ki < 3 then if ki < 3 then if ki < 3 then if ki < 3 then if ki < 3 then if (¬ (0 : Int32) < 0 ∧ ¬ x2 <<< ((0 : Int32) &&& 31) < 0 ∧ ¬ Int32.ofNat (vLlen.getD ki 0) < 0) ∧ Int32.toNatClampNeg (0 : Int32) + Int32.toNatClampNeg (Int32.ofNat (vLlen.getD ki 0)) ≤ vLlen.getD ki 0 ∧ Int32.toNatClampNeg (x2 <<< ((0 : Int32) &&& 31)) + Int32.toNatClampNeg (Int32.ofNat (vLlen.getD ki 0)) ≤ n0 ∧ ∀ i : Nat, i < Int32.toNatClampNeg (Int32.ofNat (vLlen.getD ki 0)) → fits .byte (.int ((fun j => (vLbyt.getD ki []).getD j 0) (Int32.toNatClampNeg (0 : Int32) + i))) = true then bd ((va_cpy (fun j => (vLbyt.getD ki []).getD j 0) g0 (Int32.toNatClampNeg (0 : Int32)) (Int32.toNatClampNeg (x2 <<< ((0 : Int32) &&& 31))) (Int32.toNatClampNeg (Int32.ofNat (vLlen.getD ki 0))) : Nat → Int32)) fun g9 => some (n0, g9) else none else none else none else none else none else none
set_option maxRecDepth 100000 in
set_option maxHeartbeats 4000000 in
theorem hk_J0_getBytes_840e7_K_e {ad adK adV : Nat → Nat} {tS tF : Nat} {tX sK sV : Nat → Nat} {p : Program} {l : Launch} {e : Env} {s : State} {m : MethodId} {args : Array Value} {below : List Frame} {meth : Method} {c : Code} {A : Nat → Prop} {D : va_G} {cI cF cC cS cO cB cZ : ClassId} {Q : State → Prop} {ki : Nat} {a0 : Nat} (C : vC (vE ad adK adV tS tF tX sK sV) p l s m args meth c A D (vT7 cI cF cC cS cO cB cZ) cJ0_getBytes_840e7 4 RJ0) {r_n1 : Nat} {r_g2 : Nat → Int32} (RET : ∀ (q : Nat → Nat) (kc ks : Nat) (pc : Nat) (lv : List (Nat × Value)), True → decode cJ0_getBytes_840e7 pc = .ok (.return_, 1) → vV p l e { frames := 1, cells := 0, slots := 0, locals := 60 } s m args below meth c A D 4 0 0 Q [(a0, .inl (cB, r_n1, .inl (r_g2)))] pc lv []) {x2 : Int32} {n0 : Nat} {g0 : Nat → Int32} (h : hf_J0_getBytes_840e7_K ki x2 n0 g0 = some (r_n1, r_g2)) : vV p l e { frames := 1, cells := 0, slots := 0, locals := 60 } s m args below meth c A D 4 0 0 Q [(a0, .inl (cB, n0, .inl (g0)))] 0 [(0, .ref (sK ki)), (1, .ref a0), (2, .int x2), (3, .int (0 : Int32))] [] := by
  rw [hf_J0_getBytes_840e7_K] at h
  refine vi_aload_n C 0 dJ0_getBytes_840e7_0 rfl ?_
  obtain ⟨z1, hgz1, h⟩ := ob_bd h
  refine vi_w C (w' := [(a0, .inl (cB, n0, .inl (g0)))] ++ []) rfl ?_
  obtain ⟨hz2, h⟩ := ob_ok h
  refine g_ci C (g_runK (As := []) (rest := []) (w1 := [(a0, .inl (cB, n0, .inl (g0)))]) (wc := []) C (hm_J0_coder_7d493_K  (ki := ki)  C.2.2.2.2.2.2.2.2.1 hgz1) 0 rfl tcJ0_coder_7d493 tlJ0_335 tiJ0_coder_7d493 tsJ0_coder_7d493 tnJ0 tdJ0_coder_7d493 ⟨Nat.le_of_ble_eq_true rfl, Nat.le_of_ble_eq_true rfl⟩ ⟨Nat.le_refl 0, Nat.le_refl 0⟩ (fun H locs hS => vE_recvS C hz2 hS) rfl (Nat.le_of_ble_eq_true rfl) dJ0_getBytes_840e7_1 rfl) rfl (fun q3 => ?_)
  refine vi_w C (w' := [(a0, .inl (cB, n0, .inl (g0)))]) rfl ?_
  refine vi_kk (kc1 := 0) (ks1 := 0) rfl rfl ?_
  refine vi_iload_n C 3 dJ0_getBytes_840e7_4 rfl ?_
  refine vi_icmp_ne (tgt := 28) C dJ0_getBytes_840e7_5 (by decide) (fun hc => absurd (by decide) hc) (fun _ => ?_)
  refine vi_aload_n C 0 dJ0_getBytes_840e7_8 rfl ?_
  obtain ⟨hz4, h⟩ := ob_ok h
  refine vi_getValueS C hz4 tfJ0_9 dJ0_getBytes_840e7_9 ?_
  refine vi_iconst (v := 0) C dJ0_getBytes_840e7_12 (by decide) ?_
  refine vi_aload_n C 1 dJ0_getBytes_840e7_13 rfl ?_
  refine vi_iload_n C 2 dJ0_getBytes_840e7_14 rfl ?_
  refine vi_iload_n C 3 dJ0_getBytes_840e7_15 rfl ?_
  refine vi_ishl C dJ0_getBytes_840e7_16 ?_
  refine vi_aload_n C 0 dJ0_getBytes_840e7_17 rfl ?_
  obtain ⟨hz5, h⟩ := ob_ok h
  refine vi_getValueS C hz5 tfJ0_9 dJ0_getBytes_840e7_18 ?_
  obtain ⟨hz6, h⟩ := ob_ok h
  refine vi_lenS C hz6 dJ0_getBytes_840e7_21 ?_
  obtain ⟨hz7, h⟩ := ob_ok h
  obtain ⟨hz8, h⟩ := ob_ok h
  obtain ⟨g9, eg9, h⟩ := ob_nm h
  refine vi_copyK (f := (fun j => (vLbyt.getD ki []).getD j 0)) (w2 := [(a0, .inl (cB, n0, .inl (g9)))]) C (vE_tabS C hz7) 0 5 tlJ0_212 tcpnat tcpstat tcpini rfl rfl hz8 (by rw [eg9]; rfl) (Nat.le_of_ble_eq_true rfl) (Nat.le_of_ble_eq_true rfl) dJ0_getBytes_840e7_22 ?_
  refine vi_goto (tgt := 43) C dJ0_getBytes_840e7_25 (by decide) ?_
  cases h
  exact RET (fun j => [].getD j 0) 0 0 _ _ trivial dJ0_getBytes_840e7_43
theorem hm_J0_getBytes_840e7_K {ad adK adV : Nat → Nat} {tS tF : Nat} {tX sK sV : Nat → Nat} (hE : vEok (vE ad adK adV tS tF tX sK sV)) {l : Launch} {D : va_G} {cI cF cC cS cO cB cZ : ClassId} {ki : Nat} {a0 : Nat} {r_n1 : Nat} {r_g2 : Nat → Int32} {x2 : Int32} {n0 : Nat} {g0 : Nat → Int32} (h : hf_J0_getBytes_840e7_K ki x2 n0 g0 = some (r_n1, r_g2)) : vG (vE ad adK adV tS tF tX sK sV) l yJ0_getBytes_840e7 cJ0_getBytes_840e7 4 none 1 60 0 0 D (vT7 cI cF cC cS cO cB cZ) [.ref (sK ki), .ref a0, .int x2, .int (0 : Int32)] [(a0, .inl (cB, n0, .inl (g0)))] (gQv D (fun q => [(a0, .inl (cB, r_n1, .inl (r_g2)))])) :=
  vG_ofF hE (by decide +kernel) (Nat.le_of_ble_eq_true rfl) (fun p e s m args below meth c A C hr hin => hk_J0_getBytes_840e7_K_e C (fun q kc ks pc lv hk hd => g_retv (WQ := (fun q => [(a0, .inl (cB, r_n1, .inl (r_g2)))])) C hr q rfl ⟨Nat.le_refl 0, Nat.le_refl 0⟩ hd) h)
-- ---- J5_inflateIfNeededFor_a7421
def hf_J5_inflateIfNeededFor_a7421 (f0_3 : Int32) (n1 : Nat) (g1 : Nat → Int32) (n3 : Nat) (g3 : Nat → Int32) : Option (Unit) := (hf_J0_coder_7d493 n3 g3).bind fun z1 => some ()
set_option maxRecDepth 100000 in
set_option maxHeartbeats 4000000 in
theorem hk_J5_inflateIfNeededFor_a7421_e {ad adK adV : Nat → Nat} {tS tF : Nat} {tX sK sV : Nat → Nat} {p : Program} {l : Launch} {e : Env} {s : State} {m : MethodId} {args : Array Value} {below : List Frame} {meth : Method} {c : Code} {A : Nat → Prop} {D : va_G} {cI cF cC cS cO cB cZ : ClassId} {Q : State → Prop} {f0_3 : Int32} {n1 : Nat} {g1 : Nat → Int32} {n3 : Nat} {g3 : Nat → Int32} {a0 : Nat} {a1 : Nat} {a2 : Nat} {a3 : Nat} (C : vC (vE ad adK adV tS tF tX sK sV) p l s m args meth c A D (vT7 cI cF cC cS cO cB cZ) cJ5_inflateIfNeededFor_a7421 2 RJ5) (RET : ∀ (q : Nat → Nat) (kc ks : Nat) (pc : Nat) (lv : List (Nat × Value)), True → decode cJ5_inflateIfNeededFor_a7421 pc = .ok (.return_, 1) → vV p l e { frames := 1, cells := 0, slots := 0, locals := 20 } s m args below meth c A D 2 0 0 Q [(a0, .inr (1, [.ref a1, .int (0 : Int32), .int (0 : Int32), .int f0_3])), (a1, .inl (cB, n1, .inl (g1))), (a2, .inr (0, [.ref a3, .int (0 : Int32), .int (0 : Int32), .int (0 : Int32)])), (a3, .inl (cB, n3, .inl (g3)))] pc lv []) (h : hf_J5_inflateIfNeededFor_a7421 f0_3 n1 g1 n3 g3 = some ()) : vV p l e { frames := 1, cells := 0, slots := 0, locals := 20 } s m args below meth c A D 2 0 0 Q [(a0, .inr (1, [.ref a1, .int (0 : Int32), .int (0 : Int32), .int f0_3])), (a1, .inl (cB, n1, .inl (g1))), (a2, .inr (0, [.ref a3, .int (0 : Int32), .int (0 : Int32), .int (0 : Int32)])), (a3, .inl (cB, n3, .inl (g3)))] 0 [(0, .ref a0), (1, .ref a2)] [] := by
  rw [hf_J5_inflateIfNeededFor_a7421] at h
  refine vi_getCo C tfJ5_18 dJ5_inflateIfNeededFor_a7421_0 ?_
  refine vi_if_eq (tgt := 21) C dJ5_inflateIfNeededFor_a7421_3 (by decide) (fun hc => absurd hc (by decide)) (fun _ => ?_)
  refine vi_aload_n C 0 dJ5_inflateIfNeededFor_a7421_6 rfl ?_
  refine vi_get (ref := "java/lang/AbstractStringBuilder") (v := .int (0 : Int32)) C 0 1 inJ4w rfl rfl (by decide) tfJ5_22 rfl rfl dJ5_inflateIfNeededFor_a7421_7 ?_
  refine vi_aload_n C 1 dJ5_inflateIfNeededFor_a7421_10 rfl ?_
  obtain ⟨z1, hgz1, h⟩ := ob_bd h
  refine vi_w C (w' := [(a0, .inr (1, [.ref a1, .int (0 : Int32), .int (0 : Int32), .int f0_3])), (a1, .inl (cB, n1, .inl (g1)))] ++ [(a2, .inr (0, [.ref a3, .int (0 : Int32), .int (0 : Int32), .int (0 : Int32)])), (a3, .inl (cB, n3, .inl (g3)))]) rfl ?_
  refine g_ci C (g_runV (T := TJ0) (N := 4) (ci := 0) (fs := [.ref a3, .int (0 : Int32), .int (0 : Int32), .int (0 : Int32)]) (As := []) (rest := [.int (0 : Int32)]) (w1 := [(a0, .inr (1, [.ref a1, .int (0 : Int32), .int (0 : Int32), .int f0_3])), (a1, .inl (cB, n1, .inl (g1)))]) (wc := [(a2, .inr (0, [.ref a3, .int (0 : Int32), .int (0 : Int32), .int (0 : Int32)])), (a3, .inl (cB, n3, .inl (g3)))]) C (hm_J0_coder_7d493 (a0 := a2) (a1 := a3) (n1 := n3) (g1 := g3)  C.2.2.2.2.2.2.2.2.1 hgz1) 0 rfl tcJ0_coder_7d493 tlJ5_40 tiJ0_coder_7d493 tsJ0_coder_7d493 tnJ0 tdJ0_coder_7d493 ⟨Nat.le_of_ble_eq_true rfl, Nat.le_of_ble_eq_true rfl⟩ ⟨Nat.le_refl 0, Nat.le_refl 0⟩ 2 rfl rfl rfl (Nat.le_of_ble_eq_true rfl) dJ5_inflateIfNeededFor_a7421_11 rfl) rfl (fun q2 => ?_)
  refine vi_w C (w' := [(a0, .inr (1, [.ref a1, .int (0 : Int32), .int (0 : Int32), .int f0_3])), (a1, .inl (cB, n1, .inl (g1))), (a2, .inr (0, [.ref a3, .int (0 : Int32), .int (0 : Int32), .int (0 : Int32)])), (a3, .inl (cB, n3, .inl (g3)))]) rfl ?_
  refine vi_kk (kc1 := 0) (ks1 := 0) rfl rfl ?_
  refine vi_icmp_eq (tgt := 21) C dJ5_inflateIfNeededFor_a7421_14 (by decide) (fun _ => ?_) (fun hc => absurd (by decide) hc)
  cases h
  exact RET (fun j => [].getD j 0) 0 0 _ _ trivial dJ5_inflateIfNeededFor_a7421_21
theorem hm_J5_inflateIfNeededFor_a7421 {ad adK adV : Nat → Nat} {tS tF : Nat} {tX sK sV : Nat → Nat} (hE : vEok (vE ad adK adV tS tF tX sK sV)) {l : Launch} {D : va_G} {cI cF cC cS cO cB cZ : ClassId} {f0_3 : Int32} {n1 : Nat} {g1 : Nat → Int32} {n3 : Nat} {g3 : Nat → Int32} {a0 : Nat} {a1 : Nat} {a2 : Nat} {a3 : Nat} (h : hf_J5_inflateIfNeededFor_a7421 f0_3 n1 g1 n3 g3 = some ()) : vG (vE ad adK adV tS tF tX sK sV) l yJ5_inflateIfNeededFor_a7421 cJ5_inflateIfNeededFor_a7421 2 none 1 20 0 0 D (vT7 cI cF cC cS cO cB cZ) [.ref a0, .ref a2] [(a0, .inr (1, [.ref a1, .int (0 : Int32), .int (0 : Int32), .int f0_3])), (a1, .inl (cB, n1, .inl (g1))), (a2, .inr (0, [.ref a3, .int (0 : Int32), .int (0 : Int32), .int (0 : Int32)])), (a3, .inl (cB, n3, .inl (g3)))] (gQv D (fun q => [(a0, .inr (1, [.ref a1, .int (0 : Int32), .int (0 : Int32), .int f0_3])), (a1, .inl (cB, n1, .inl (g1))), (a2, .inr (0, [.ref a3, .int (0 : Int32), .int (0 : Int32), .int (0 : Int32)])), (a3, .inl (cB, n3, .inl (g3)))])) :=
  vG_ofF hE (by decide +kernel) (Nat.le_of_ble_eq_true rfl) (fun p e s m args below meth c A C hr hin => hk_J5_inflateIfNeededFor_a7421_e C (fun q kc ks pc lv hk hd => g_retv (WQ := (fun q => [(a0, .inr (1, [.ref a1, .int (0 : Int32), .int (0 : Int32), .int f0_3])), (a1, .inl (cB, n1, .inl (g1))), (a2, .inr (0, [.ref a3, .int (0 : Int32), .int (0 : Int32), .int (0 : Int32)])), (a3, .inl (cB, n3, .inl (g3)))])) C hr q rfl ⟨Nat.le_refl 0, Nat.le_refl 0⟩ hd) h)
-- ---- J5_inflateIfNeededFor_a7421_K
def hf_J5_inflateIfNeededFor_a7421_K (ki : Nat) (f0_3 : Int32) (n1 : Nat) (g1 : Nat → Int32) : Option (Unit) := (hf_J0_coder_7d493_K ki).bind fun z1 => if ki < 3 then some () else none
set_option maxRecDepth 100000 in
set_option maxHeartbeats 4000000 in
theorem hk_J5_inflateIfNeededFor_a7421_K_e {ad adK adV : Nat → Nat} {tS tF : Nat} {tX sK sV : Nat → Nat} {p : Program} {l : Launch} {e : Env} {s : State} {m : MethodId} {args : Array Value} {below : List Frame} {meth : Method} {c : Code} {A : Nat → Prop} {D : va_G} {cI cF cC cS cO cB cZ : ClassId} {Q : State → Prop} {ki : Nat} {f0_3 : Int32} {n1 : Nat} {g1 : Nat → Int32} {a0 : Nat} {a1 : Nat} (C : vC (vE ad adK adV tS tF tX sK sV) p l s m args meth c A D (vT7 cI cF cC cS cO cB cZ) cJ5_inflateIfNeededFor_a7421 2 RJ5) (RET : ∀ (q : Nat → Nat) (kc ks : Nat) (pc : Nat) (lv : List (Nat × Value)), True → decode cJ5_inflateIfNeededFor_a7421 pc = .ok (.return_, 1) → vV p l e { frames := 1, cells := 0, slots := 0, locals := 20 } s m args below meth c A D 2 0 0 Q [(a0, .inr (1, [.ref a1, .int (0 : Int32), .int (0 : Int32), .int f0_3])), (a1, .inl (cB, n1, .inl (g1)))] pc lv []) (h : hf_J5_inflateIfNeededFor_a7421_K ki f0_3 n1 g1 = some ()) : vV p l e { frames := 1, cells := 0, slots := 0, locals := 20 } s m args below meth c A D 2 0 0 Q [(a0, .inr (1, [.ref a1, .int (0 : Int32), .int (0 : Int32), .int f0_3])), (a1, .inl (cB, n1, .inl (g1)))] 0 [(0, .ref a0), (1, .ref (sK ki))] [] := by
  rw [hf_J5_inflateIfNeededFor_a7421_K] at h
  refine vi_getCo C tfJ5_18 dJ5_inflateIfNeededFor_a7421_0 ?_
  refine vi_if_eq (tgt := 21) C dJ5_inflateIfNeededFor_a7421_3 (by decide) (fun hc => absurd hc (by decide)) (fun _ => ?_)
  refine vi_aload_n C 0 dJ5_inflateIfNeededFor_a7421_6 rfl ?_
  refine vi_get (ref := "java/lang/AbstractStringBuilder") (v := .int (0 : Int32)) C 0 1 inJ4w rfl rfl (by decide) tfJ5_22 rfl rfl dJ5_inflateIfNeededFor_a7421_7 ?_
  refine vi_aload_n C 1 dJ5_inflateIfNeededFor_a7421_10 rfl ?_
  obtain ⟨z1, hgz1, h⟩ := ob_bd h
  refine vi_w C (w' := [(a0, .inr (1, [.ref a1, .int (0 : Int32), .int (0 : Int32), .int f0_3])), (a1, .inl (cB, n1, .inl (g1)))] ++ []) rfl ?_
  obtain ⟨hz2, h⟩ := ob_ok h
  refine g_ci C (g_runK (As := []) (rest := [.int (0 : Int32)]) (w1 := [(a0, .inr (1, [.ref a1, .int (0 : Int32), .int (0 : Int32), .int f0_3])), (a1, .inl (cB, n1, .inl (g1)))]) (wc := []) C (hm_J0_coder_7d493_K  (ki := ki)  C.2.2.2.2.2.2.2.2.1 hgz1) 0 rfl tcJ0_coder_7d493 tlJ5_40 tiJ0_coder_7d493 tsJ0_coder_7d493 tnJ0 tdJ0_coder_7d493 ⟨Nat.le_of_ble_eq_true rfl, Nat.le_of_ble_eq_true rfl⟩ ⟨Nat.le_refl 0, Nat.le_refl 0⟩ (fun H locs hS => vE_recvS C hz2 hS) rfl (Nat.le_of_ble_eq_true rfl) dJ5_inflateIfNeededFor_a7421_11 rfl) rfl (fun q3 => ?_)
  refine vi_w C (w' := [(a0, .inr (1, [.ref a1, .int (0 : Int32), .int (0 : Int32), .int f0_3])), (a1, .inl (cB, n1, .inl (g1)))]) rfl ?_
  refine vi_kk (kc1 := 0) (ks1 := 0) rfl rfl ?_
  refine vi_icmp_eq (tgt := 21) C dJ5_inflateIfNeededFor_a7421_14 (by decide) (fun _ => ?_) (fun hc => absurd (by decide) hc)
  cases h
  exact RET (fun j => [].getD j 0) 0 0 _ _ trivial dJ5_inflateIfNeededFor_a7421_21
theorem hm_J5_inflateIfNeededFor_a7421_K {ad adK adV : Nat → Nat} {tS tF : Nat} {tX sK sV : Nat → Nat} (hE : vEok (vE ad adK adV tS tF tX sK sV)) {l : Launch} {D : va_G} {cI cF cC cS cO cB cZ : ClassId} {ki : Nat} {f0_3 : Int32} {n1 : Nat} {g1 : Nat → Int32} {a0 : Nat} {a1 : Nat} (h : hf_J5_inflateIfNeededFor_a7421_K ki f0_3 n1 g1 = some ()) : vG (vE ad adK adV tS tF tX sK sV) l yJ5_inflateIfNeededFor_a7421 cJ5_inflateIfNeededFor_a7421 2 none 1 20 0 0 D (vT7 cI cF cC cS cO cB cZ) [.ref a0, .ref (sK ki)] [(a0, .inr (1, [.ref a1, .int (0 : Int32), .int (0 : Int32), .int f0_3])), (a1, .inl (cB, n1, .inl (g1)))] (gQv D (fun q => [(a0, .inr (1, [.ref a1, .int (0 : Int32), .int (0 : Int32), .int f0_3])), (a1, .inl (cB, n1, .inl (g1)))])) :=
  vG_ofF hE (by decide +kernel) (Nat.le_of_ble_eq_true rfl) (fun p e s m args below meth c A C hr hin => hk_J5_inflateIfNeededFor_a7421_K_e C (fun q kc ks pc lv hk hd => g_retv (WQ := (fun q => [(a0, .inr (1, [.ref a1, .int (0 : Int32), .int (0 : Int32), .int f0_3])), (a1, .inl (cB, n1, .inl (g1)))])) C hr q rfl ⟨Nat.le_refl 0, Nat.le_refl 0⟩ hd) h)
-- ---- J5_putStringAt_47b60
def hf_J5_putStringAt_47b60 (f0_3 : Int32) (n3 : Nat) (g3 : Nat → Int32) (x1 : Int32) (n1 : Nat) (g1 : Nat → Int32) : Option (Nat × (Nat → Int32)) := (hf_J5_inflateIfNeededFor_a7421 f0_3 n1 g1 n3 g3).bind fun z1 => (hf_J0_getBytes_840e7 n3 g3 x1 n1 g1).bind fun z3 => some (z3.1, z3.2)
set_option maxRecDepth 100000 in
set_option maxHeartbeats 4000000 in
theorem hk_J5_putStringAt_47b60_e {ad adK adV : Nat → Nat} {tS tF : Nat} {tX sK sV : Nat → Nat} {p : Program} {l : Launch} {e : Env} {s : State} {m : MethodId} {args : Array Value} {below : List Frame} {meth : Method} {c : Code} {A : Nat → Prop} {D : va_G} {cI cF cC cS cO cB cZ : ClassId} {Q : State → Prop} {f0_3 : Int32} {n3 : Nat} {g3 : Nat → Int32} {a0 : Nat} {a1 : Nat} {a2 : Nat} {a3 : Nat} (C : vC (vE ad adK adV tS tF tX sK sV) p l s m args meth c A D (vT7 cI cF cC cS cO cB cZ) cJ5_putStringAt_47b60 3 RJ5) {r_n1 : Nat} {r_g2 : Nat → Int32} (RET : ∀ (q : Nat → Nat) (kc ks : Nat) (pc : Nat) (lv : List (Nat × Value)), True → decode cJ5_putStringAt_47b60 pc = .ok (.return_, 1) → vV p l e { frames := 2, cells := 0, slots := 0, locals := 83 } s m args below meth c A D 3 0 0 Q [(a0, .inr (1, [.ref a1, .int (0 : Int32), .int (0 : Int32), .int f0_3])), (a1, .inl (cB, r_n1, .inl (r_g2))), (a2, .inr (0, [.ref a3, .int (0 : Int32), .int (0 : Int32), .int (0 : Int32)])), (a3, .inl (cB, n3, .inl (g3)))] pc lv []) {x1 : Int32} {n1 : Nat} {g1 : Nat → Int32} (h : hf_J5_putStringAt_47b60 f0_3 n3 g3 x1 n1 g1 = some (r_n1, r_g2)) : vV p l e { frames := 2, cells := 0, slots := 0, locals := 83 } s m args below meth c A D 3 0 0 Q [(a0, .inr (1, [.ref a1, .int (0 : Int32), .int (0 : Int32), .int f0_3])), (a1, .inl (cB, n1, .inl (g1))), (a2, .inr (0, [.ref a3, .int (0 : Int32), .int (0 : Int32), .int (0 : Int32)])), (a3, .inl (cB, n3, .inl (g3)))] 0 [(0, .ref a0), (1, .int x1), (2, .ref a2)] [] := by
  rw [hf_J5_putStringAt_47b60] at h
  refine vi_aload_n C 0 dJ5_putStringAt_47b60_0 rfl ?_
  refine vi_aload_n C 2 dJ5_putStringAt_47b60_1 rfl ?_
  obtain ⟨z1, hgz1, h⟩ := ob_bd h
  refine vi_w C (w' := [] ++ [(a0, .inr (1, [.ref a1, .int (0 : Int32), .int (0 : Int32), .int f0_3])), (a1, .inl (cB, n1, .inl (g1))), (a2, .inr (0, [.ref a3, .int (0 : Int32), .int (0 : Int32), .int (0 : Int32)])), (a3, .inl (cB, n3, .inl (g3)))]) rfl ?_
  refine g_cv C (g_runU (x := yJ5_inflateIfNeededFor_a7421) (owner := RJ5) (Cn := RJ4) (T := TJ4) (N := 4) (ci := 1) (fs := [.ref a1, .int (0 : Int32), .int (0 : Int32), .int f0_3]) (As := [.ref a2]) (rest := []) (w1 := []) (wc := [(a0, .inr (1, [.ref a1, .int (0 : Int32), .int (0 : Int32), .int f0_3])), (a1, .inl (cB, n1, .inl (g1))), (a2, .inr (0, [.ref a3, .int (0 : Int32), .int (0 : Int32), .int (0 : Int32)])), (a3, .inl (cB, n3, .inl (g3)))]) C (hm_J5_inflateIfNeededFor_a7421 (a0 := a0) (a1 := a1) (a2 := a2) (a3 := a3) (f0_3 := f0_3) (n1 := n1) (g1 := g1) (n3 := n3) (g3 := g3)  C.2.2.2.2.2.2.2.2.1 hgz1) 1 rfl tcJ5_inflateIfNeededFor_a7421 tlJ5_397 tiJ5_inflateIfNeededFor_a7421 tsmJ5_inflateIfNeededFor_a7421 (va_Decl.of (C.2.2.2.2.1 _ tiJ5_inflateIfNeededFor_a7421) (C.2.2.2.2.1 _ tcJ5_inflateIfNeededFor_a7421)) (g_selPriv (by decide) (C.2.2.2.2.1 _ tinst_J4) (va_Nw.use rfl ((vE_x C).2.2.2.2.2 _ (List.mem_of_getElem? (i := 2) rfl))) (C.2.2.2.2.1 _ tiJ5_inflateIfNeededFor_a7421) (C.2.2.2.2.1 _ tsmJ5_inflateIfNeededFor_a7421)) tnJ5 (by decide) tdJ5_inflateIfNeededFor_a7421.2.2 ⟨Nat.le_of_ble_eq_true rfl, Nat.le_of_ble_eq_true rfl⟩ ⟨Nat.le_refl 0, Nat.le_refl 0⟩ 0 rfl rfl rfl (Nat.le_of_ble_eq_true rfl) dJ5_putStringAt_47b60_2 rfl) rfl (fun q2 => ?_)
  refine vi_w C (w' := [(a0, .inr (1, [.ref a1, .int (0 : Int32), .int (0 : Int32), .int f0_3])), (a1, .inl (cB, n1, .inl (g1))), (a2, .inr (0, [.ref a3, .int (0 : Int32), .int (0 : Int32), .int (0 : Int32)])), (a3, .inl (cB, n3, .inl (g3)))]) rfl ?_
  refine vi_kk (kc1 := 0) (ks1 := 0) rfl rfl ?_
  refine vi_aload_n C 2 dJ5_putStringAt_47b60_5 rfl ?_
  refine vi_aload_n C 0 dJ5_putStringAt_47b60_6 rfl ?_
  refine vi_get (ref := "java/lang/AbstractStringBuilder") (v := .ref a1) C 0 0 inJ4w rfl rfl (by decide) tfJ5_15 rfl rfl dJ5_putStringAt_47b60_7 ?_
  refine vi_iload_n C 1 dJ5_putStringAt_47b60_10 rfl ?_
  refine vi_aload_n C 0 dJ5_putStringAt_47b60_11 rfl ?_
  refine vi_get (ref := "java/lang/AbstractStringBuilder") (v := .int (0 : Int32)) C 0 1 inJ4w rfl rfl (by decide) tfJ5_22 rfl rfl dJ5_putStringAt_47b60_12 ?_
  obtain ⟨z3, hgz3, h⟩ := ob_bd h
  refine vi_pick (w' := [(a0, .inr (1, [.ref a1, .int (0 : Int32), .int (0 : Int32), .int f0_3])), (a2, .inr (0, [.ref a3, .int (0 : Int32), .int (0 : Int32), .int (0 : Int32)])), (a3, .inl (cB, n3, .inl (g3))), (a1, .inl (cB, n1, .inl (g1)))]) [0, 2, 3, 1] (by decide) rfl ?_
  refine vi_w C (w' := [(a0, .inr (1, [.ref a1, .int (0 : Int32), .int (0 : Int32), .int f0_3]))] ++ [(a2, .inr (0, [.ref a3, .int (0 : Int32), .int (0 : Int32), .int (0 : Int32)])), (a3, .inl (cB, n3, .inl (g3))), (a1, .inl (cB, n1, .inl (g1)))]) rfl ?_
  refine g_cv C (g_runV (T := TJ0) (N := 4) (ci := 0) (fs := [.ref a3, .int (0 : Int32), .int (0 : Int32), .int (0 : Int32)]) (As := [.ref a1, .int x1, .int (0 : Int32)]) (rest := []) (w1 := [(a0, .inr (1, [.ref a1, .int (0 : Int32), .int (0 : Int32), .int f0_3]))]) (wc := [(a2, .inr (0, [.ref a3, .int (0 : Int32), .int (0 : Int32), .int (0 : Int32)])), (a3, .inl (cB, n3, .inl (g3))), (a1, .inl (cB, n1, .inl (g1)))]) C (hm_J0_getBytes_840e7 (a0 := a2) (a1 := a3) (a2 := a1) (n1 := n3) (g1 := g3) (x2 := x1) (n2 := n1) (g2 := g1) (r_n1 := z3.1) (r_g2 := z3.2) C.2.2.2.2.2.2.2.2.1 hgz3) 3 rfl tcJ0_getBytes_840e7 tlJ5_399 tiJ0_getBytes_840e7 tsJ0_getBytes_840e7 tnJ0 tdJ0_getBytes_840e7 ⟨Nat.le_of_ble_eq_true rfl, Nat.le_of_ble_eq_true rfl⟩ ⟨Nat.le_refl 0, Nat.le_refl 0⟩ 1 rfl rfl rfl (Nat.le_of_ble_eq_true rfl) dJ5_putStringAt_47b60_15 rfl) rfl (fun q4 => ?_)
  refine vi_w C (w' := [(a0, .inr (1, [.ref a1, .int (0 : Int32), .int (0 : Int32), .int f0_3])), (a1, .inl (cB, z3.1, .inl (z3.2))), (a2, .inr (0, [.ref a3, .int (0 : Int32), .int (0 : Int32), .int (0 : Int32)])), (a3, .inl (cB, n3, .inl (g3)))]) rfl ?_
  refine vi_kk (kc1 := 0) (ks1 := 0) rfl rfl ?_
  cases h
  exact RET (fun j => [].getD j 0) 0 0 _ _ trivial dJ5_putStringAt_47b60_18
theorem hm_J5_putStringAt_47b60 {ad adK adV : Nat → Nat} {tS tF : Nat} {tX sK sV : Nat → Nat} (hE : vEok (vE ad adK adV tS tF tX sK sV)) {l : Launch} {D : va_G} {cI cF cC cS cO cB cZ : ClassId} {f0_3 : Int32} {n3 : Nat} {g3 : Nat → Int32} {a0 : Nat} {a1 : Nat} {a2 : Nat} {a3 : Nat} {r_n1 : Nat} {r_g2 : Nat → Int32} {x1 : Int32} {n1 : Nat} {g1 : Nat → Int32} (h : hf_J5_putStringAt_47b60 f0_3 n3 g3 x1 n1 g1 = some (r_n1, r_g2)) : vG (vE ad adK adV tS tF tX sK sV) l yJ5_putStringAt_47b60 cJ5_putStringAt_47b60 3 none 2 83 0 0 D (vT7 cI cF cC cS cO cB cZ) [.ref a0, .int x1, .ref a2] [(a0, .inr (1, [.ref a1, .int (0 : Int32), .int (0 : Int32), .int f0_3])), (a1, .inl (cB, n1, .inl (g1))), (a2, .inr (0, [.ref a3, .int (0 : Int32), .int (0 : Int32), .int (0 : Int32)])), (a3, .inl (cB, n3, .inl (g3)))] (gQv D (fun q => [(a0, .inr (1, [.ref a1, .int (0 : Int32), .int (0 : Int32), .int f0_3])), (a1, .inl (cB, r_n1, .inl (r_g2))), (a2, .inr (0, [.ref a3, .int (0 : Int32), .int (0 : Int32), .int (0 : Int32)])), (a3, .inl (cB, n3, .inl (g3)))])) :=
  vG_ofF hE (by decide +kernel) (Nat.le_of_ble_eq_true rfl) (fun p e s m args below meth c A C hr hin => hk_J5_putStringAt_47b60_e C (fun q kc ks pc lv hk hd => g_retv (WQ := (fun q => [(a0, .inr (1, [.ref a1, .int (0 : Int32), .int (0 : Int32), .int f0_3])), (a1, .inl (cB, r_n1, .inl (r_g2))), (a2, .inr (0, [.ref a3, .int (0 : Int32), .int (0 : Int32), .int (0 : Int32)])), (a3, .inl (cB, n3, .inl (g3)))])) C hr q rfl ⟨Nat.le_refl 0, Nat.le_refl 0⟩ hd) h)
-- ---- J5_putStringAt_47b60_K
def hf_J5_putStringAt_47b60_K (ki : Nat) (f0_3 : Int32) (x1 : Int32) (n1 : Nat) (g1 : Nat → Int32) : Option (Nat × (Nat → Int32)) := (hf_J5_inflateIfNeededFor_a7421_K ki f0_3 n1 g1).bind fun z1 => (hf_J0_getBytes_840e7_K ki x1 n1 g1).bind fun z3 => if ki < 3 then some (z3.1, z3.2) else none
set_option maxRecDepth 100000 in
set_option maxHeartbeats 4000000 in
theorem hk_J5_putStringAt_47b60_K_e {ad adK adV : Nat → Nat} {tS tF : Nat} {tX sK sV : Nat → Nat} {p : Program} {l : Launch} {e : Env} {s : State} {m : MethodId} {args : Array Value} {below : List Frame} {meth : Method} {c : Code} {A : Nat → Prop} {D : va_G} {cI cF cC cS cO cB cZ : ClassId} {Q : State → Prop} {ki : Nat} {f0_3 : Int32} {a0 : Nat} {a1 : Nat} (C : vC (vE ad adK adV tS tF tX sK sV) p l s m args meth c A D (vT7 cI cF cC cS cO cB cZ) cJ5_putStringAt_47b60 3 RJ5) {r_n1 : Nat} {r_g2 : Nat → Int32} (RET : ∀ (q : Nat → Nat) (kc ks : Nat) (pc : Nat) (lv : List (Nat × Value)), True → decode cJ5_putStringAt_47b60 pc = .ok (.return_, 1) → vV p l e { frames := 2, cells := 0, slots := 0, locals := 83 } s m args below meth c A D 3 0 0 Q [(a0, .inr (1, [.ref a1, .int (0 : Int32), .int (0 : Int32), .int f0_3])), (a1, .inl (cB, r_n1, .inl (r_g2)))] pc lv []) {x1 : Int32} {n1 : Nat} {g1 : Nat → Int32} (h : hf_J5_putStringAt_47b60_K ki f0_3 x1 n1 g1 = some (r_n1, r_g2)) : vV p l e { frames := 2, cells := 0, slots := 0, locals := 83 } s m args below meth c A D 3 0 0 Q [(a0, .inr (1, [.ref a1, .int (0 : Int32), .int (0 : Int32), .int f0_3])), (a1, .inl (cB, n1, .inl (g1)))] 0 [(0, .ref a0), (1, .int x1), (2, .ref (sK ki))] [] := by
  rw [hf_J5_putStringAt_47b60_K] at h
  refine vi_aload_n C 0 dJ5_putStringAt_47b60_0 rfl ?_
  refine vi_aload_n C 2 dJ5_putStringAt_47b60_1 rfl ?_
  obtain ⟨z1, hgz1, h⟩ := ob_bd h
  refine vi_w C (w' := [] ++ [(a0, .inr (1, [.ref a1, .int (0 : Int32), .int (0 : Int32), .int f0_3])), (a1, .inl (cB, n1, .inl (g1)))]) rfl ?_
  refine g_cv C (g_runU (x := yJ5_inflateIfNeededFor_a7421) (owner := RJ5) (Cn := RJ4) (T := TJ4) (N := 4) (ci := 1) (fs := [.ref a1, .int (0 : Int32), .int (0 : Int32), .int f0_3]) (As := [.ref (sK ki)]) (rest := []) (w1 := []) (wc := [(a0, .inr (1, [.ref a1, .int (0 : Int32), .int (0 : Int32), .int f0_3])), (a1, .inl (cB, n1, .inl (g1)))]) C (hm_J5_inflateIfNeededFor_a7421_K (a0 := a0) (a1 := a1) (ki := ki) (f0_3 := f0_3) (n1 := n1) (g1 := g1)  C.2.2.2.2.2.2.2.2.1 hgz1) 1 rfl tcJ5_inflateIfNeededFor_a7421 tlJ5_397 tiJ5_inflateIfNeededFor_a7421 tsmJ5_inflateIfNeededFor_a7421 (va_Decl.of (C.2.2.2.2.1 _ tiJ5_inflateIfNeededFor_a7421) (C.2.2.2.2.1 _ tcJ5_inflateIfNeededFor_a7421)) (g_selPriv (by decide) (C.2.2.2.2.1 _ tinst_J4) (va_Nw.use rfl ((vE_x C).2.2.2.2.2 _ (List.mem_of_getElem? (i := 2) rfl))) (C.2.2.2.2.1 _ tiJ5_inflateIfNeededFor_a7421) (C.2.2.2.2.1 _ tsmJ5_inflateIfNeededFor_a7421)) tnJ5 (by decide) tdJ5_inflateIfNeededFor_a7421.2.2 ⟨Nat.le_of_ble_eq_true rfl, Nat.le_of_ble_eq_true rfl⟩ ⟨Nat.le_refl 0, Nat.le_refl 0⟩ 0 rfl rfl rfl (Nat.le_of_ble_eq_true rfl) dJ5_putStringAt_47b60_2 rfl) rfl (fun q2 => ?_)
  refine vi_w C (w' := [(a0, .inr (1, [.ref a1, .int (0 : Int32), .int (0 : Int32), .int f0_3])), (a1, .inl (cB, n1, .inl (g1)))]) rfl ?_
  refine vi_kk (kc1 := 0) (ks1 := 0) rfl rfl ?_
  refine vi_aload_n C 2 dJ5_putStringAt_47b60_5 rfl ?_
  refine vi_aload_n C 0 dJ5_putStringAt_47b60_6 rfl ?_
  refine vi_get (ref := "java/lang/AbstractStringBuilder") (v := .ref a1) C 0 0 inJ4w rfl rfl (by decide) tfJ5_15 rfl rfl dJ5_putStringAt_47b60_7 ?_
  refine vi_iload_n C 1 dJ5_putStringAt_47b60_10 rfl ?_
  refine vi_aload_n C 0 dJ5_putStringAt_47b60_11 rfl ?_
  refine vi_get (ref := "java/lang/AbstractStringBuilder") (v := .int (0 : Int32)) C 0 1 inJ4w rfl rfl (by decide) tfJ5_22 rfl rfl dJ5_putStringAt_47b60_12 ?_
  obtain ⟨z3, hgz3, h⟩ := ob_bd h
  refine vi_w C (w' := [(a0, .inr (1, [.ref a1, .int (0 : Int32), .int (0 : Int32), .int f0_3]))] ++ [(a1, .inl (cB, n1, .inl (g1)))]) rfl ?_
  obtain ⟨hz4, h⟩ := ob_ok h
  refine g_cv C (g_runK (As := [.ref a1, .int x1, .int (0 : Int32)]) (rest := []) (w1 := [(a0, .inr (1, [.ref a1, .int (0 : Int32), .int (0 : Int32), .int f0_3]))]) (wc := [(a1, .inl (cB, n1, .inl (g1)))]) C (hm_J0_getBytes_840e7_K (a0 := a1) (ki := ki) (x2 := x1) (n0 := n1) (g0 := g1) (r_n1 := z3.1) (r_g2 := z3.2) C.2.2.2.2.2.2.2.2.1 hgz3) 3 rfl tcJ0_getBytes_840e7 tlJ5_399 tiJ0_getBytes_840e7 tsJ0_getBytes_840e7 tnJ0 tdJ0_getBytes_840e7 ⟨Nat.le_of_ble_eq_true rfl, Nat.le_of_ble_eq_true rfl⟩ ⟨Nat.le_refl 0, Nat.le_refl 0⟩ (fun H locs hS => vE_recvS C hz4 hS) rfl (Nat.le_of_ble_eq_true rfl) dJ5_putStringAt_47b60_15 rfl) rfl (fun q5 => ?_)
  refine vi_w C (w' := [(a0, .inr (1, [.ref a1, .int (0 : Int32), .int (0 : Int32), .int f0_3])), (a1, .inl (cB, z3.1, .inl (z3.2)))]) rfl ?_
  refine vi_kk (kc1 := 0) (ks1 := 0) rfl rfl ?_
  cases h
  exact RET (fun j => [].getD j 0) 0 0 _ _ trivial dJ5_putStringAt_47b60_18
theorem hm_J5_putStringAt_47b60_K {ad adK adV : Nat → Nat} {tS tF : Nat} {tX sK sV : Nat → Nat} (hE : vEok (vE ad adK adV tS tF tX sK sV)) {l : Launch} {D : va_G} {cI cF cC cS cO cB cZ : ClassId} {ki : Nat} {f0_3 : Int32} {a0 : Nat} {a1 : Nat} {r_n1 : Nat} {r_g2 : Nat → Int32} {x1 : Int32} {n1 : Nat} {g1 : Nat → Int32} (h : hf_J5_putStringAt_47b60_K ki f0_3 x1 n1 g1 = some (r_n1, r_g2)) : vG (vE ad adK adV tS tF tX sK sV) l yJ5_putStringAt_47b60 cJ5_putStringAt_47b60 3 none 2 83 0 0 D (vT7 cI cF cC cS cO cB cZ) [.ref a0, .int x1, .ref (sK ki)] [(a0, .inr (1, [.ref a1, .int (0 : Int32), .int (0 : Int32), .int f0_3])), (a1, .inl (cB, n1, .inl (g1)))] (gQv D (fun q => [(a0, .inr (1, [.ref a1, .int (0 : Int32), .int (0 : Int32), .int f0_3])), (a1, .inl (cB, r_n1, .inl (r_g2)))])) :=
  vG_ofF hE (by decide +kernel) (Nat.le_of_ble_eq_true rfl) (fun p e s m args below meth c A C hr hin => hk_J5_putStringAt_47b60_K_e C (fun q kc ks pc lv hk hd => g_retv (WQ := (fun q => [(a0, .inr (1, [.ref a1, .int (0 : Int32), .int (0 : Int32), .int f0_3])), (a1, .inl (cB, r_n1, .inl (r_g2)))])) C hr q rfl ⟨Nat.le_refl 0, Nat.le_refl 0⟩ hd) h)
-- ---- J5_append_cf1ce
def hf_J5_append_cf1ce (mc : Nat) (ms : Nat) (n3 : Nat) (g3 : Nat → Int32) (f0_3 : Int32) (n1 : Nat) (g1 : Nat → Int32) : Option (Int32 × Nat × (Nat → Int32)) := (hf_J0_length_8abf5 n3 g3).bind fun z1 => if 0 + (gc1 (f0_3 + z1) n1) ≤ mc ∧ 0 + (gc2 (f0_3 + z1) n1) ≤ ms then (hf_J5_ensureCapacityInternal_d00df (gc1 (f0_3 + z1) n1) (gc2 (f0_3 + z1) n1) (f0_3 + z1) f0_3 n1 g1).bind fun z4 => bd (0 + (gc1 (f0_3 + z1) n1)) fun kc6 => bd (0 + (gc2 (f0_3 + z1) n1)) fun ks7 => (hf_J5_putStringAt_47b60 (z4.1) n3 g3 (z4.1) (z4.2.1) (z4.2.2)).bind fun z8 => bd (((z4.1) + z1 : Int32)) fun y10 => some (y10, z8.1, z8.2) else none
set_option maxRecDepth 100000 in
set_option maxHeartbeats 4000000 in
theorem hk_J5_append_cf1ce_e {ad adK adV : Nat → Nat} {tS tF : Nat} {tX sK sV : Nat → Nat} {p : Program} {l : Launch} {e : Env} {s : State} {m : MethodId} {args : Array Value} {below : List Frame} {meth : Method} {c : Code} {A : Nat → Prop} {D : va_G} {cI cF cC cS cO cB cZ : ClassId} {Q : State → Prop} {mc : Nat} {ms : Nat} {n3 : Nat} {g3 : Nat → Int32} {a0 : Nat} {a1 : Nat} {a2 : Nat} {a3 : Nat} (C : vC (vE ad adK adV tS tF tX sK sV) p l s m args meth c A D (vT7 cI cF cC cS cO cB cZ) cJ5_append_cf1ce 3 RJ5) {r_o1 : Int32} {r_n2 : Nat} {r_g3 : Nat → Int32} (RET : ∀ (q : Nat → Nat) (kc ks : Nat) (pc : Nat) (lv : List (Nat × Value)), (kc ≤ mc ∧ ks ≤ ms) → decode cJ5_append_cf1ce pc = .ok (.areturn, 1) → vV p l e { frames := 4, cells := mc, slots := ms, locals := 105 } s m args below meth c A D 3 kc ks Q [(a0, .inr (1, [.ref (q 0), .int (0 : Int32), .int (0 : Int32), .int r_o1])), ((q 0), .inl (cB, r_n2, .inl (r_g3))), (a2, .inr (0, [.ref a3, .int (0 : Int32), .int (0 : Int32), .int (0 : Int32)])), (a3, .inl (cB, n3, .inl (g3)))] pc lv [.ref a0]) {f0_3 : Int32} {n1 : Nat} {g1 : Nat → Int32} (h : hf_J5_append_cf1ce mc ms n3 g3 f0_3 n1 g1 = some (r_o1, r_n2, r_g3)) : vV p l e { frames := 4, cells := mc, slots := ms, locals := 105 } s m args below meth c A D 3 (0) (0) Q [(a0, .inr (1, [.ref a1, .int (0 : Int32), .int (0 : Int32), .int f0_3])), (a1, .inl (cB, n1, .inl (g1))), (a2, .inr (0, [.ref a3, .int (0 : Int32), .int (0 : Int32), .int (0 : Int32)])), (a3, .inl (cB, n3, .inl (g3)))] 0 [(0, .ref a0), (1, .ref a2)] [] := by
  rw [hf_J5_append_cf1ce] at h
  refine vi_aload_n C 1 dJ5_append_cf1ce_0 rfl ?_
  refine vi_ifnonnull (tgt := 9) C dJ5_append_cf1ce_1 (by decide) ?_
  refine vi_aload_n C 1 dJ5_append_cf1ce_9 rfl ?_
  obtain ⟨z1, hgz1, h⟩ := ob_bd h
  refine vi_w C (w' := [(a0, .inr (1, [.ref a1, .int (0 : Int32), .int (0 : Int32), .int f0_3])), (a1, .inl (cB, n1, .inl (g1)))] ++ [(a2, .inr (0, [.ref a3, .int (0 : Int32), .int (0 : Int32), .int (0 : Int32)])), (a3, .inl (cB, n3, .inl (g3)))]) rfl ?_
  refine g_ci C (g_runV (T := TJ0) (N := 4) (ci := 0) (fs := [.ref a3, .int (0 : Int32), .int (0 : Int32), .int (0 : Int32)]) (As := []) (rest := []) (w1 := [(a0, .inr (1, [.ref a1, .int (0 : Int32), .int (0 : Int32), .int f0_3])), (a1, .inl (cB, n1, .inl (g1)))]) (wc := [(a2, .inr (0, [.ref a3, .int (0 : Int32), .int (0 : Int32), .int (0 : Int32)])), (a3, .inl (cB, n3, .inl (g3)))]) C (hm_J0_length_8abf5 (a0 := a2) (a1 := a3) (n1 := n3) (g1 := g3) (r0 := z1) C.2.2.2.2.2.2.2.2.1 hgz1) 0 rfl tcJ0_length_8abf5 tlJ5_32 tiJ0_length_8abf5 tsJ0_length_8abf5 tnJ0 tdJ0_length_8abf5 ⟨Nat.le_of_ble_eq_true rfl, Nat.le_of_ble_eq_true rfl⟩ ⟨Nat.zero_le _, Nat.zero_le _⟩ 2 rfl rfl rfl (Nat.le_of_ble_eq_true rfl) dJ5_append_cf1ce_10 rfl) rfl (fun q2 => ?_)
  refine vi_w C (w' := [(a0, .inr (1, [.ref a1, .int (0 : Int32), .int (0 : Int32), .int f0_3])), (a1, .inl (cB, n1, .inl (g1))), (a2, .inr (0, [.ref a3, .int (0 : Int32), .int (0 : Int32), .int (0 : Int32)])), (a3, .inl (cB, n3, .inl (g3)))]) rfl ?_
  refine vi_kk (kc1 := (0)) (ks1 := (0)) rfl rfl ?_
  refine vi_istore_n (lv' := [(2, .int z1), (0, .ref a0), (1, .ref a2)]) C dJ5_append_cf1ce_13 rfl (by decide) rfl ?_
  refine vi_aload_n C 1 dJ5_append_cf1ce_14 rfl ?_
  refine vi_aload_n C 1 dJ5_append_cf1ce_15 rfl ?_
  refine vi_get (ref := "java/lang/AbstractStringBuilder") (v := .int f0_3) C 0 3 inJ4w rfl rfl (by decide) tfJ5_79 rfl rfl dJ5_append_cf1ce_16 ?_
  refine vi_iload_n C 0 dJ5_append_cf1ce_19 rfl ?_
  refine vi_iadd C dJ5_append_cf1ce_20 ?_
  obtain ⟨hz3, h⟩ := ob_ok h
  obtain ⟨z4, hgz4, h⟩ := ob_bd h
  refine vi_pick (w' := [(a2, .inr (0, [.ref a3, .int (0 : Int32), .int (0 : Int32), .int (0 : Int32)])), (a3, .inl (cB, n3, .inl (g3))), (a0, .inr (1, [.ref a1, .int (0 : Int32), .int (0 : Int32), .int f0_3])), (a1, .inl (cB, n1, .inl (g1)))]) [2, 3, 0, 1] (by decide) rfl ?_
  refine vi_w C (w' := [(a2, .inr (0, [.ref a3, .int (0 : Int32), .int (0 : Int32), .int (0 : Int32)])), (a3, .inl (cB, n3, .inl (g3)))] ++ [(a0, .inr (1, [.ref a1, .int (0 : Int32), .int (0 : Int32), .int f0_3])), (a1, .inl (cB, n1, .inl (g1)))]) rfl ?_
  refine g_cv C (g_runU (x := yJ5_ensureCapacityInternal_d00df) (owner := RJ5) (Cn := RJ4) (T := TJ4) (N := 4) (ci := 1) (fs := [.ref a1, .int (0 : Int32), .int (0 : Int32), .int f0_3]) (As := [.int (f0_3 + z1)]) (rest := []) (w1 := [(a2, .inr (0, [.ref a3, .int (0 : Int32), .int (0 : Int32), .int (0 : Int32)])), (a3, .inl (cB, n3, .inl (g3)))]) (wc := [(a0, .inr (1, [.ref a1, .int (0 : Int32), .int (0 : Int32), .int f0_3])), (a1, .inl (cB, n1, .inl (g1)))]) C (hm_J5_ensureCapacityInternal_d00df (a0 := a0) (a1 := a1) (mc := (gc1 (f0_3 + z1) n1)) (ms := (gc2 (f0_3 + z1) n1)) (x1 := (f0_3 + z1)) (f0_3 := f0_3) (n1 := n1) (g1 := g1) (r_o1 := z4.1) (r_n2 := z4.2.1) (r_g3 := z4.2.2) C.2.2.2.2.2.2.2.2.1 hgz4) 1 rfl tcJ5_ensureCapacityInternal_d00df tlJ5_100 tiJ5_ensureCapacityInternal_d00df tsmJ5_ensureCapacityInternal_d00df (va_Decl.of (C.2.2.2.2.1 _ tiJ5_ensureCapacityInternal_d00df) (C.2.2.2.2.1 _ tcJ5_ensureCapacityInternal_d00df)) (g_selPriv (by decide) (C.2.2.2.2.1 _ tinst_J4) (va_Nw.use rfl ((vE_x C).2.2.2.2.2 _ (List.mem_of_getElem? (i := 1) rfl))) (C.2.2.2.2.1 _ tiJ5_ensureCapacityInternal_d00df) (C.2.2.2.2.1 _ tsmJ5_ensureCapacityInternal_d00df)) tnJ5 (by decide) tdJ5_ensureCapacityInternal_d00df.2.2 ⟨Nat.le_of_ble_eq_true rfl, Nat.le_of_ble_eq_true rfl⟩ hz3 2 rfl rfl rfl (Nat.le_of_ble_eq_true rfl) dJ5_append_cf1ce_21 rfl) rfl (fun q5 => ?_)
  refine vi_w C (w' := [(a2, .inr (0, [.ref a3, .int (0 : Int32), .int (0 : Int32), .int (0 : Int32)])), (a3, .inl (cB, n3, .inl (g3))), (a0, .inr (1, [.ref (q5 0), .int (0 : Int32), .int (0 : Int32), .int (z4.1)])), ((q5 0), .inl (cB, z4.2.1, .inl (z4.2.2)))]) rfl ?_
  obtain ⟨kc6, ekc6, h⟩ := ob_nm h
  obtain ⟨ks7, eks7, h⟩ := ob_nm h
  refine vi_kk ekc6.symm eks7.symm ?_
  rw [← ekc6, ← eks7] at hz3
  refine vi_aload_n C 1 dJ5_append_cf1ce_24 rfl ?_
  refine vi_aload_n C 1 dJ5_append_cf1ce_25 rfl ?_
  refine vi_get (ref := "java/lang/AbstractStringBuilder") (v := .int (z4.1)) C 2 3 inJ4w rfl rfl (by decide) tfJ5_79 rfl rfl dJ5_append_cf1ce_26 ?_
  refine vi_aload_n C 2 dJ5_append_cf1ce_29 rfl ?_
  obtain ⟨z8, hgz8, h⟩ := ob_bd h
  refine vi_pick (w' := [(a0, .inr (1, [.ref (q5 0), .int (0 : Int32), .int (0 : Int32), .int (z4.1)])), ((q5 0), .inl (cB, z4.2.1, .inl (z4.2.2))), (a2, .inr (0, [.ref a3, .int (0 : Int32), .int (0 : Int32), .int (0 : Int32)])), (a3, .inl (cB, n3, .inl (g3)))]) [2, 3, 0, 1] (by decide) rfl ?_
  refine vi_w C (w' := [] ++ [(a0, .inr (1, [.ref (q5 0), .int (0 : Int32), .int (0 : Int32), .int (z4.1)])), ((q5 0), .inl (cB, z4.2.1, .inl (z4.2.2))), (a2, .inr (0, [.ref a3, .int (0 : Int32), .int (0 : Int32), .int (0 : Int32)])), (a3, .inl (cB, n3, .inl (g3)))]) rfl ?_
  refine g_cv C (g_runU (x := yJ5_putStringAt_47b60) (owner := RJ5) (Cn := RJ4) (T := TJ4) (N := 4) (ci := 1) (fs := [.ref (q5 0), .int (0 : Int32), .int (0 : Int32), .int (z4.1)]) (As := [.int (z4.1), .ref a2]) (rest := []) (w1 := []) (wc := [(a0, .inr (1, [.ref (q5 0), .int (0 : Int32), .int (0 : Int32), .int (z4.1)])), ((q5 0), .inl (cB, z4.2.1, .inl (z4.2.2))), (a2, .inr (0, [.ref a3, .int (0 : Int32), .int (0 : Int32), .int (0 : Int32)])), (a3, .inl (cB, n3, .inl (g3)))]) C (hm_J5_putStringAt_47b60 (a0 := a0) (a1 := (q5 0)) (a2 := a2) (a3 := a3) (f0_3 := (z4.1)) (n3 := n3) (g3 := g3) (x1 := (z4.1)) (n1 := (z4.2.1)) (g1 := (z4.2.2)) (r_n1 := z8.1) (r_g2 := z8.2) C.2.2.2.2.2.2.2.2.1 hgz8) 2 rfl tcJ5_putStringAt_47b60 tlJ5_208 tiJ5_putStringAt_47b60 tsmJ5_putStringAt_47b60 (va_Decl.of (C.2.2.2.2.1 _ tiJ5_putStringAt_47b60) (C.2.2.2.2.1 _ tcJ5_putStringAt_47b60)) (g_selPriv (by decide) (C.2.2.2.2.1 _ tinst_J4) (va_Nw.use rfl ((vE_x C).2.2.2.2.2 _ (List.mem_of_getElem? (i := 3) rfl))) (C.2.2.2.2.1 _ tiJ5_putStringAt_47b60) (C.2.2.2.2.1 _ tsmJ5_putStringAt_47b60)) tnJ5 (by decide) tdJ5_putStringAt_47b60.2.2 ⟨Nat.le_of_ble_eq_true rfl, Nat.le_of_ble_eq_true rfl⟩ hz3 0 rfl rfl rfl (Nat.le_of_ble_eq_true rfl) dJ5_append_cf1ce_30 rfl) rfl (fun q9 => ?_)
  refine vi_w C (w' := [(a0, .inr (1, [.ref (q5 0), .int (0 : Int32), .int (0 : Int32), .int (z4.1)])), ((q5 0), .inl (cB, z8.1, .inl (z8.2))), (a2, .inr (0, [.ref a3, .int (0 : Int32), .int (0 : Int32), .int (0 : Int32)])), (a3, .inl (cB, n3, .inl (g3)))]) rfl ?_
  refine vi_kk (kc1 := kc6) (ks1 := ks7) rfl rfl ?_
  refine vi_aload_n C 1 dJ5_append_cf1ce_33 rfl ?_
  refine vi_dup C dJ5_append_cf1ce_34 rfl ?_
  refine vi_get (ref := "java/lang/AbstractStringBuilder") (v := .int (z4.1)) C 0 3 inJ4w rfl rfl (by decide) tfJ5_79 rfl rfl dJ5_append_cf1ce_35 ?_
  refine vi_iload_n C 0 dJ5_append_cf1ce_38 rfl ?_
  refine vi_iadd C dJ5_append_cf1ce_39 ?_
  obtain ⟨y10, ey10, h⟩ := ob_nm h
  refine vi_nmi ey10 ?_
  refine vi_put (ref := "java/lang/AbstractStringBuilder") (ty := tyJ4 3) (w' := [(a0, .inr (1, [.ref (q5 0), .int (0 : Int32), .int (0 : Int32), .int y10])), ((q5 0), .inl (cB, z8.1, .inl (z8.2))), (a2, .inr (0, [.ref a3, .int (0 : Int32), .int (0 : Int32), .int (0 : Int32)])), (a3, .inl (cB, n3, .inl (g3)))]) C 0 3 inJ4w tyJ4 tyJ4_ok nmJ4 rfl rfl (by decide) tfJ5_79 rfl rfl (tyJ4_ok 3 (by decide)) rfl rfl (by show 3 < 4; decide) rfl dJ5_append_cf1ce_40 ?_
  refine vi_aload_n C 1 dJ5_append_cf1ce_43 rfl ?_
  cases h
  exact RET (fun j => [(q5 0)].getD j 0) _ _ _ _ hz3 dJ5_append_cf1ce_44
theorem hm_J5_append_cf1ce {ad adK adV : Nat → Nat} {tS tF : Nat} {tX sK sV : Nat → Nat} (hE : vEok (vE ad adK adV tS tF tX sK sV)) {l : Launch} {D : va_G} {cI cF cC cS cO cB cZ : ClassId} {mc : Nat} {ms : Nat} {n3 : Nat} {g3 : Nat → Int32} {a0 : Nat} {a1 : Nat} {a2 : Nat} {a3 : Nat} {r_o1 : Int32} {r_n2 : Nat} {r_g3 : Nat → Int32} {f0_3 : Int32} {n1 : Nat} {g1 : Nat → Int32} (h : hf_J5_append_cf1ce mc ms n3 g3 f0_3 n1 g1 = some (r_o1, r_n2, r_g3)) : vG (vE ad adK adV tS tF tX sK sV) l yJ5_append_cf1ce cJ5_append_cf1ce 3 (some (FieldType.object "java/lang/AbstractStringBuilder")) 4 105 mc ms D (vT7 cI cF cC cS cO cB cZ) [.ref a0, .ref a2] [(a0, .inr (1, [.ref a1, .int (0 : Int32), .int (0 : Int32), .int f0_3])), (a1, .inl (cB, n1, .inl (g1))), (a2, .inr (0, [.ref a3, .int (0 : Int32), .int (0 : Int32), .int (0 : Int32)])), (a3, .inl (cB, n3, .inl (g3)))] (gQr D (fun q => [(a0, .inr (1, [.ref (q 0), .int (0 : Int32), .int (0 : Int32), .int r_o1])), ((q 0), .inl (cB, r_n2, .inl (r_g3))), (a2, .inr (0, [.ref a3, .int (0 : Int32), .int (0 : Int32), .int (0 : Int32)])), (a3, .inl (cB, n3, .inl (g3)))]) (fun q => a0)) :=
  vG_ofF hE (by decide +kernel) (Nat.le_of_ble_eq_true rfl) (fun p e s m args below meth c A C hr hin => hk_J5_append_cf1ce_e C (fun q kc ks pc lv hk hd => g_retr (WQ := (fun q => [(a0, .inr (1, [.ref (q 0), .int (0 : Int32), .int (0 : Int32), .int r_o1])), ((q 0), .inl (cB, r_n2, .inl (r_g3))), (a2, .inr (0, [.ref a3, .int (0 : Int32), .int (0 : Int32), .int (0 : Int32)])), (a3, .inl (cB, n3, .inl (g3)))])) (ra := fun q => a0) C hr (Or.inl ⟨_, rfl⟩) q rfl rfl hk hd) h)
