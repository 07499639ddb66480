-- ---- J5_isLatin1_aae02
def hf_J5_isLatin1_aae02 (f0_3 : Int32) (n1 : Nat) (g1 : Nat → Int32) : Option (Unit) := some ()
set_option maxRecDepth 100000 in
set_option maxHeartbeats 4000000 in
theorem hk_J5_isLatin1_aae02_e {ad adK adV : Nat → Nat} {tS tF : Nat} {tX sK sV : Nat → Nat} {p : Program} {l : Launch} {e : Env} {s : State} {m : MethodId} {args : Array Value} {below : List Frame} {meth : Method} {c : Code} {A : Nat → Prop} {D : va_G} {cI cF cC cS cO cB cZ : ClassId} {Q : State → Prop} {f0_3 : Int32} {n1 : Nat} {g1 : Nat → Int32} {a0 : Nat} {a1 : Nat} (C : vC (vE ad adK adV tS tF tX sK sV) p l s m args meth c A D (vT7 cI cF cC cS cO cB cZ) cJ5_isLatin1_aae02 1 RJ5) (RET : ∀ (q : Nat → Nat) (kc ks : Nat) (pc : Nat) (lv : List (Nat × Value)), True → decode cJ5_isLatin1_aae02 pc = .ok (.ireturn, 1) → vV p l e { frames := 0, cells := 0, slots := 0, locals := 0 } s m args below meth c A D 1 0 0 Q [(a0, .inr (1, [.ref a1, .int (0 : Int32), .int (0 : Int32), .int f0_3])), (a1, .inl (cB, n1, .inl (g1)))] pc lv [.int (1 : Int32)]) (h : hf_J5_isLatin1_aae02 f0_3 n1 g1 = some ()) : vV p l e { frames := 0, cells := 0, slots := 0, locals := 0 } s m args below meth c A D 1 0 0 Q [(a0, .inr (1, [.ref a1, .int (0 : Int32), .int (0 : Int32), .int f0_3])), (a1, .inl (cB, n1, .inl (g1)))] 0 [(0, .ref a0)] [] := by
  rw [hf_J5_isLatin1_aae02] at h
  refine vi_getCo C tfJ5_18 dJ5_isLatin1_aae02_0 ?_
  refine vi_if_eq (tgt := 17) C dJ5_isLatin1_aae02_3 (by decide) (fun hc => absurd hc (by decide)) (fun _ => ?_)
  refine vi_aload_n C 0 dJ5_isLatin1_aae02_6 rfl ?_
  refine vi_get (ref := "java/lang/AbstractStringBuilder") (v := .int (0 : Int32)) C 0 1 inJ4w rfl rfl (by decide) tfJ5_22 rfl rfl dJ5_isLatin1_aae02_7 ?_
  refine vi_if_ne (tgt := 17) C dJ5_isLatin1_aae02_10 (by decide) (fun hc => absurd (by decide) hc) (fun _ => ?_)
  refine vi_iconst (v := 1) C dJ5_isLatin1_aae02_13 (by decide) ?_
  refine vi_goto (tgt := 18) C dJ5_isLatin1_aae02_14 (by decide) ?_
  cases h
  exact RET (fun j => [].getD j 0) 0 0 _ _ trivial dJ5_isLatin1_aae02_18
theorem hm_J5_isLatin1_aae02 {ad adK adV : Nat → Nat} {tS tF : Nat} {tX sK sV : Nat → Nat} (hE : vEok (vE ad adK adV tS tF tX sK sV)) {l : Launch} {D : va_G} {cI cF cC cS cO cB cZ : ClassId} {f0_3 : Int32} {n1 : Nat} {g1 : Nat → Int32} {a0 : Nat} {a1 : Nat} (h : hf_J5_isLatin1_aae02 f0_3 n1 g1 = some ()) : vG (vE ad adK adV tS tF tX sK sV) l yJ5_isLatin1_aae02 cJ5_isLatin1_aae02 1 (some .boolean) 0 0 0 0 D (vT7 cI cF cC cS cO cB cZ) [.ref a0] [(a0, .inr (1, [.ref a1, .int (0 : Int32), .int (0 : Int32), .int f0_3])), (a1, .inl (cB, n1, .inl (g1)))] (gQi D (fun q => [(a0, .inr (1, [.ref a1, .int (0 : Int32), .int (0 : Int32), .int f0_3])), (a1, .inl (cB, n1, .inl (g1)))]) (1 : Int32)) :=
  vG_ofF hE (by decide +kernel) (Nat.le_of_ble_eq_true rfl) (fun p e s m args below meth c A C hr hin => hk_J5_isLatin1_aae02_e C (fun q kc ks pc lv hk hd => g_reti (WQ := (fun q => [(a0, .inr (1, [.ref a1, .int (0 : Int32), .int (0 : Int32), .int f0_3])), (a1, .inl (cB, n1, .inl (g1)))])) C hr rfl q rfl ⟨Nat.le_refl 0, Nat.le_refl 0⟩ hd) h)
-- ---- J8_newLength_cabcc
def hf_J8_newLength_cabcc (x0 : Int32) (x1 : Int32) (x2 : Int32) : Option (Int32) := (fJ9_max_7cf53 x1 x2).bind fun y1 => bd ((x0 + y1 : Int32)) fun y2 => (if y2 ≤ (0 : Int32) then none else (if (2147483639 : Int32) < y2 then none else some (y2)))
set_option maxRecDepth 100000 in
set_option maxHeartbeats 4000000 in
theorem hk_J8_newLength_cabcc_e {ad adK adV : Nat → Nat} {tS tF : Nat} {tX sK sV : Nat → Nat} {p : Program} {l : Launch} {e : Env} {s : State} {m : MethodId} {args : Array Value} {below : List Frame} {meth : Method} {c : Code} {A : Nat → Prop} {D : va_G} {cI cF cC cS cO cB cZ : ClassId} {Q : State → Prop} (C : vC (vE ad adK adV tS tF tX sK sV) p l s m args meth c A D (vT7 cI cF cC cS cO cB cZ) cJ8_newLength_cabcc 4 RJ8) {r0 : Int32} (RET : ∀ (q : Nat → Nat) (kc ks : Nat) (pc : Nat) (lv : List (Nat × Value)), True → decode cJ8_newLength_cabcc pc = .ok (.ireturn, 1) → vV p l e { frames := 1, cells := 0, slots := 0, locals := 21 } s m args below meth c A D 4 0 0 Q [] pc lv [.int r0]) {x0 : Int32} {x1 : Int32} {x2 : Int32} (h : hf_J8_newLength_cabcc x0 x1 x2 = some (r0)) : vV p l e { frames := 1, cells := 0, slots := 0, locals := 21 } s m args below meth c A D 4 0 0 Q [] 0 [(0, .int x0), (1, .int x1), (2, .int x2)] [] := by
  rw [hf_J8_newLength_cabcc] at h
  refine vi_iload_n C 0 dJ8_newLength_cabcc_0 rfl ?_
  refine vi_iload_n C 1 dJ8_newLength_cabcc_1 rfl ?_
  refine vi_iload_n C 2 dJ8_newLength_cabcc_2 rfl ?_
  obtain ⟨y1, hgy1, h⟩ := ob_bd h
  refine vi_callS1i (As := [.int x1, .int x2]) (rest := [.int x0]) C (mJ9_max_7cf53 C.2.2.2.2.2.2.2.2.1 hgy1) 2 rfl tcJ9_max_7cf53 tlJ8_194 ttJ9_max_7cf53 tnJ9 tdJ9_max_7cf53 ⟨Nat.le_of_ble_eq_true rfl, Nat.le_of_ble_eq_true rfl⟩ ⟨Nat.le_refl 0, Nat.le_refl 0⟩ rfl (Nat.le_of_ble_eq_true rfl) dJ8_newLength_cabcc_3 ?_
  refine vi_iadd C dJ8_newLength_cabcc_6 ?_
  obtain ⟨y2, ey2, h⟩ := ob_nm h
  refine vi_nmi ey2 ?_
  refine vi_istore_n (lv' := [(3, .int y2), (0, .int x0), (1, .int x1), (2, .int x2)]) C dJ8_newLength_cabcc_7 rfl (by decide) rfl ?_
  refine vi_iconst (v := 0) C dJ8_newLength_cabcc_8 (by decide) ?_
  refine vi_iload_n C 0 dJ8_newLength_cabcc_9 rfl ?_
  refine vi_icmp_ge (tgt := 21) C dJ8_newLength_cabcc_10 (by decide) (fun hc3 => ?_) (fun hc3 => ?_)
  · have h := ob_t h hc3
    refine vi_iload_n C 1 dJ8_newLength_cabcc_21 rfl ?_
    refine vi_iload_n C 2 dJ8_newLength_cabcc_22 rfl ?_
    cases h
  · have h := ob_f h hc3
    refine vi_iload_n C 0 dJ8_newLength_cabcc_13 rfl ?_
    refine vi_ldc (v := 2147483639) C dJ8_newLength_cabcc_14 tkJ8_200 ?_
    refine vi_icmp_gt (tgt := 21) C dJ8_newLength_cabcc_16 (by decide) (fun hc4 => ?_) (fun hc4 => ?_)
    · have h := ob_t h hc4
      refine vi_iload_n C 1 dJ8_newLength_cabcc_21 rfl ?_
      refine vi_iload_n C 2 dJ8_newLength_cabcc_22 rfl ?_
      cases h
    · have h := ob_f h hc4
      refine vi_iload_n C 0 dJ8_newLength_cabcc_19 rfl ?_
      cases h
      exact RET (fun j => [].getD j 0) 0 0 _ _ trivial dJ8_newLength_cabcc_20
theorem hm_J8_newLength_cabcc {ad adK adV : Nat → Nat} {tS tF : Nat} {tX sK sV : Nat → Nat} (hE : vEok (vE ad adK adV tS tF tX sK sV)) {l : Launch} {D : va_G} {cI cF cC cS cO cB cZ : ClassId} {r0 : Int32} {x0 : Int32} {x1 : Int32} {x2 : Int32} (h : hf_J8_newLength_cabcc x0 x1 x2 = some (r0)) : vG (vE ad adK adV tS tF tX sK sV) l yJ8_newLength_cabcc cJ8_newLength_cabcc 4 (some .int) 1 21 0 0 D (vT7 cI cF cC cS cO cB cZ) [.int x0, .int x1, .int x2] [] (gQi D (fun q => []) r0) :=
  vG_ofF hE (by decide +kernel) (Nat.le_of_ble_eq_true rfl) (fun p e s m args below meth c A C hr hin => hk_J8_newLength_cabcc_e C (fun q kc ks pc lv hk hd => g_reti (WQ := (fun q => [])) C hr rfl q rfl ⟨Nat.le_refl 0, Nat.le_refl 0⟩ hd) h)
-- ---- J5_newCapacity_0f7a4
def hf_J5_newCapacity_0f7a4 (f0_3 : Int32) (n1 : Nat) (g1 : Nat → Int32) (x1 : Int32) : Option (Int32) := bd ((Int32.ofNat n1 : Int32)) fun y1 => bd ((x1 <<< ((0 : Int32) &&& 31) : Int32)) fun y2 => bd ((y2 - y1 : Int32)) fun y3 => (hf_J8_newLength_cabcc y1 y3 (y1 + ((2 : Int32) <<< ((0 : Int32) &&& 31)))).bind fun z4 => (if z4 = (2147483647 : Int32) then none else some (z4 >>> ((0 : Int32) &&& 31)))
set_option maxRecDepth 100000 in
set_option maxHeartbeats 4000000 in
theorem hk_J5_newCapacity_0f7a4_e {ad adK adV : Nat → Nat} {tS tF : Nat} {tX sK sV : Nat → Nat} {p : Program} {l : Launch} {e : Env} {s : State} {m : MethodId} {args : Array Value} {below : List Frame} {meth : Method} {c : Code} {A : Nat → Prop} {D : va_G} {cI cF cC cS cO cB cZ : ClassId} {Q : State → Prop} {f0_3 : Int32} {n1 : Nat} {g1 : Nat → Int32} {a0 : Nat} {a1 : Nat} (C : vC (vE ad adK adV tS tF tX sK sV) p l s m args meth c A D (vT7 cI cF cC cS cO cB cZ) cJ5_newCapacity_0f7a4 6 RJ5) {r0 : Int32} (RET : ∀ (q : Nat → Nat) (kc ks : Nat) (pc : Nat) (lv : List (Nat × Value)), True → decode cJ5_newCapacity_0f7a4 pc = .ok (.ireturn, 1) → vV p l e { frames := 2, cells := 0, slots := 0, locals := 44 } s m args below meth c A D 6 0 0 Q [(a0, .inr (1, [.ref a1, .int (0 : Int32), .int (0 : Int32), .int f0_3])), (a1, .inl (cB, n1, .inl (g1)))] pc lv [.int r0]) {x1 : Int32} (h : hf_J5_newCapacity_0f7a4 f0_3 n1 g1 x1 = some (r0)) : vV p l e { frames := 2, cells := 0, slots := 0, locals := 44 } s m args below meth c A D 6 0 0 Q [(a0, .inr (1, [.ref a1, .int (0 : Int32), .int (0 : Int32), .int f0_3])), (a1, .inl (cB, n1, .inl (g1)))] 0 [(0, .ref a0), (1, .int x1)] [] := by
  rw [hf_J5_newCapacity_0f7a4] at h
  refine vi_aload_n C 0 dJ5_newCapacity_0f7a4_0 rfl ?_
  refine vi_get (ref := "java/lang/AbstractStringBuilder") (v := .ref a1) C 0 0 inJ4w rfl rfl (by decide) tfJ5_15 rfl rfl dJ5_newCapacity_0f7a4_1 ?_
  refine vi_alen (v := Int32.ofNat n1) C 1 5 rfl rfl rfl dJ5_newCapacity_0f7a4_4 ?_
  obtain ⟨y1, ey1, h⟩ := ob_nm h
  refine vi_nmi ey1 ?_
  refine vi_istore_n (lv' := [(2, .int y1), (0, .ref a0), (1, .int x1)]) C dJ5_newCapacity_0f7a4_5 rfl (by decide) rfl ?_
  refine vi_iload_n C 2 dJ5_newCapacity_0f7a4_6 rfl ?_
  refine vi_aload_n C 1 dJ5_newCapacity_0f7a4_7 rfl ?_
  refine vi_get (ref := "java/lang/AbstractStringBuilder") (v := .int (0 : Int32)) C 0 1 inJ4w rfl rfl (by decide) tfJ5_22 rfl rfl dJ5_newCapacity_0f7a4_8 ?_
  refine vi_ishl C dJ5_newCapacity_0f7a4_11 ?_
  obtain ⟨y2, ey2, h⟩ := ob_nm h
  refine vi_nmi ey2 ?_
  refine vi_istore_n (lv' := [(3, .int y2), (2, .int y1), (0, .ref a0), (1, .int x1)]) C dJ5_newCapacity_0f7a4_12 rfl (by decide) rfl ?_
  refine vi_iload_n C 0 dJ5_newCapacity_0f7a4_13 rfl ?_
  refine vi_iload_n C 1 dJ5_newCapacity_0f7a4_14 rfl ?_
  refine vi_isub C dJ5_newCapacity_0f7a4_15 ?_
  obtain ⟨y3, ey3, h⟩ := ob_nm h
  refine vi_nmi ey3 ?_
  refine vi_istore (lv' := [(4, .int y3), (3, .int y2), (2, .int y1), (0, .ref a0), (1, .int x1)]) C dJ5_newCapacity_0f7a4_16 (by decide) rfl ?_
  refine vi_iload_n C 2 dJ5_newCapacity_0f7a4_18 rfl ?_
  refine vi_iload C 0 dJ5_newCapacity_0f7a4_19 rfl ?_
  refine vi_iload_n C 2 dJ5_newCapacity_0f7a4_21 rfl ?_
  refine vi_iconst (v := 2) C dJ5_newCapacity_0f7a4_22 (by decide) ?_
  refine vi_aload_n C 3 dJ5_newCapacity_0f7a4_23 rfl ?_
  refine vi_get (ref := "java/lang/AbstractStringBuilder") (v := .int (0 : Int32)) C 0 1 inJ4w rfl rfl (by decide) tfJ5_22 rfl rfl dJ5_newCapacity_0f7a4_24 ?_
  refine vi_ishl C dJ5_newCapacity_0f7a4_27 ?_
  refine vi_iadd C dJ5_newCapacity_0f7a4_28 ?_
  obtain ⟨z4, hgz4, h⟩ := ob_bd h
  refine vi_w C (w' := [(a0, .inr (1, [.ref a1, .int (0 : Int32), .int (0 : Int32), .int f0_3])), (a1, .inl (cB, n1, .inl (g1)))] ++ []) rfl ?_
  refine g_ci C (g_runS (As := [.int y1, .int y3, .int (y1 + ((2 : Int32) <<< ((0 : Int32) &&& 31)))]) (rest := []) (w1 := [(a0, .inr (1, [.ref a1, .int (0 : Int32), .int (0 : Int32), .int f0_3])), (a1, .inl (cB, n1, .inl (g1)))]) (wc := []) C (hm_J8_newLength_cabcc  (x0 := y1) (x1 := y3) (x2 := (y1 + ((2 : Int32) <<< ((0 : Int32) &&& 31)))) (r0 := z4) C.2.2.2.2.2.2.2.2.1 hgz4) 3 rfl tcJ8_newLength_cabcc tlJ5_114 ttJ8_newLength_cabcc tnJ8 tdJ8_newLength_cabcc ⟨Nat.le_of_ble_eq_true rfl, Nat.le_of_ble_eq_true rfl⟩ ⟨Nat.le_refl 0, Nat.le_refl 0⟩ rfl (Nat.le_of_ble_eq_true rfl) dJ5_newCapacity_0f7a4_29 rfl) rfl (fun q5 => ?_)
  refine vi_w C (w' := [(a0, .inr (1, [.ref a1, .int (0 : Int32), .int (0 : Int32), .int f0_3])), (a1, .inl (cB, n1, .inl (g1)))]) rfl ?_
  refine vi_kk (kc1 := 0) (ks1 := 0) rfl rfl ?_
  refine vi_istore (lv' := [(5, .int z4), (4, .int y3), (3, .int y2), (2, .int y1), (0, .ref a0), (1, .int x1)]) C dJ5_newCapacity_0f7a4_32 (by decide) rfl ?_
  refine vi_iload C 0 dJ5_newCapacity_0f7a4_34 rfl ?_
  refine vi_ldc (v := 2147483647) C dJ5_newCapacity_0f7a4_36 tkJ5_39 ?_
  refine vi_icmp_ne (tgt := 51) C dJ5_newCapacity_0f7a4_38 (by decide) (fun hc6 => ?_) (fun hc6 => ?_)
  · have h := ob_f h hc6
    refine vi_iload C 0 dJ5_newCapacity_0f7a4_51 rfl ?_
    refine vi_aload_n C 4 dJ5_newCapacity_0f7a4_53 rfl ?_
    refine vi_get (ref := "java/lang/AbstractStringBuilder") (v := .int (0 : Int32)) C 0 1 inJ4w rfl rfl (by decide) tfJ5_22 rfl rfl dJ5_newCapacity_0f7a4_54 ?_
    refine vi_ishr C dJ5_newCapacity_0f7a4_57 ?_
    cases h
    exact RET (fun j => [].getD j 0) 0 0 _ _ trivial dJ5_newCapacity_0f7a4_58
  · have h := ob_t h hc6
    cases h
theorem hm_J5_newCapacity_0f7a4 {ad adK adV : Nat → Nat} {tS tF : Nat} {tX sK sV : Nat → Nat} (hE : vEok (vE ad adK adV tS tF tX sK sV)) {l : Launch} {D : va_G} {cI cF cC cS cO cB cZ : ClassId} {f0_3 : Int32} {n1 : Nat} {g1 : Nat → Int32} {a0 : Nat} {a1 : Nat} {r0 : Int32} {x1 : Int32} (h : hf_J5_newCapacity_0f7a4 f0_3 n1 g1 x1 = some (r0)) : vG (vE ad adK adV tS tF tX sK sV) l yJ5_newCapacity_0f7a4 cJ5_newCapacity_0f7a4 6 (some .int) 2 44 0 0 D (vT7 cI cF cC cS cO cB cZ) [.ref a0, .int x1] [(a0, .inr (1, [.ref a1, .int (0 : Int32), .int (0 : Int32), .int f0_3])), (a1, .inl (cB, n1, .inl (g1)))] (gQi D (fun q => [(a0, .inr (1, [.ref a1, .int (0 : Int32), .int (0 : Int32), .int f0_3])), (a1, .inl (cB, n1, .inl (g1)))]) r0) :=
  vG_ofF hE (by decide +kernel) (Nat.le_of_ble_eq_true rfl) (fun p e s m args below meth c A C hr hin => hk_J5_newCapacity_0f7a4_e C (fun q kc ks pc lv hk hd => g_reti (WQ := (fun q => [(a0, .inr (1, [.ref a1, .int (0 : Int32), .int (0 : Int32), .int f0_3])), (a1, .inl (cB, n1, .inl (g1)))])) C hr rfl q rfl ⟨Nat.le_refl 0, Nat.le_refl 0⟩ hd) h)
-- ---- J7_copyOf_9075b
def hf_J7_copyOf_9075b (mc : Nat) (ms : Nat) (n0 : Nat) (g0 : Nat → Int32) (x1 : Int32) : Option (Nat × (Nat → Int32)) := (if x1 = Int32.ofNat n0 then if ∀ i : Nat, i < n0 → fits .byte (.int (g0 i)) = true then if 0 + 1 ≤ mc ∧ 0 + n0 ≤ ms then bd (0 + 1) fun kc14 => bd (0 + n0) fun ks15 => some (n0, g0) else none else none else if x1 < 0 ∨ 100000 < (Int32.toNatClampNeg x1) then none else if 0 + 1 ≤ mc ∧ 0 + (Int32.toNatClampNeg x1) ≤ ms then bd ((Int32.toNatClampNeg x1)) fun n4 => bd (0 + 1) fun kc6 => bd (0 + n4) fun ks7 => (fJ9_min_7cf53 (Int32.ofNat n0) x1).bind fun y8 => if (¬ (0 : Int32) < 0 ∧ ¬ (0 : Int32) < 0 ∧ ¬ y8 < 0) ∧ Int32.toNatClampNeg (0 : Int32) + Int32.toNatClampNeg y8 ≤ n0 ∧ Int32.toNatClampNeg (0 : Int32) + Int32.toNatClampNeg y8 ≤ n4 ∧ ∀ i : Nat, i < Int32.toNatClampNeg y8 → fits .byte (.int (g0 (Int32.toNatClampNeg (0 : Int32) + i))) = true then bd ((va_cpy g0 (fun _ => 0) (Int32.toNatClampNeg (0 : Int32)) (Int32.toNatClampNeg (0 : Int32)) (Int32.toNatClampNeg y8) : Nat → Int32)) fun g10 => some (n4, g10) else none else none)
set_option maxRecDepth 100000 in
set_option maxHeartbeats 4000000 in
theorem hk_J7_copyOf_9075b_e {ad adK adV : Nat → Nat} {tS tF : Nat} {tX sK sV : Nat → Nat} {p : Program} {l : Launch} {e : Env} {s : State} {m : MethodId} {args : Array Value} {below : List Frame} {meth : Method} {c : Code} {A : Nat → Prop} {D : va_G} {cI cF cC cS cO cB cZ : ClassId} {Q : State → Prop} {mc : Nat} {ms : Nat} {n0 : Nat} {g0 : Nat → Int32} {a0 : Nat} (C : vC (vE ad adK adV tS tF tX sK sV) p l s m args meth c A D (vT7 cI cF cC cS cO cB cZ) cJ7_copyOf_9075b 3 RJ7) {r_n1 : Nat} {r_g2 : Nat → Int32} (RET : ∀ (q : Nat → Nat) (kc ks : Nat) (pc : Nat) (lv : List (Nat × Value)), (kc ≤ mc ∧ ks ≤ ms) → decode cJ7_copyOf_9075b pc = .ok (.areturn, 1) → vV p l e { frames := 1, cells := mc, slots := ms, locals := 60 } s m args below meth c A D 3 kc ks Q [(a0, .inl (cB, n0, .inl (g0))), ((q 0), .inl (cB, r_n1, .inl (r_g2)))] pc lv [.ref (q 0)]) {x1 : Int32} (h : hf_J7_copyOf_9075b mc ms n0 g0 x1 = some (r_n1, r_g2)) : vV p l e { frames := 1, cells := mc, slots := ms, locals := 60 } s m args below meth c A D 3 (0) (0) Q [(a0, .inl (cB, n0, .inl (g0)))] 0 [(0, .ref a0), (1, .int x1)] [] := by
  rw [hf_J7_copyOf_9075b] at h
  refine vi_iload_n C 1 dJ7_copyOf_9075b_0 rfl ?_
  refine vi_aload_n C 0 dJ7_copyOf_9075b_1 rfl ?_
  refine vi_alen (v := Int32.ofNat n0) C 0 5 rfl rfl rfl dJ7_copyOf_9075b_2 ?_
  refine vi_icmp_ne (tgt := 14) C dJ7_copyOf_9075b_3 (by decide) (fun hc1 => ?_) (fun hc1 => ?_)
  · have h := ob_f h hc1
    refine vi_iload_n C 1 dJ7_copyOf_9075b_14 rfl ?_
    obtain ⟨hz2, h⟩ := ob_if h
    obtain ⟨hz3, h⟩ := ob_ok h
    obtain ⟨n4, en4, h⟩ := ob_nm h
    rw [← en4] at hz3
    refine vi_newa (atype := .byte) (ty := .byte) (cA := cB) (N := n4) (a0 := (n4, .inl (fun _ => 0))) C 5 tac_byte rfl rfl (fun _ => rfl) (fun z => hz2 (Or.inl z)) en4.symm (by rw [en4]; exact (gle8 hz2)) hz3.1 hz3.2 dJ7_copyOf_9075b_15 (fun a5 => ?_)
    refine vi_w C (w' := [(a0, .inl (cB, n0, .inl (g0))), (a5, .inl (cB, n4, .inl (fun _ => 0)))]) rfl ?_
    obtain ⟨kc6, ekc6, h⟩ := ob_nm h
    obtain ⟨ks7, eks7, h⟩ := ob_nm h
    refine vi_kk ekc6.symm eks7.symm ?_
    rw [← ekc6, ← eks7] at hz3
    refine vi_astore_n (lv' := [(2, .ref a5), (0, .ref a0), (1, .int x1)]) C dJ7_copyOf_9075b_17 rfl (by decide) rfl ?_
    refine vi_aload_n C 1 dJ7_copyOf_9075b_18 rfl ?_
    refine vi_iconst (v := 0) C dJ7_copyOf_9075b_19 (by decide) ?_
    refine vi_aload_n C 0 dJ7_copyOf_9075b_20 rfl ?_
    refine vi_iconst (v := 0) C dJ7_copyOf_9075b_21 (by decide) ?_
    refine vi_aload_n C 1 dJ7_copyOf_9075b_22 rfl ?_
    refine vi_alen (v := Int32.ofNat n0) C 0 5 rfl rfl rfl dJ7_copyOf_9075b_23 ?_
    refine vi_iload_n C 2 dJ7_copyOf_9075b_24 rfl ?_
    obtain ⟨y8, hgy8, h⟩ := ob_bd h
    refine vi_callS1i (As := [.int (Int32.ofNat n0), .int x1]) (rest := [.int (0 : Int32), .ref a5, .int (0 : Int32), .ref a0]) C (mJ9_min_7cf53 C.2.2.2.2.2.2.2.2.1 hgy8) 2 rfl tcJ9_min_7cf53 tlJ7_304 ttJ9_min_7cf53 tnJ9 tdJ9_min_7cf53 ⟨Nat.le_of_ble_eq_true rfl, Nat.le_of_ble_eq_true rfl⟩ hz3 rfl (Nat.le_of_ble_eq_true rfl) dJ7_copyOf_9075b_25 ?_
    obtain ⟨hz9, h⟩ := ob_ok h
    obtain ⟨g10, eg10, h⟩ := ob_nm h
    refine vi_copyB (f := g0) (w2 := [(a0, .inl (cB, n0, .inl (g0))), (a5, .inl (cB, n4, .inl (g10)))]) C 0 1 5 tlJ7_150 tcpnat tcpstat tcpini rfl rfl rfl hz9 (by rw [eg10]; rfl) (Nat.le_of_ble_eq_true rfl) (Nat.le_of_ble_eq_true rfl) dJ7_copyOf_9075b_28 ?_
    refine vi_aload_n C 0 dJ7_copyOf_9075b_31 rfl ?_
    cases h
    exact RET (fun j => [a5].getD j 0) _ _ _ _ hz3 dJ7_copyOf_9075b_32
  · have h := ob_t h hc1
    refine vi_aload_n C 0 dJ7_copyOf_9075b_6 rfl ?_
    obtain ⟨hz11, h⟩ := ob_ok h
    obtain ⟨hz12, h⟩ := ob_ok h
    refine vi_cloneB C 0 5 tlJ7_310 tclsame tclnat tclinst tclsel (vE_x C).2.2.2.2.1 rfl rfl (C.2.2.2.2.2.1.2 5 _ rfl).2 hz11 (Nat.le_of_ble_eq_true rfl) (Nat.le_of_ble_eq_true rfl) hz12.1 hz12.2 dJ7_copyOf_9075b_7 (fun a13 => ?_)
    refine vi_w C (w' := [(a0, .inl (cB, n0, .inl (g0))), (a13, .inl (cB, n0, .inl (g0)))]) rfl ?_
    obtain ⟨kc14, ekc14, h⟩ := ob_nm h
    obtain ⟨ks15, eks15, h⟩ := ob_nm h
    refine vi_kk ekc14.symm eks15.symm ?_
    rw [← ekc14, ← eks15] at hz12
    refine vi_castA (nm := "[B") C 1 tlcJ7_311 rfl (C.2.2.2.2.2.1.2 5 _ rfl).2 dJ7_copyOf_9075b_10 ?_
    cases h
    exact RET (fun j => [a13].getD j 0) _ _ _ _ hz12 dJ7_copyOf_9075b_13
theorem hm_J7_copyOf_9075b {ad adK adV : Nat → Nat} {tS tF : Nat} {tX sK sV : Nat → Nat} (hE : vEok (vE ad adK adV tS tF tX sK sV)) {l : Launch} {D : va_G} {cI cF cC cS cO cB cZ : ClassId} {mc : Nat} {ms : Nat} {n0 : Nat} {g0 : Nat → Int32} {a0 : Nat} {r_n1 : Nat} {r_g2 : Nat → Int32} {x1 : Int32} (h : hf_J7_copyOf_9075b mc ms n0 g0 x1 = some (r_n1, r_g2)) : vG (vE ad adK adV tS tF tX sK sV) l yJ7_copyOf_9075b cJ7_copyOf_9075b 3 (some (FieldType.array FieldType.byte)) 1 60 mc ms D (vT7 cI cF cC cS cO cB cZ) [.ref a0, .int x1] [(a0, .inl (cB, n0, .inl (g0)))] (gQr D (fun q => [(a0, .inl (cB, n0, .inl (g0))), ((q 0), .inl (cB, r_n1, .inl (r_g2)))]) (fun q => (q 0))) :=
  vG_ofF hE (by decide +kernel) (Nat.le_of_ble_eq_true rfl) (fun p e s m args below meth c A C hr hin => hk_J7_copyOf_9075b_e C (fun q kc ks pc lv hk hd => g_retr (WQ := (fun q => [(a0, .inl (cB, n0, .inl (g0))), ((q 0), .inl (cB, r_n1, .inl (r_g2)))])) (ra := fun q => (q 0)) C hr (Or.inr ⟨_, rfl⟩) q rfl rfl hk hd) h)
-- ---- J5_ensureCapacityInternal_d00df
def hf_J5_ensureCapacityInternal_d00df (mc : Nat) (ms : Nat) (x1 : Int32) (f0_3 : Int32) (n1 : Nat) (g1 : Nat → Int32) : Option (Int32 × Nat × (Nat → Int32)) := bd (((Int32.ofNat n1) >>> ((0 : Int32) &&& 31) : Int32)) fun y1 => (if x1 - y1 ≤ 0 then some (f0_3, n1, g1) else (hf_J5_newCapacity_0f7a4 f0_3 n1 g1 x1).bind fun z3 => if 0 + (1) ≤ mc ∧ 0 + (Int32.toNatClampNeg (z3 <<< ((0 : Int32) &&& 31))) ≤ ms then (hf_J7_copyOf_9075b (1) (Int32.toNatClampNeg (z3 <<< ((0 : Int32) &&& 31))) n1 g1 (z3 <<< ((0 : Int32) &&& 31))).bind fun z6 => bd (0 + (1)) fun kc8 => bd (0 + (Int32.toNatClampNeg (z3 <<< ((0 : Int32) &&& 31)))) fun ks9 => some (f0_3, z6.1, z6.2) else none)
set_option maxRecDepth 100000 in
set_option maxHeartbeats 4000000 in
theorem hk_J5_ensureCapacityInternal_d00df_e {ad adK adV : Nat → Nat} {tS tF : Nat} {tX sK sV : Nat → Nat} {p : Program} {l : Launch} {e : Env} {s : State} {m : MethodId} {args : Array Value} {below : List Frame} {meth : Method} {c : Code} {A : Nat → Prop} {D : va_G} {cI cF cC cS cO cB cZ : ClassId} {Q : State → Prop} {mc : Nat} {ms : Nat} {a0 : Nat} {a1 : Nat} (C : vC (vE ad adK adV tS tF tX sK sV) p l s m args meth c A D (vT7 cI cF cC cS cO cB cZ) cJ5_ensureCapacityInternal_d00df 3 RJ5) {r_o1 : Int32} {r_n2 : Nat} {r_g3 : Nat → Int32} (RET : ∀ (q : Nat → Nat) (kc ks : Nat) (pc : Nat) (lv : List (Nat × Value)), (kc ≤ mc ∧ ks ≤ ms) → decode cJ5_ensureCapacityInternal_d00df pc = .ok (.return_, 1) → vV p l e { frames := 3, cells := mc, slots := ms, locals := 82 } s m args below meth c A D 3 kc ks Q [(a0, .inr (1, [.ref (q 0), .int (0 : Int32), .int (0 : Int32), .int r_o1])), ((q 0), .inl (cB, r_n2, .inl (r_g3)))] pc lv []) {x1 : Int32} {f0_3 : Int32} {n1 : Nat} {g1 : Nat → Int32} (h : hf_J5_ensureCapacityInternal_d00df mc ms x1 f0_3 n1 g1 = some (r_o1, r_n2, r_g3)) : vV p l e { frames := 3, cells := mc, slots := ms, locals := 82 } s m args below meth c A D 3 (0) (0) Q [(a0, .inr (1, [.ref a1, .int (0 : Int32), .int (0 : Int32), .int f0_3])), (a1, .inl (cB, n1, .inl (g1)))] 0 [(0, .ref a0), (1, .int x1)] [] := by
  rw [hf_J5_ensureCapacityInternal_d00df] at h
  refine vi_aload_n C 0 dJ5_ensureCapacityInternal_d00df_0 rfl ?_
  refine vi_get (ref := "java/lang/AbstractStringBuilder") (v := .ref a1) C 0 0 inJ4w rfl rfl (by decide) tfJ5_15 rfl rfl dJ5_ensureCapacityInternal_d00df_1 ?_
  refine vi_alen (v := Int32.ofNat n1) C 1 5 rfl rfl rfl dJ5_ensureCapacityInternal_d00df_4 ?_
  refine vi_aload_n C 0 dJ5_ensureCapacityInternal_d00df_5 rfl ?_
  refine vi_get (ref := "java/lang/AbstractStringBuilder") (v := .int (0 : Int32)) C 0 1 inJ4w rfl rfl (by decide) tfJ5_22 rfl rfl dJ5_ensureCapacityInternal_d00df_6 ?_
  refine vi_ishr C dJ5_ensureCapacityInternal_d00df_9 ?_
  obtain ⟨y1, ey1, h⟩ := ob_nm h
  refine vi_nmi ey1 ?_
  refine vi_istore_n (lv' := [(2, .int y1), (0, .ref a0), (1, .int x1)]) C dJ5_ensureCapacityInternal_d00df_10 rfl (by decide) rfl ?_
  refine vi_iload_n C 2 dJ5_ensureCapacityInternal_d00df_11 rfl ?_
  refine vi_iload_n C 0 dJ5_ensureCapacityInternal_d00df_12 rfl ?_
  refine vi_isub C dJ5_ensureCapacityInternal_d00df_13 ?_
  refine vi_if_le (tgt := 38) C dJ5_ensureCapacityInternal_d00df_14 (by decide) (fun hc2 => ?_) (fun hc2 => ?_)
  · have h := ob_t h hc2
    cases h
    exact RET (fun j => [a1].getD j 0) _ _ _ _ ⟨Nat.zero_le _, Nat.zero_le _⟩ dJ5_ensureCapacityInternal_d00df_38
  · have h := ob_f h hc2
    refine vi_aload_n C 1 dJ5_ensureCapacityInternal_d00df_17 rfl ?_
    refine vi_aload_n C 1 dJ5_ensureCapacityInternal_d00df_18 rfl ?_
    refine vi_get (ref := "java/lang/AbstractStringBuilder") (v := .ref a1) C 0 0 inJ4w rfl rfl (by decide) tfJ5_15 rfl rfl dJ5_ensureCapacityInternal_d00df_19 ?_
    refine vi_aload_n C 1 dJ5_ensureCapacityInternal_d00df_22 rfl ?_
    refine vi_iload_n C 2 dJ5_ensureCapacityInternal_d00df_23 rfl ?_
    obtain ⟨z3, hgz3, h⟩ := ob_bd h
    refine vi_w C (w' := [] ++ [(a0, .inr (1, [.ref a1, .int (0 : Int32), .int (0 : Int32), .int f0_3])), (a1, .inl (cB, n1, .inl (g1)))]) rfl ?_
    refine g_ci C (g_runU (x := yJ5_newCapacity_0f7a4) (owner := RJ5) (Cn := RJ4) (T := TJ4) (N := 4) (ci := 1) (fs := [.ref a1, .int (0 : Int32), .int (0 : Int32), .int f0_3]) (As := [.int x1]) (rest := [.ref a1, .ref a0]) (w1 := []) (wc := [(a0, .inr (1, [.ref a1, .int (0 : Int32), .int (0 : Int32), .int f0_3])), (a1, .inl (cB, n1, .inl (g1)))]) C (hm_J5_newCapacity_0f7a4 (a0 := a0) (a1 := a1) (f0_3 := f0_3) (n1 := n1) (g1 := g1) (x1 := x1) (r0 := z3) C.2.2.2.2.2.2.2.2.1 hgz3) 1 rfl tcJ5_newCapacity_0f7a4 tlJ5_104 tiJ5_newCapacity_0f7a4 tsmJ5_newCapacity_0f7a4 (va_Decl.of (C.2.2.2.2.1 _ tiJ5_newCapacity_0f7a4) (C.2.2.2.2.1 _ tcJ5_newCapacity_0f7a4)) (g_selPriv (by decide) (C.2.2.2.2.1 _ tinst_J4) (va_Nw.use rfl ((vE_x C).2.2.2.2.2 _ (List.mem_of_getElem? (i := 0) rfl))) (C.2.2.2.2.1 _ tiJ5_newCapacity_0f7a4) (C.2.2.2.2.1 _ tsmJ5_newCapacity_0f7a4)) tnJ5 (by decide) tdJ5_newCapacity_0f7a4.2.2 ⟨Nat.le_of_ble_eq_true rfl, Nat.le_of_ble_eq_true rfl⟩ ⟨Nat.zero_le _, Nat.zero_le _⟩ 0 rfl rfl rfl (Nat.le_of_ble_eq_true rfl) dJ5_ensureCapacityInternal_d00df_24 rfl) rfl (fun q4 => ?_)
    refine vi_w C (w' := [(a0, .inr (1, [.ref a1, .int (0 : Int32), .int (0 : Int32), .int f0_3])), (a1, .inl (cB, n1, .inl (g1)))]) rfl ?_
    refine vi_kk (kc1 := (0)) (ks1 := (0)) rfl rfl ?_
    refine vi_aload_n C 1 dJ5_ensureCapacityInternal_d00df_27 rfl ?_
    refine vi_get (ref := "java/lang/AbstractStringBuilder") (v := .int (0 : Int32)) C 0 1 inJ4w rfl rfl (by decide) tfJ5_22 rfl rfl dJ5_ensureCapacityInternal_d00df_28 ?_
    refine vi_ishl C dJ5_ensureCapacityInternal_d00df_31 ?_
    obtain ⟨hz5, h⟩ := ob_ok h
    obtain ⟨z6, hgz6, h⟩ := ob_bd h
    refine vi_w C (w' := [(a0, .inr (1, [.ref a1, .int (0 : Int32), .int (0 : Int32), .int f0_3]))] ++ [(a1, .inl (cB, n1, .inl (g1)))]) rfl ?_
    refine g_cr C (g_runS (As := [.ref a1, .int (z3 <<< ((0 : Int32) &&& 31))]) (rest := [.ref a0]) (w1 := [(a0, .inr (1, [.ref a1, .int (0 : Int32), .int (0 : Int32), .int f0_3]))]) (wc := [(a1, .inl (cB, n1, .inl (g1)))]) C (hm_J7_copyOf_9075b (a0 := a1) (mc := (1)) (ms := (Int32.toNatClampNeg (z3 <<< ((0 : Int32) &&& 31)))) (n0 := n1) (g0 := g1) (x1 := (z3 <<< ((0 : Int32) &&& 31))) (r_n1 := z6.1) (r_g2 := z6.2) C.2.2.2.2.2.2.2.2.1 hgz6) 2 rfl tcJ7_copyOf_9075b tlJ5_108 ttJ7_copyOf_9075b tnJ7 tdJ7_copyOf_9075b ⟨Nat.le_of_ble_eq_true rfl, Nat.le_of_ble_eq_true rfl⟩ hz5 rfl (Nat.le_of_ble_eq_true rfl) dJ5_ensureCapacityInternal_d00df_32 rfl) rfl (fun q7 => ?_)
    refine vi_w C (w' := [(a0, .inr (1, [.ref a1, .int (0 : Int32), .int (0 : Int32), .int f0_3])), (a1, .inl (cB, n1, .inl (g1))), ((q7 0), .inl (cB, z6.1, .inl (z6.2)))]) rfl ?_
    obtain ⟨kc8, ekc8, h⟩ := ob_nm h
    obtain ⟨ks9, eks9, h⟩ := ob_nm h
    refine vi_kk ekc8.symm eks9.symm ?_
    rw [← ekc8, ← eks9] at hz5
    refine vi_put (ref := "java/lang/AbstractStringBuilder") (ty := tyJ4 0) (w' := [(a0, .inr (1, [.ref (q7 0), .int (0 : Int32), .int (0 : Int32), .int f0_3])), (a1, .inl (cB, n1, .inl (g1))), ((q7 0), .inl (cB, z6.1, .inl (z6.2)))]) C 0 0 inJ4w tyJ4 tyJ4_ok nmJ4 rfl rfl (by decide) tfJ5_15 rfl rfl (tyJ4_ok 0 (by decide)) rfl rfl (by show 0 < 4; decide) rfl dJ5_ensureCapacityInternal_d00df_35 ?_
    refine vi_pick (w' := [(a0, .inr (1, [.ref (q7 0), .int (0 : Int32), .int (0 : Int32), .int f0_3])), ((q7 0), .inl (cB, z6.1, .inl (z6.2)))]) [0, 2] (by decide) rfl ?_
    cases h
    exact RET (fun j => [(q7 0)].getD j 0) _ _ _ _ hz5 dJ5_ensureCapacityInternal_d00df_38
theorem hm_J5_ensureCapacityInternal_d00df {ad adK adV : Nat → Nat} {tS tF : Nat} {tX sK sV : Nat → Nat} (hE : vEok (vE ad adK adV tS tF tX sK sV)) {l : Launch} {D : va_G} {cI cF cC cS cO cB cZ : ClassId} {mc : Nat} {ms : Nat} {a0 : Nat} {a1 : Nat} {r_o1 : Int32} {r_n2 : Nat} {r_g3 : Nat → Int32} {x1 : Int32} {f0_3 : Int32} {n1 : Nat} {g1 : Nat → Int32} (h : hf_J5_ensureCapacityInternal_d00df mc ms x1 f0_3 n1 g1 = some (r_o1, r_n2, r_g3)) : vG (vE ad adK adV tS tF tX sK sV) l yJ5_ensureCapacityInternal_d00df cJ5_ensureCapacityInternal_d00df 3 none 3 82 mc ms D (vT7 cI cF cC cS cO cB cZ) [.ref a0, .int x1] [(a0, .inr (1, [.ref a1, .int (0 : Int32), .int (0 : Int32), .int f0_3])), (a1, .inl (cB, n1, .inl (g1)))] (gQv D (fun q => [(a0, .inr (1, [.ref (q 0), .int (0 : Int32), .int (0 : Int32), .int r_o1])), ((q 0), .inl (cB, r_n2, .inl (r_g3)))])) :=
  vG_ofF hE (by decide +kernel) (Nat.le_of_ble_eq_true rfl) (fun p e s m args below meth c A C hr hin => hk_J5_ensureCapacityInternal_d00df_e C (fun q kc ks pc lv hk hd => g_retv (WQ := (fun q => [(a0, .inr (1, [.ref (q 0), .int (0 : Int32), .int (0 : Int32), .int r_o1])), ((q 0), .inl (cB, r_n2, .inl (r_g3)))])) C hr q rfl hk hd) h)
-- ---- J5_append_3fe6f
def hf_J5_append_3fe6f (mc : Nat) (ms : Nat) (x1 : Int32) (f0_3 : Int32) (n1 : Nat) (g1 : Nat → Int32) : Option (Int32 × Nat × (Nat → Int32)) := if 0 + (gc1 (f0_3 + (1 : Int32)) n1) ≤ mc ∧ 0 + (gc2 (f0_3 + (1 : Int32)) n1) ≤ ms then (hf_J5_ensureCapacityInternal_d00df (gc1 (f0_3 + (1 : Int32)) n1) (gc2 (f0_3 + (1 : Int32)) n1) (f0_3 + (1 : Int32)) f0_3 n1 g1).bind fun z2 => bd (0 + (gc1 (f0_3 + (1 : Int32)) n1)) fun kc4 => bd (0 + (gc2 (f0_3 + (1 : Int32)) n1)) fun ks5 => (hf_J5_isLatin1_aae02 (z2.1) (z2.2.1) (z2.2.2)).bind fun z6 => (fJ1_canEncode_fc78d x1).bind fun y8 => (if y8 = 0 then (hf_J5_isLatin1_aae02 (z2.1) (z2.2.1) (z2.2.2)).bind fun z10 => none else bd (((z2.1) + (1 : Int32) : Int32)) fun y12 => if z2.1 < 0 ∨ z2.2.1 ≤ Int32.toNatClampNeg (z2.1) then none else bd ((upd (z2.2.2) (Int32.toNatClampNeg (z2.1)) (vp_nar .byte ((Int32.toInt8 x1).toInt32)) : Nat → Int32)) fun g14 => some (y12, z2.2.1, g14)) else none
set_option maxRecDepth 100000 in
set_option maxHeartbeats 4000000 in
theorem hk_J5_append_3fe6f_e {ad adK adV : Nat → Nat} {tS tF : Nat} {tX sK sV : Nat → Nat} {p : Program} {l : Launch} {e : Env} {s : State} {m : MethodId} {args : Array Value} {below : List Frame} {meth : Method} {c : Code} {A : Nat → Prop} {D : va_G} {cI cF cC cS cO cB cZ : ClassId} {Q : State → Prop} {mc : Nat} {ms : Nat} {a0 : Nat} {a1 : Nat} (C : vC (vE ad adK adV tS tF tX sK sV) p l s m args meth c A D (vT7 cI cF cC cS cO cB cZ) cJ5_append_3fe6f 2 RJ5) {r_o1 : Int32} {r_n2 : Nat} {r_g3 : Nat → Int32} (RET : ∀ (q : Nat → Nat) (kc ks : Nat) (pc : Nat) (lv : List (Nat × Value)), (kc ≤ mc ∧ ks ≤ ms) → decode cJ5_append_3fe6f pc = .ok (.areturn, 1) → vV p l e { frames := 4, cells := mc, slots := ms, locals := 104 } s m args below meth c A D 2 kc ks Q [(a0, .inr (1, [.ref (q 0), .int (0 : Int32), .int (0 : Int32), .int r_o1])), ((q 0), .inl (cB, r_n2, .inl (r_g3)))] pc lv [.ref a0]) {x1 : Int32} {f0_3 : Int32} {n1 : Nat} {g1 : Nat → Int32} (h : hf_J5_append_3fe6f mc ms x1 f0_3 n1 g1 = some (r_o1, r_n2, r_g3)) : vV p l e { frames := 4, cells := mc, slots := ms, locals := 104 } s m args below meth c A D 2 (0) (0) Q [(a0, .inr (1, [.ref a1, .int (0 : Int32), .int (0 : Int32), .int f0_3])), (a1, .inl (cB, n1, .inl (g1)))] 0 [(0, .ref a0), (1, .int x1)] [] := by
  rw [hf_J5_append_3fe6f] at h
  refine vi_aload_n C 0 dJ5_append_3fe6f_0 rfl ?_
  refine vi_aload_n C 0 dJ5_append_3fe6f_1 rfl ?_
  refine vi_get (ref := "java/lang/AbstractStringBuilder") (v := .int f0_3) C 0 3 inJ4w rfl rfl (by decide) tfJ5_79 rfl rfl dJ5_append_3fe6f_2 ?_
  refine vi_iconst (v := 1) C dJ5_append_3fe6f_5 (by decide) ?_
  refine vi_iadd C dJ5_append_3fe6f_6 ?_
  obtain ⟨hz1, h⟩ := ob_ok h
  obtain ⟨z2, hgz2, h⟩ := ob_bd h
  refine vi_w C (w' := [] ++ [(a0, .inr (1, [.ref a1, .int (0 : Int32), .int (0 : Int32), .int f0_3])), (a1, .inl (cB, n1, .inl (g1)))]) rfl ?_
  refine g_cv C (g_runU (x := yJ5_ensureCapacityInternal_d00df) (owner := RJ5) (Cn := RJ4) (T := TJ4) (N := 4) (ci := 1) (fs := [.ref a1, .int (0 : Int32), .int (0 : Int32), .int f0_3]) (As := [.int (f0_3 + (1 : Int32))]) (rest := []) (w1 := []) (wc := [(a0, .inr (1, [.ref a1, .int (0 : Int32), .int (0 : Int32), .int f0_3])), (a1, .inl (cB, n1, .inl (g1)))]) C (hm_J5_ensureCapacityInternal_d00df (a0 := a0) (a1 := a1) (mc := (gc1 (f0_3 + (1 : Int32)) n1)) (ms := (gc2 (f0_3 + (1 : Int32)) n1)) (x1 := (f0_3 + (1 : Int32))) (f0_3 := f0_3) (n1 := n1) (g1 := g1) (r_o1 := z2.1) (r_n2 := z2.2.1) (r_g3 := z2.2.2) C.2.2.2.2.2.2.2.2.1 hgz2) 1 rfl tcJ5_ensureCapacityInternal_d00df tlJ5_100 tiJ5_ensureCapacityInternal_d00df tsmJ5_ensureCapacityInternal_d00df (va_Decl.of (C.2.2.2.2.1 _ tiJ5_ensureCapacityInternal_d00df) (C.2.2.2.2.1 _ tcJ5_ensureCapacityInternal_d00df)) (g_selPriv (by decide) (C.2.2.2.2.1 _ tinst_J4) (va_Nw.use rfl ((vE_x C).2.2.2.2.2 _ (List.mem_of_getElem? (i := 1) rfl))) (C.2.2.2.2.1 _ tiJ5_ensureCapacityInternal_d00df) (C.2.2.2.2.1 _ tsmJ5_ensureCapacityInternal_d00df)) tnJ5 (by decide) tdJ5_ensureCapacityInternal_d00df.2.2 ⟨Nat.le_of_ble_eq_true rfl, Nat.le_of_ble_eq_true rfl⟩ hz1 0 rfl rfl rfl (Nat.le_of_ble_eq_true rfl) dJ5_append_3fe6f_7 rfl) rfl (fun q3 => ?_)
  refine vi_w C (w' := [(a0, .inr (1, [.ref (q3 0), .int (0 : Int32), .int (0 : Int32), .int (z2.1)])), ((q3 0), .inl (cB, z2.2.1, .inl (z2.2.2)))]) rfl ?_
  obtain ⟨kc4, ekc4, h⟩ := ob_nm h
  obtain ⟨ks5, eks5, h⟩ := ob_nm h
  refine vi_kk ekc4.symm eks5.symm ?_
  rw [← ekc4, ← eks5] at hz1
  refine vi_aload_n C 0 dJ5_append_3fe6f_10 rfl ?_
  obtain ⟨z6, hgz6, h⟩ := ob_bd h
  refine vi_w C (w' := [] ++ [(a0, .inr (1, [.ref (q3 0), .int (0 : Int32), .int (0 : Int32), .int (z2.1)])), ((q3 0), .inl (cB, z2.2.1, .inl (z2.2.2)))]) rfl ?_
  refine g_ci C (g_runU (x := yJ5_isLatin1_aae02) (owner := RJ5) (Cn := RJ4) (T := TJ4) (N := 4) (ci := 1) (fs := [.ref (q3 0), .int (0 : Int32), .int (0 : Int32), .int (z2.1)]) (As := []) (rest := []) (w1 := []) (wc := [(a0, .inr (1, [.ref (q3 0), .int (0 : Int32), .int (0 : Int32), .int (z2.1)])), ((q3 0), .inl (cB, z2.2.1, .inl (z2.2.2)))]) C (hm_J5_isLatin1_aae02 (a0 := a0) (a1 := (q3 0)) (f0_3 := (z2.1)) (n1 := (z2.2.1)) (g1 := (z2.2.2))  C.2.2.2.2.2.2.2.2.1 hgz6) 0 rfl tcJ5_isLatin1_aae02 tlJ5_83 tiJ5_isLatin1_aae02 tsmJ5_isLatin1_aae02 (va_Decl.of (C.2.2.2.2.1 _ tiJ5_isLatin1_aae02) (C.2.2.2.2.1 _ tcJ5_isLatin1_aae02)) (C.2.2.2.2.1 _ tslJ5_isLatin1_aae02) tnJ5 (by decide) tdJ5_isLatin1_aae02.2.2 ⟨Nat.le_of_ble_eq_true rfl, Nat.le_of_ble_eq_true rfl⟩ hz1 0 rfl rfl rfl (Nat.le_of_ble_eq_true rfl) dJ5_append_3fe6f_11 rfl) rfl (fun q7 => ?_)
  refine vi_w C (w' := [(a0, .inr (1, [.ref (q3 0), .int (0 : Int32), .int (0 : Int32), .int (z2.1)])), ((q3 0), .inl (cB, z2.2.1, .inl (z2.2.2)))]) rfl ?_
  refine vi_kk (kc1 := kc4) (ks1 := ks5) rfl rfl ?_
  refine vi_if_eq (tgt := 45) C dJ5_append_3fe6f_14 (by decide) (fun hc => absurd hc (by decide)) (fun _ => ?_)
  refine vi_iload_n C 1 dJ5_append_3fe6f_17 rfl ?_
  obtain ⟨y8, hgy8, h⟩ := ob_bd h
  refine vi_callS1i (As := [.int x1]) (rest := []) C (mJ1_canEncode_fc78d C.2.2.2.2.2.2.2.2.1 hgy8) 1 rfl tcJ1_canEncode_fc78d tlJ5_191 ttJ1_canEncode_fc78d tnJ1 tdJ1_canEncode_fc78d ⟨Nat.le_of_ble_eq_true rfl, Nat.le_of_ble_eq_true rfl⟩ hz1 rfl (Nat.le_of_ble_eq_true rfl) dJ5_append_3fe6f_18 ?_
  refine vi_if_eq (tgt := 45) C dJ5_append_3fe6f_21 (by decide) (fun hc9 => ?_) (fun hc9 => ?_)
  · have h := ob_t h hc9
    refine vi_aload_n C 0 dJ5_append_3fe6f_45 rfl ?_
    obtain ⟨z10, hgz10, h⟩ := ob_bd h
    refine vi_w C (w' := [] ++ [(a0, .inr (1, [.ref (q3 0), .int (0 : Int32), .int (0 : Int32), .int (z2.1)])), ((q3 0), .inl (cB, z2.2.1, .inl (z2.2.2)))]) rfl ?_
    refine g_ci C (g_runU (x := yJ5_isLatin1_aae02) (owner := RJ5) (Cn := RJ4) (T := TJ4) (N := 4) (ci := 1) (fs := [.ref (q3 0), .int (0 : Int32), .int (0 : Int32), .int (z2.1)]) (As := []) (rest := []) (w1 := []) (wc := [(a0, .inr (1, [.ref (q3 0), .int (0 : Int32), .int (0 : Int32), .int (z2.1)])), ((q3 0), .inl (cB, z2.2.1, .inl (z2.2.2)))]) C (hm_J5_isLatin1_aae02 (a0 := a0) (a1 := (q3 0)) (f0_3 := (z2.1)) (n1 := (z2.2.1)) (g1 := (z2.2.2))  C.2.2.2.2.2.2.2.2.1 hgz10) 0 rfl tcJ5_isLatin1_aae02 tlJ5_83 tiJ5_isLatin1_aae02 tsmJ5_isLatin1_aae02 (va_Decl.of (C.2.2.2.2.1 _ tiJ5_isLatin1_aae02) (C.2.2.2.2.1 _ tcJ5_isLatin1_aae02)) (C.2.2.2.2.1 _ tslJ5_isLatin1_aae02) tnJ5 (by decide) tdJ5_isLatin1_aae02.2.2 ⟨Nat.le_of_ble_eq_true rfl, Nat.le_of_ble_eq_true rfl⟩ hz1 0 rfl rfl rfl (Nat.le_of_ble_eq_true rfl) dJ5_append_3fe6f_46 rfl) rfl (fun q11 => ?_)
    refine vi_w C (w' := [(a0, .inr (1, [.ref (q3 0), .int (0 : Int32), .int (0 : Int32), .int (z2.1)])), ((q3 0), .inl (cB, z2.2.1, .inl (z2.2.2)))]) rfl ?_
    refine vi_kk (kc1 := kc4) (ks1 := ks5) rfl rfl ?_
    refine vi_if_eq (tgt := 56) C dJ5_append_3fe6f_49 (by decide) (fun hc => absurd hc (by decide)) (fun _ => ?_)
    refine vi_aload_n C 0 dJ5_append_3fe6f_52 rfl ?_
    cases h
  · have h := ob_f h hc9
    refine vi_aload_n C 0 dJ5_append_3fe6f_24 rfl ?_
    refine vi_get (ref := "java/lang/AbstractStringBuilder") (v := .ref (q3 0)) C 0 0 inJ4w rfl rfl (by decide) tfJ5_15 rfl rfl dJ5_append_3fe6f_25 ?_
    refine vi_aload_n C 0 dJ5_append_3fe6f_28 rfl ?_
    refine vi_dup C dJ5_append_3fe6f_29 rfl ?_
    refine vi_get (ref := "java/lang/AbstractStringBuilder") (v := .int (z2.1)) C 0 3 inJ4w rfl rfl (by decide) tfJ5_79 rfl rfl dJ5_append_3fe6f_30 ?_
    refine vi_dup_x1 C dJ5_append_3fe6f_33 rfl rfl ?_
    refine vi_iconst (v := 1) C dJ5_append_3fe6f_34 (by decide) ?_
    refine vi_iadd C dJ5_append_3fe6f_35 ?_
    obtain ⟨y12, ey12, h⟩ := ob_nm h
    refine vi_nmi ey12 ?_
    refine vi_put (ref := "java/lang/AbstractStringBuilder") (ty := tyJ4 3) (w' := [(a0, .inr (1, [.ref (q3 0), .int (0 : Int32), .int (0 : Int32), .int y12])), ((q3 0), .inl (cB, z2.2.1, .inl (z2.2.2)))]) C 0 3 inJ4w tyJ4 tyJ4_ok nmJ4 rfl rfl (by decide) tfJ5_79 rfl rfl (tyJ4_ok 3 (by decide)) rfl rfl (by show 3 < 4; decide) rfl dJ5_append_3fe6f_36 ?_
    refine vi_iload_n C 1 dJ5_append_3fe6f_39 rfl ?_
    refine vi_i2b C dJ5_append_3fe6f_40 ?_
    obtain ⟨hz13, h⟩ := ob_if h
    obtain ⟨g14, eg14, h⟩ := ob_nm h
    refine vi_bast (w2 := [(a0, .inr (1, [.ref (q3 0), .int (0 : Int32), .int (0 : Int32), .int y12])), ((q3 0), .inl (cB, z2.2.1, .inl (g14)))]) C 1 5 rfl rfl hz13 (by rw [eg14]; rfl) dJ5_append_3fe6f_41 ?_
    refine vi_goto (tgt := 75) C dJ5_append_3fe6f_42 (by decide) ?_
    refine vi_aload_n C 0 dJ5_append_3fe6f_75 rfl ?_
    cases h
    exact RET (fun j => [(q3 0)].getD j 0) _ _ _ _ hz1 dJ5_append_3fe6f_76
theorem hm_J5_append_3fe6f {ad adK adV : Nat → Nat} {tS tF : Nat} {tX sK sV : Nat → Nat} (hE : vEok (vE ad adK adV tS tF tX sK sV)) {l : Launch} {D : va_G} {cI cF cC cS cO cB cZ : ClassId} {mc : Nat} {ms : Nat} {a0 : Nat} {a1 : Nat} {r_o1 : Int32} {r_n2 : Nat} {r_g3 : Nat → Int32} {x1 : Int32} {f0_3 : Int32} {n1 : Nat} {g1 : Nat → Int32} (h : hf_J5_append_3fe6f mc ms x1 f0_3 n1 g1 = some (r_o1, r_n2, r_g3)) : vG (vE ad adK adV tS tF tX sK sV) l yJ5_append_3fe6f cJ5_append_3fe6f 2 (some (FieldType.object "java/lang/AbstractStringBuilder")) 4 104 mc ms D (vT7 cI cF cC cS cO cB cZ) [.ref a0, .int x1] [(a0, .inr (1, [.ref a1, .int (0 : Int32), .int (0 : Int32), .int f0_3])), (a1, .inl (cB, n1, .inl (g1)))] (gQr D (fun q => [(a0, .inr (1, [.ref (q 0), .int (0 : Int32), .int (0 : Int32), .int r_o1])), ((q 0), .inl (cB, r_n2, .inl (r_g3)))]) (fun q => a0)) :=
  vG_ofF hE (by decide +kernel) (Nat.le_of_ble_eq_true rfl) (fun p e s m args below meth c A C hr hin => hk_J5_append_3fe6f_e C (fun q kc ks pc lv hk hd => g_retr (WQ := (fun q => [(a0, .inr (1, [.ref (q 0), .int (0 : Int32), .int (0 : Int32), .int r_o1])), ((q 0), .inl (cB, r_n2, .inl (r_g3)))])) (ra := fun q => a0) C hr (Or.inl ⟨_, rfl⟩) q rfl rfl hk hd) h)
