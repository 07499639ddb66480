def hf_L_anyMood (f0_0 : Int32) : Option (Int32 × Int32) := (hf_X8_next (256 : Int32) f0_0).bind fun z1 => (hf_X8_next (256 : Int32) (z1.2)).bind fun z3 => bd ((((z1.1) <<< ((8 : Int32) &&& 31)) ||| (z3.1) : Int32)) fun y5 => (hf_X8_next (20 : Int32) (z3.2)).bind fun z6 => (if z6.1 = 0 then some ((65536 : Int32), z6.2) else (hf_X8_next (2 : Int32) (z6.2)).bind fun z9 => (if z9.1 = 0 then (hf_X8_next (9 : Int32) (z9.2)).bind fun z12 => some (((255 : Int32) <<< ((z12.1) &&& 31)) &&& (65535 : Int32), z12.2) else some (y5, z9.2)))
set_option maxRecDepth 100000 in
set_option maxHeartbeats 4000000 in
theorem hk_L_anyMood_e {ad adK adV : Nat → Nat} {tS tF : Nat} {tX sK sV : Nat → Nat} {p : Program} {l : Launch} {e : Env} {s : State} {m : MethodId} {args : Array Value} {below : List Frame} {meth : Method} {c : Code} {A : Nat → Prop} {D : va_G} {cI cF cC cS cO cB cZ : ClassId} {Q : State → Prop} {a0 : Nat} (C : vC (vE ad adK adV tS tF tX sK sV) p l s m args meth c A D (vT7 cI cF cC cS cO cB cZ) cL_anyMood 2 RL) {r0 : Int32} {r_o1 : Int32} (RET : ∀ (q : Nat → Nat) (kc ks : Nat) (pc : Nat) (lv : List (Nat × Value)), True → decode cL_anyMood pc = .ok (.ireturn, 1) → vV p l e { frames := 1, cells := 0, slots := 0, locals := 21 } s m args below meth c A D 2 0 0 Q [(a0, .inr (8, [.int r_o1]))] pc lv [.int r0]) {f0_0 : Int32} (h : hf_L_anyMood f0_0 = some (r0, r_o1)) : vV p l e { frames := 1, cells := 0, slots := 0, locals := 21 } s m args below meth c A D 2 0 0 Q [(a0, .inr (8, [.int f0_0]))] 0 [(0, .ref a0)] [] := by
  rw [hf_L_anyMood] at h
  refine vi_aload_n C 0 dL_anyMood_0 rfl ?_
  refine vi_sipush (v := 256) C dL_anyMood_1 (by decide) ?_
  obtain ⟨z1, hgz1, h⟩ := ob_bd h
  refine vi_w C (w' := [] ++ [(a0, .inr (8, [.int f0_0]))]) rfl ?_
  refine g_ci C (g_runV (T := TX8) (N := 1) (ci := 8) (fs := [.int f0_0]) (As := [.int (256 : Int32)]) (rest := []) (w1 := []) (wc := [(a0, .inr (8, [.int f0_0]))]) C (hm_X8_next (a0 := a0) (x1 := (256 : Int32)) (f0_0 := f0_0) (r0 := z1.1) (r_o1 := z1.2) C.2.2.2.2.2.2.2.2.1 hgz1) 1 rfl tcX8_next tlL_23 tiX8_next tsX8_next tnX8 tdX8_next ⟨Nat.le_of_ble_eq_true rfl, Nat.le_of_ble_eq_true rfl⟩ ⟨Nat.le_refl 0, Nat.le_refl 0⟩ 0 rfl rfl rfl (Nat.le_of_ble_eq_true rfl) dL_anyMood_4 rfl) rfl (fun q2 => ?_)
  refine vi_w C (w' := [(a0, .inr (8, [.int (z1.2)]))]) rfl ?_
  refine vi_kk (kc1 := 0) (ks1 := 0) rfl rfl ?_
  refine vi_bipush (v := 8) C dL_anyMood_7 (by decide) ?_
  refine vi_ishl C dL_anyMood_9 ?_
  refine vi_aload_n C 0 dL_anyMood_10 rfl ?_
  refine vi_sipush (v := 256) C dL_anyMood_11 (by decide) ?_
  obtain ⟨z3, hgz3, h⟩ := ob_bd h
  refine vi_w C (w' := [] ++ [(a0, .inr (8, [.int (z1.2)]))]) rfl ?_
  refine g_ci C (g_runV (T := TX8) (N := 1) (ci := 8) (fs := [.int (z1.2)]) (As := [.int (256 : Int32)]) (rest := [.int ((z1.1) <<< ((8 : Int32) &&& 31))]) (w1 := []) (wc := [(a0, .inr (8, [.int (z1.2)]))]) C (hm_X8_next (a0 := a0) (x1 := (256 : Int32)) (f0_0 := (z1.2)) (r0 := z3.1) (r_o1 := z3.2) C.2.2.2.2.2.2.2.2.1 hgz3) 1 rfl tcX8_next tlL_23 tiX8_next tsX8_next tnX8 tdX8_next ⟨Nat.le_of_ble_eq_true rfl, Nat.le_of_ble_eq_true rfl⟩ ⟨Nat.le_refl 0, Nat.le_refl 0⟩ 0 rfl rfl rfl (Nat.le_of_ble_eq_true rfl) dL_anyMood_14 rfl) rfl (fun q4 => ?_)
  refine vi_w C (w' := [(a0, .inr (8, [.int (z3.2)]))]) rfl ?_
  refine vi_kk (kc1 := 0) (ks1 := 0) rfl rfl ?_
  refine vi_ior C dL_anyMood_17 ?_
  obtain ⟨y5, ey5, h⟩ := ob_nm h
  refine vi_nmi ey5 ?_
  refine vi_istore_n (lv' := [(1, .int y5), (0, .ref a0)]) C dL_anyMood_18 rfl (by decide) rfl ?_
  refine vi_aload_n C 1 dL_anyMood_19 rfl ?_
  refine vi_bipush (v := 20) C dL_anyMood_20 (by decide) ?_
  obtain ⟨z6, hgz6, h⟩ := ob_bd h
  refine vi_w C (w' := [] ++ [(a0, .inr (8, [.int (z3.2)]))]) rfl ?_
  refine g_ci C (g_runV (T := TX8) (N := 1) (ci := 8) (fs := [.int (z3.2)]) (As := [.int (20 : Int32)]) (rest := []) (w1 := []) (wc := [(a0, .inr (8, [.int (z3.2)]))]) C (hm_X8_next (a0 := a0) (x1 := (20 : Int32)) (f0_0 := (z3.2)) (r0 := z6.1) (r_o1 := z6.2) C.2.2.2.2.2.2.2.2.1 hgz6) 1 rfl tcX8_next tlL_23 tiX8_next tsX8_next tnX8 tdX8_next ⟨Nat.le_of_ble_eq_true rfl, Nat.le_of_ble_eq_true rfl⟩ ⟨Nat.le_refl 0, Nat.le_refl 0⟩ 0 rfl rfl rfl (Nat.le_of_ble_eq_true rfl) dL_anyMood_22 rfl) rfl (fun q7 => ?_)
  refine vi_w C (w' := [(a0, .inr (8, [.int (z6.2)]))]) rfl ?_
  refine vi_kk (kc1 := 0) (ks1 := 0) rfl rfl ?_
  refine vi_if_ne (tgt := 33) C dL_anyMood_25 (by decide) (fun hc8 => ?_) (fun hc8 => ?_)
  · have h := ob_f h hc8
    refine vi_aload_n C 1 dL_anyMood_33 rfl ?_
    refine vi_iconst (v := 2) C dL_anyMood_34 (by decide) ?_
    obtain ⟨z9, hgz9, h⟩ := ob_bd h
    refine vi_w C (w' := [] ++ [(a0, .inr (8, [.int (z6.2)]))]) rfl ?_
    refine g_ci C (g_runV (T := TX8) (N := 1) (ci := 8) (fs := [.int (z6.2)]) (As := [.int (2 : Int32)]) (rest := []) (w1 := []) (wc := [(a0, .inr (8, [.int (z6.2)]))]) C (hm_X8_next (a0 := a0) (x1 := (2 : Int32)) (f0_0 := (z6.2)) (r0 := z9.1) (r_o1 := z9.2) C.2.2.2.2.2.2.2.2.1 hgz9) 1 rfl tcX8_next tlL_23 tiX8_next tsX8_next tnX8 tdX8_next ⟨Nat.le_of_ble_eq_true rfl, Nat.le_of_ble_eq_true rfl⟩ ⟨Nat.le_refl 0, Nat.le_refl 0⟩ 0 rfl rfl rfl (Nat.le_of_ble_eq_true rfl) dL_anyMood_35 rfl) rfl (fun q10 => ?_)
    refine vi_w C (w' := [(a0, .inr (8, [.int (z9.2)]))]) rfl ?_
    refine vi_kk (kc1 := 0) (ks1 := 0) rfl rfl ?_
    refine vi_if_ne (tgt := 57) C dL_anyMood_38 (by decide) (fun hc11 => ?_) (fun hc11 => ?_)
    · have h := ob_f h hc11
      refine vi_iload_n C 0 dL_anyMood_57 rfl ?_
      cases h
      exact RET (fun j => [].getD j 0) 0 0 _ _ trivial dL_anyMood_58
    · have h := ob_t h hc11
      refine vi_sipush (v := 255) C dL_anyMood_41 (by decide) ?_
      refine vi_aload_n C 1 dL_anyMood_44 rfl ?_
      refine vi_bipush (v := 9) C dL_anyMood_45 (by decide) ?_
      obtain ⟨z12, hgz12, h⟩ := ob_bd h
      refine vi_w C (w' := [] ++ [(a0, .inr (8, [.int (z9.2)]))]) rfl ?_
      refine g_ci C (g_runV (T := TX8) (N := 1) (ci := 8) (fs := [.int (z9.2)]) (As := [.int (9 : Int32)]) (rest := [.int (255 : Int32)]) (w1 := []) (wc := [(a0, .inr (8, [.int (z9.2)]))]) C (hm_X8_next (a0 := a0) (x1 := (9 : Int32)) (f0_0 := (z9.2)) (r0 := z12.1) (r_o1 := z12.2) C.2.2.2.2.2.2.2.2.1 hgz12) 1 rfl tcX8_next tlL_23 tiX8_next tsX8_next tnX8 tdX8_next ⟨Nat.le_of_ble_eq_true rfl, Nat.le_of_ble_eq_true rfl⟩ ⟨Nat.le_refl 0, Nat.le_refl 0⟩ 0 rfl rfl rfl (Nat.le_of_ble_eq_true rfl) dL_anyMood_47 rfl) rfl (fun q13 => ?_)
      refine vi_w C (w' := [(a0, .inr (8, [.int (z12.2)]))]) rfl ?_
      refine vi_kk (kc1 := 0) (ks1 := 0) rfl rfl ?_
      refine vi_ishl C dL_anyMood_50 ?_
      refine vi_ldc (v := 65535) C dL_anyMood_51 tkL_36 ?_
      refine vi_iand C dL_anyMood_53 ?_
      refine vi_goto (tgt := 58) C dL_anyMood_54 (by decide) ?_
      cases h
      exact RET (fun j => [].getD j 0) 0 0 _ _ trivial dL_anyMood_58
  · have h := ob_t h hc8
    refine vi_ldc (v := 65536) C dL_anyMood_28 tkL_35 ?_
    refine vi_goto (tgt := 58) C dL_anyMood_30 (by decide) ?_
    cases h
    exact RET (fun j => [].getD j 0) 0 0 _ _ trivial dL_anyMood_58
theorem hm_L_anyMood {ad adK adV : Nat → Nat} {tS tF : Nat} {tX sK sV : Nat → Nat} (hE : vEok (vE ad adK adV tS tF tX sK sV)) {l : Launch} {D : va_G} {cI cF cC cS cO cB cZ : ClassId} {a0 : Nat} {r0 : Int32} {r_o1 : Int32} {f0_0 : Int32} (h : hf_L_anyMood f0_0 = some (r0, r_o1)) : vG (vE ad adK adV tS tF tX sK sV) l yL_anyMood cL_anyMood 2 (some .int) 1 21 0 0 D (vT7 cI cF cC cS cO cB cZ) [.ref a0] [(a0, .inr (8, [.int f0_0]))] (gQi D (fun q => [(a0, .inr (8, [.int r_o1]))]) r0) :=
  vG_of hE (by decide +kernel) (Nat.le_of_ble_eq_true rfl) (fun p e s m args below meth c A C hr hin => hk_L_anyMood_e C (fun q kc ks pc lv hk hd => g_reti (WQ := (fun q => [(a0, .inr (8, [.int r_o1]))])) C hr rfl q rfl ⟨Nat.le_refl 0, Nat.le_refl 0⟩ hd) h)
