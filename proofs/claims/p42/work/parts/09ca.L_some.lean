def hf_L_some (x1 : Int32) (f0_0 : Int32) : Option (Int32 × Int32) := (hf_X8_next (25 : Int32) f0_0).bind fun z1 => (if z1.1 = 0 then some (x1, z1.2) else (fJ9_max_7cf53 (1 : Int32) x1).bind fun y4 => (hf_X8_next y4 (z1.2)).bind fun z5 => some (z5.1, z5.2))
set_option maxRecDepth 100000 in
set_option maxHeartbeats 4000000 in
theorem hk_L_some_e {ad adK adV : Nat → Nat} {tS tF : Nat} {tX sK sV : Nat → Nat} {p : Program} {l : Launch} {e : Env} {s : State} {m : MethodId} {args : Array Value} {below : List Frame} {meth : Method} {c : Code} {A : Nat → Prop} {D : va_G} {cI cF cC cS cO cB cZ : ClassId} {Q : State → Prop} {a0 : Nat} (C : vC (vE ad adK adV tS tF tX sK sV) p l s m args meth c A D (vT7 cI cF cC cS cO cB cZ) cL_some 2 RL) {r0 : Int32} {r_o1 : Int32} (RET : ∀ (q : Nat → Nat) (kc ks : Nat) (pc : Nat) (lv : List (Nat × Value)), True → decode cL_some pc = .ok (.ireturn, 1) → vV p l e { frames := 1, cells := 0, slots := 0, locals := 21 } s m args below meth c A D 2 0 0 Q [(a0, .inr (8, [.int r_o1]))] pc lv [.int r0]) {x1 : Int32} {f0_0 : Int32} (h : hf_L_some x1 f0_0 = some (r0, r_o1)) : vV p l e { frames := 1, cells := 0, slots := 0, locals := 21 } s m args below meth c A D 2 0 0 Q [(a0, .inr (8, [.int f0_0]))] 0 [(0, .ref a0), (1, .int x1)] [] := by
  rw [hf_L_some] at h
  refine vi_aload_n C 0 dL_some_0 rfl ?_
  refine vi_bipush (v := 25) C dL_some_1 (by decide) ?_
  obtain ⟨z1, hgz1, h⟩ := ob_bd h
  refine vi_w C (w' := [] ++ [(a0, .inr (8, [.int f0_0]))]) rfl ?_
  refine g_ci C (g_runV (T := TX8) (N := 1) (ci := 8) (fs := [.int f0_0]) (As := [.int (25 : Int32)]) (rest := []) (w1 := []) (wc := [(a0, .inr (8, [.int f0_0]))]) C (hm_X8_next (a0 := a0) (x1 := (25 : Int32)) (f0_0 := f0_0) (r0 := z1.1) (r_o1 := z1.2) C.2.2.2.2.2.2.2.2.1 hgz1) 1 rfl tcX8_next tlL_23 tiX8_next tsX8_next tnX8 tdX8_next ⟨Nat.le_of_ble_eq_true rfl, Nat.le_of_ble_eq_true rfl⟩ ⟨Nat.le_refl 0, Nat.le_refl 0⟩ 0 rfl rfl rfl (Nat.le_of_ble_eq_true rfl) dL_some_3 rfl) rfl (fun q2 => ?_)
  refine vi_w C (w' := [(a0, .inr (8, [.int (z1.2)]))]) rfl ?_
  refine vi_kk (kc1 := 0) (ks1 := 0) rfl rfl ?_
  refine vi_if_ne (tgt := 13) C dL_some_6 (by decide) (fun hc3 => ?_) (fun hc3 => ?_)
  · have h := ob_f h hc3
    refine vi_aload_n C 0 dL_some_13 rfl ?_
    refine vi_iconst (v := 1) C dL_some_14 (by decide) ?_
    refine vi_iload_n C 1 dL_some_15 rfl ?_
    obtain ⟨y4, hgy4, h⟩ := ob_bd h
    refine vi_callS1i (As := [.int (1 : Int32), .int x1]) (rest := [.ref a0]) C (mJ9_max_7cf53 C.2.2.2.2.2.2.2.2.1 hgy4) 2 rfl tcJ9_max_7cf53 tlL_29 ttJ9_max_7cf53 tnJ9 tdJ9_max_7cf53 ⟨Nat.le_of_ble_eq_true rfl, Nat.le_of_ble_eq_true rfl⟩ ⟨Nat.le_refl 0, Nat.le_refl 0⟩ rfl (Nat.le_of_ble_eq_true rfl) dL_some_16 ?_
    obtain ⟨z5, hgz5, h⟩ := ob_bd h
    refine vi_w C (w' := [] ++ [(a0, .inr (8, [.int (z1.2)]))]) rfl ?_
    refine g_ci C (g_runV (T := TX8) (N := 1) (ci := 8) (fs := [.int (z1.2)]) (As := [.int y4]) (rest := []) (w1 := []) (wc := [(a0, .inr (8, [.int (z1.2)]))]) C (hm_X8_next (a0 := a0) (x1 := y4) (f0_0 := (z1.2)) (r0 := z5.1) (r_o1 := z5.2) C.2.2.2.2.2.2.2.2.1 hgz5) 1 rfl tcX8_next tlL_23 tiX8_next tsX8_next tnX8 tdX8_next ⟨Nat.le_of_ble_eq_true rfl, Nat.le_of_ble_eq_true rfl⟩ ⟨Nat.le_refl 0, Nat.le_refl 0⟩ 0 rfl rfl rfl (Nat.le_of_ble_eq_true rfl) dL_some_19 rfl) rfl (fun q6 => ?_)
    refine vi_w C (w' := [(a0, .inr (8, [.int (z5.2)]))]) rfl ?_
    refine vi_kk (kc1 := 0) (ks1 := 0) rfl rfl ?_
    cases h
    exact RET (fun j => [].getD j 0) 0 0 _ _ trivial dL_some_22
  · have h := ob_t h hc3
    refine vi_iload_n C 1 dL_some_9 rfl ?_
    refine vi_goto (tgt := 22) C dL_some_10 (by decide) ?_
    cases h
    exact RET (fun j => [].getD j 0) 0 0 _ _ trivial dL_some_22
theorem hm_L_some {ad adK adV : Nat → Nat} {tS tF : Nat} {tX sK sV : Nat → Nat} (hE : vEok (vE ad adK adV tS tF tX sK sV)) {l : Launch} {D : va_G} {cI cF cC cS cO cB cZ : ClassId} {a0 : Nat} {r0 : Int32} {r_o1 : Int32} {x1 : Int32} {f0_0 : Int32} (h : hf_L_some x1 f0_0 = some (r0, r_o1)) : vG (vE ad adK adV tS tF tX sK sV) l yL_some cL_some 2 (some .int) 1 21 0 0 D (vT7 cI cF cC cS cO cB cZ) [.ref a0, .int x1] [(a0, .inr (8, [.int f0_0]))] (gQi D (fun q => [(a0, .inr (8, [.int r_o1]))]) r0) :=
  vG_of hE (by decide +kernel) (Nat.le_of_ble_eq_true rfl) (fun p e s m args below meth c A C hr hin => hk_L_some_e C (fun q kc ks pc lv hk hd => g_reti (WQ := (fun q => [(a0, .inr (8, [.int r_o1]))])) C hr rfl q rfl ⟨Nat.le_refl 0, Nat.le_refl 0⟩ hd) h)
