def hf_L_cell (L : Nat) (xs : Nat → Int32) (x1 : Int32) : Option (Int32) := (if Int32.ofNat L = 0 then some (((71 : Int32) * x1) + (13 : Int32)) else if Int32.ofNat L = 0 then none else if x1 - x1 / (Int32.ofNat L) * (Int32.ofNat L) < 0 ∨ L ≤ Int32.toNatClampNeg (x1 - x1 / (Int32.ofNat L) * (Int32.ofNat L)) then none else if Int32.ofNat L = 0 then none else some ((Int32.toUInt32 (xs (Int32.toNatClampNeg (x1 - x1 / (Int32.ofNat L) * (Int32.ofNat L)))) >>> (Int32.toUInt32 (((5 : Int32) * (x1 / (Int32.ofNat L))) - ((5 : Int32) * (x1 / (Int32.ofNat L))) / (17 : Int32) * (17 : Int32)) &&& Int32.toUInt32 31)).toInt32))
set_option maxRecDepth 100000 in
set_option maxHeartbeats 4000000 in
theorem hk_L_cell_e {ad adK adV : Nat → Nat} {tS tF : Nat} {tX sK sV : Nat → Nat} {p : Program} {l : Launch} {e : Env} {s : State} {m : MethodId} {args : Array Value} {below : List Frame} {meth : Method} {c : Code} {A : Nat → Prop} {D : va_G} {cI cF cC cS cO cB cZ : ClassId} {Q : State → Prop} {L : Nat} {xs : Nat → Int32} {b : Nat} (C : vC (vE ad adK adV tS tF tX sK sV) p l s m args meth c A D (vT7 cI cF cC cS cO cB cZ) cL_cell 2 RL) (hX : va_X b L xs s s.heap) (hbl : b < s.heap.size) (hbA : ¬ A b) {r0 : Int32} (RET : ∀ (q : Nat → Nat) (kc ks : Nat) (pc : Nat) (lv : List (Nat × Value)), True → decode cL_cell pc = .ok (.ireturn, 1) → vV p l e { frames := 0, cells := 0, slots := 0, locals := 0 } s m args below meth c A D 2 0 0 Q [] pc lv [.int r0]) {x1 : Int32} (h : hf_L_cell L xs x1 = some (r0)) : vV p l e { frames := 0, cells := 0, slots := 0, locals := 0 } s m args below meth c A D 2 0 0 Q [] 0 [(0, .ref b), (1, .int x1)] [] := by
  rw [hf_L_cell] at h
  refine vi_aload_n C 0 dL_cell_0 rfl ?_
  refine vi_slen C hX hbl hbA dL_cell_1 ?_
  refine vi_if_ne (tgt := 15) C dL_cell_2 (by decide) (fun hc1 => ?_) (fun hc1 => ?_)
  · have h := ob_f h hc1
    refine vi_aload_n C 0 dL_cell_15 rfl ?_
    refine vi_iload_n C 1 dL_cell_16 rfl ?_
    refine vi_aload_n C 0 dL_cell_17 rfl ?_
    refine vi_slen C hX hbl hbA dL_cell_18 ?_
    obtain ⟨hz2, h⟩ := ob_if h
    refine vi_irem C dL_cell_19 hz2 ?_
    obtain ⟨hz3, h⟩ := ob_if h
    refine vi_sld C hX hbl hbA hz3 dL_cell_20 ?_
    refine vi_iconst (v := 5) C dL_cell_21 (by decide) ?_
    refine vi_iload_n C 1 dL_cell_22 rfl ?_
    refine vi_aload_n C 0 dL_cell_23 rfl ?_
    refine vi_slen C hX hbl hbA dL_cell_24 ?_
    obtain ⟨hz4, h⟩ := ob_if h
    refine vi_idiv C dL_cell_25 hz4 ?_
    refine vi_imul C dL_cell_26 ?_
    refine vi_bipush (v := 17) C dL_cell_27 (by decide) ?_
    refine vi_irem C dL_cell_29 (by decide) ?_
    refine vi_iushr C dL_cell_30 ?_
    cases h
    exact RET (fun j => [].getD j 0) 0 0 _ _ trivial dL_cell_31
  · have h := ob_t h hc1
    refine vi_bipush (v := 71) C dL_cell_5 (by decide) ?_
    refine vi_iload_n C 1 dL_cell_7 rfl ?_
    refine vi_imul C dL_cell_8 ?_
    refine vi_bipush (v := 13) C dL_cell_9 (by decide) ?_
    refine vi_iadd C dL_cell_11 ?_
    refine vi_goto (tgt := 31) C dL_cell_12 (by decide) ?_
    cases h
    exact RET (fun j => [].getD j 0) 0 0 _ _ trivial dL_cell_31
theorem hm_L_cell {ad adK adV : Nat → Nat} {tS tF : Nat} {tX sK sV : Nat → Nat} {b : Nat} {L : Nat} {xs : Nat → Int32} (hE : vEok (vEs ad adK adV tS tF tX sK sV b L xs)) {l : Launch} {D : va_G} {cI cF cC cS cO cB cZ : ClassId} {r0 : Int32} {x1 : Int32} (h : hf_L_cell L xs x1 = some (r0)) : vG (vEs ad adK adV tS tF tX sK sV b L xs) l yL_cell cL_cell 2 (some .int) 0 0 0 0 D (vT7 cI cF cC cS cO cB cZ) [.ref b, .int x1] [] (gQi D (fun q => []) r0) :=
  vG_of hE (by decide +kernel) (Nat.le_of_ble_eq_true rfl) (fun p e s m args below meth c A C hr hin => hk_L_cell_e (vC_ofs C) C.2.2.2.2.2.2.2.2.2.2.1 C.2.2.2.2.2.2.2.2.2.2.2.1 C.2.2.2.2.2.2.2.2.2.2.2.2 (fun q kc ks pc lv hk hd => g_reti (WQ := (fun q => [])) C hr rfl q rfl ⟨Nat.le_refl 0, Nat.le_refl 0⟩ hd) h)
