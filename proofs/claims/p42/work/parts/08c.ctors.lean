/-- the same, and that the classes of the rows of ships and of forms stand -/
def vE2 (ad adK adV : Nat → Nat) (tS tF : Nat) (tX sK sV : Nat → Nat) (A : Nat → Prop) (U : State) (H : Heap) : Prop := vE ad adK adV tS tF tX sK sV A U H ∧ va_AO "MoodSextant$Ship" U ∧ va_AO "MoodSextant$Form" U
theorem vE2_ok (ad adK adV : Nat → Nat) (tS tF : Nat) (tX sK sV : Nat → Nat) : vEok (vE2 ad adK adV tS tF tX sK sV) := by
  obtain ⟨h1, h2, h3, h4⟩ := vE_ok ad adK adV tS tF tX sK sV
  exact ⟨fun A U H H1 h hq => ⟨h1 A U H H1 h.1 hq, h.2⟩, fun A B U H h hAB => ⟨h2 A B U H h.1 hAB, h.2⟩, fun A u U H hW h => ⟨h3 A u U H hW h.1, va_AO.moved hW.alike h.2.1, va_AO.moved hW.alike h.2.2⟩, fun A u U H hv h => ⟨h4 A u U H hv h.1, va_AO.moved (by rw [hv]; exact Vm.Alike.refl _) h.2.1, va_AO.moved (by rw [hv]; exact Vm.Alike.refl _) h.2.2⟩⟩
theorem vC_of2 {p : Program} {l : Launch} {s : State} {m : MethodId} {args : Array Value} {meth : Method} {c : Code} {A : Nat → Prop} {D : va_G} {tys : List (ClassId × FieldType)} {cc : ByteArray} {nL : Nat} {own : String} {ad adK adV : Nat → Nat} {tS tF : Nat} {tX sK sV : Nat → Nat} (C : vC (vE2 ad adK adV tS tF tX sK sV) p l s m args meth c A D tys cc nL own) : vC (vE ad adK adV tS tF tX sK sV) p l s m args meth c A D tys cc nL own := ⟨C.1, C.2.1, C.2.2.1, C.2.2.2.1, C.2.2.2.2.1, C.2.2.2.2.2.1, C.2.2.2.2.2.2.1, C.2.2.2.2.2.2.2.1, vE_ok ad adK adV tS tF tX sK sV, C.2.2.2.2.2.2.2.2.2.1⟩
set_option maxRecDepth 100000 in
set_option maxHeartbeats 8000000 in
theorem mX3_init {ad adK adV : Nat → Nat} {tS tF : Nat} {tX sK sV : Nat → Nat} {l : Launch} {D : va_G} {cI cF cC cS cO cB cZ : ClassId} {h0 : Nat} (hE : vEok (vE2 ad adK adV tS tF tX sK sV)) : vMn (vE2 ad adK adV tS tF tX sK sV) l yX3_init cX3_init 1 1 60 1 140 D (vT7 cI cF cC cS cO cB cZ) h0 (.inr (3, [.null, .int 0])) (fun q => wLn (q 0) cI cC (fun _ _ => 0)) := by
  refine vMn_of hE (by decide) rfl (by decide) (fun p e s m args below meth c A C hr hin => ?_)
  have C : vC (vE2 ad adK adV tS tF tX sK sV) p l s m args meth c A D (vT7 cI cF cC cS cO cB cZ) cX3_init 1 RX3 := C
  refine vi_aload_n C 0 dX3_init_0 rfl ?_
  refine vi_objInit C tlX3_3 ti_objinit tc_objinit dX3_init_1 (by decide) (Nat.le_of_ble_eq_true rfl) ?_
  refine vi_aload_n C 0 dX3_init_4 rfl ?_
  refine vi_sipush (v := 140) C dX3_init_5 (by decide) ?_
  refine vi_newa (atype := .char) (ty := .char) (cA := cC) (N := 140) (a0 := (140, .inl (fun _ => 0))) C 2 tac_char rfl rfl (fun _ => rfl) (by decide) rfl (by decide) (Nat.le_of_ble_eq_true rfl) (Nat.le_of_ble_eq_true rfl) dX3_init_8 (fun a0 => ?_)
  refine vi_w C (w' := [(h0, .inr (3, [.null, .int 0])), (a0, .inl (cC, 140, .inl (fun _ => 0)))]) rfl ?_
  refine vi_putF (ref := "MoodSextant$Line") (ty := tyX3 0) (w2 := [(h0, .inr (3, [.ref (a0), .int 0])), (a0, .inl (cC, 140, .inl (fun _ => 0)))]) C 0 0 inX3w tyX3 tyX3_ok nmX3 rfl rfl (by decide) tfX3_9 rfl rfl hin rfl (tyX3_ok 0 (by decide)) rfl rfl (by show 0 < 2; decide) rfl dX3_init_10 ?_
  exact vi_retn C hr (fun _ j => [h0, a0].getD j 0) rfl rfl rfl rfl dX3_init_13
set_option maxRecDepth 100000 in
set_option maxHeartbeats 8000000 in
theorem mX4_init {ad adK adV : Nat → Nat} {tS tF : Nat} {tX sK sV : Nat → Nat} {l : Launch} {D : va_G} {cI cF cC cS cO cB cZ : ClassId} {h0 : Nat} (hE : vEok (vE2 ad adK adV tS tF tX sK sV)) : vMn (vE2 ad adK adV tS tF tX sK sV) l yX4_init cX4_init 1 1 60 2 4 D (vT7 cI cF cC cS cO cB cZ) h0 (.inr (4, [.null, .null, .int 0])) (fun q => wRe (q 0) cI (fun _ _ => 0)) := by
  refine vMn_of hE (by decide) rfl (by decide) (fun p e s m args below meth c A C hr hin => ?_)
  have C : vC (vE2 ad adK adV tS tF tX sK sV) p l s m args meth c A D (vT7 cI cF cC cS cO cB cZ) cX4_init 1 RX4 := C
  refine vi_aload_n C 0 dX4_init_0 rfl ?_
  refine vi_objInit C tlX4_1 ti_objinit tc_objinit dX4_init_1 (by decide) (Nat.le_of_ble_eq_true rfl) ?_
  refine vi_aload_n C 0 dX4_init_4 rfl ?_
  refine vi_iconst (v := 2) C dX4_init_5 (by decide) ?_
  refine vi_newa (atype := .int) (ty := .int) (cA := cI) (N := 2) (a0 := (2, .inl (fun _ => 0))) C 0 tac_int rfl rfl (fun _ => rfl) (by decide) rfl (by decide) (Nat.le_of_ble_eq_true rfl) (Nat.le_of_ble_eq_true rfl) dX4_init_6 (fun a0 => ?_)
  refine vi_w C (w' := [(h0, .inr (4, [.null, .null, .int 0])), (a0, .inl (cI, 2, .inl (fun _ => 0)))]) rfl ?_
  refine vi_putF (ref := "MoodSextant$Reasons") (ty := tyX4 0) (w2 := [(h0, .inr (4, [.ref (a0), .null, .int 0])), (a0, .inl (cI, 2, .inl (fun _ => 0)))]) C 0 0 inX4w tyX4 tyX4_ok nmX4 rfl rfl (by decide) tfX4_7 rfl rfl hin rfl (tyX4_ok 0 (by decide)) rfl rfl (by show 0 < 3; decide) rfl dX4_init_8 ?_
  refine vi_aload_n C 0 dX4_init_11 rfl ?_
  refine vi_iconst (v := 2) C dX4_init_12 (by decide) ?_
  refine vi_newa (atype := .int) (ty := .int) (cA := cI) (N := 2) (a0 := (2, .inl (fun _ => 0))) C 0 tac_int rfl rfl (fun _ => rfl) (by decide) rfl (by decide) (Nat.le_of_ble_eq_true rfl) (Nat.le_of_ble_eq_true rfl) dX4_init_13 (fun a1 => ?_)
  refine vi_w C (w' := [(h0, .inr (4, [.ref (a0), .null, .int 0])), (a0, .inl (cI, 2, .inl (fun _ => 0))), (a1, .inl (cI, 2, .inl (fun _ => 0)))]) rfl ?_
  refine vi_putF (ref := "MoodSextant$Reasons") (ty := tyX4 1) (w2 := [(h0, .inr (4, [.ref (a0), .ref (a1), .int 0])), (a0, .inl (cI, 2, .inl (fun _ => 0))), (a1, .inl (cI, 2, .inl (fun _ => 0)))]) C 0 1 inX4w tyX4 tyX4_ok nmX4 rfl rfl (by decide) tfX4_13 rfl rfl hin rfl (tyX4_ok 1 (by decide)) rfl rfl (by show 1 < 3; decide) rfl dX4_init_15 ?_
  exact vi_retn C hr (fun _ j => [h0, a0, a1].getD j 0) rfl rfl rfl rfl dX4_init_18
set_option maxRecDepth 100000 in
set_option maxHeartbeats 8000000 in
theorem mX6_init {ad adK adV : Nat → Nat} {tS tF : Nat} {tX sK sV : Nat → Nat} {l : Launch} {D : va_G} {cI cF cC cS cO cB cZ : ClassId} {h0 : Nat} (hE : vEok (vE2 ad adK adV tS tF tX sK sV)) : vMn (vE2 ad adK adV tS tF tX sK sV) l yX6_init cX6_init 1 1 60 4 105 D (vT7 cI cF cC cS cO cB cZ) h0 (.inr (6, [.null, .int 0, .null, .null, .null, .int 0])) (fun q => wTx (q 0) ad cI cC cO ((fun _ _ => 0), (fun _ => none))) := by
  refine vMn_of hE (by decide) rfl (by decide) (fun p e s m args below meth c A C hr hin => ?_)
  have C : vC (vE2 ad adK adV tS tF tX sK sV) p l s m args meth c A D (vT7 cI cF cC cS cO cB cZ) cX6_init 1 RX6 := C
  refine vi_aload_n C 0 dX6_init_0 rfl ?_
  refine vi_objInit C tlX6_3 ti_objinit tc_objinit dX6_init_1 (by decide) (Nat.le_of_ble_eq_true rfl) ?_
  refine vi_aload_n C 0 dX6_init_4 rfl ?_
  refine vi_bipush (v := 60) C dX6_init_5 (by decide) ?_
  refine vi_newa (atype := .char) (ty := .char) (cA := cC) (N := 60) (a0 := (60, .inl (fun _ => 0))) C 2 tac_char rfl rfl (fun _ => rfl) (by decide) rfl (by decide) (Nat.le_of_ble_eq_true rfl) (Nat.le_of_ble_eq_true rfl) dX6_init_7 (fun a0 => ?_)
  refine vi_w C (w' := [(h0, .inr (6, [.null, .int 0, .null, .null, .null, .int 0])), (a0, .inl (cC, 60, .inl (fun _ => 0)))]) rfl ?_
  refine vi_putF (ref := "MoodSextant$Text") (ty := tyX6 0) (w2 := [(h0, .inr (6, [.ref (a0), .int 0, .null, .null, .null, .int 0])), (a0, .inl (cC, 60, .inl (fun _ => 0)))]) C 0 0 inX6w tyX6 tyX6_ok nmX6 rfl rfl (by decide) tfX6_9 rfl rfl hin rfl (tyX6_ok 0 (by decide)) rfl rfl (by show 0 < 6; decide) rfl dX6_init_9 ?_
  refine vi_aload_n C 0 dX6_init_12 rfl ?_
  refine vi_bipush (v := 15) C dX6_init_13 (by decide) ?_
  refine vi_newq (cA := cO) (N := 15) C 4 tlcX6_15 C.2.2.2.2.2.2.2.2.2.2.2 rfl (by decide) rfl (by decide) (Nat.le_of_ble_eq_true rfl) (Nat.le_of_ble_eq_true rfl) dX6_init_15 (fun a1 => ?_)
  refine vi_w C (w' := [(h0, .inr (6, [.ref (a0), .int 0, .null, .null, .null, .int 0])), (a0, .inl (cC, 60, .inl (fun _ => 0))), (a1, .inl (cO, 15, .inr (.inr (.inr (.inr (fun _ => none))))))]) rfl ?_
  refine vi_putF (ref := "MoodSextant$Text") (ty := tyX6 2) (w2 := [(h0, .inr (6, [.ref (a0), .int 0, .ref (a1), .null, .null, .int 0])), (a0, .inl (cC, 60, .inl (fun _ => 0))), (a1, .inl (cO, 15, .inr (.inr (.inr (.inr (fun _ => none))))))]) C 0 2 inX6w tyX6 tyX6_ok nmX6 rfl rfl (by decide) tfX6_17 rfl rfl hin rfl (tyX6_ok 2 (by decide)) rfl rfl (by show 2 < 6; decide) rfl dX6_init_18 ?_
  refine vi_aload_n C 0 dX6_init_21 rfl ?_
  refine vi_bipush (v := 15) C dX6_init_22 (by decide) ?_
  refine vi_newa (atype := .int) (ty := .int) (cA := cI) (N := 15) (a0 := (15, .inl (fun _ => 0))) C 0 tac_int rfl rfl (fun _ => rfl) (by decide) rfl (by decide) (Nat.le_of_ble_eq_true rfl) (Nat.le_of_ble_eq_true rfl) dX6_init_24 (fun a2 => ?_)
  refine vi_w C (w' := [(h0, .inr (6, [.ref (a0), .int 0, .ref (a1), .null, .null, .int 0])), (a0, .inl (cC, 60, .inl (fun _ => 0))), (a1, .inl (cO, 15, .inr (.inr (.inr (.inr (fun _ => none)))))), (a2, .inl (cI, 15, .inl (fun _ => 0)))]) rfl ?_
  refine vi_putF (ref := "MoodSextant$Text") (ty := tyX6 3) (w2 := [(h0, .inr (6, [.ref (a0), .int 0, .ref (a1), .ref (a2), .null, .int 0])), (a0, .inl (cC, 60, .inl (fun _ => 0))), (a1, .inl (cO, 15, .inr (.inr (.inr (.inr (fun _ => none)))))), (a2, .inl (cI, 15, .inl (fun _ => 0)))]) C 0 3 inX6w tyX6 tyX6_ok nmX6 rfl rfl (by decide) tfX6_21 rfl rfl hin rfl (tyX6_ok 3 (by decide)) rfl rfl (by show 3 < 6; decide) rfl dX6_init_26 ?_
  refine vi_aload_n C 0 dX6_init_29 rfl ?_
  refine vi_bipush (v := 15) C dX6_init_30 (by decide) ?_
  refine vi_newa (atype := .int) (ty := .int) (cA := cI) (N := 15) (a0 := (15, .inl (fun _ => 0))) C 0 tac_int rfl rfl (fun _ => rfl) (by decide) rfl (by decide) (Nat.le_of_ble_eq_true rfl) (Nat.le_of_ble_eq_true rfl) dX6_init_32 (fun a3 => ?_)
  refine vi_w C (w' := [(h0, .inr (6, [.ref (a0), .int 0, .ref (a1), .ref (a2), .null, .int 0])), (a0, .inl (cC, 60, .inl (fun _ => 0))), (a1, .inl (cO, 15, .inr (.inr (.inr (.inr (fun _ => none)))))), (a2, .inl (cI, 15, .inl (fun _ => 0))), (a3, .inl (cI, 15, .inl (fun _ => 0)))]) rfl ?_
  refine vi_putF (ref := "MoodSextant$Text") (ty := tyX6 4) (w2 := [(h0, .inr (6, [.ref (a0), .int 0, .ref (a1), .ref (a2), .ref (a3), .int 0])), (a0, .inl (cC, 60, .inl (fun _ => 0))), (a1, .inl (cO, 15, .inr (.inr (.inr (.inr (fun _ => none)))))), (a2, .inl (cI, 15, .inl (fun _ => 0))), (a3, .inl (cI, 15, .inl (fun _ => 0)))]) C 0 4 inX6w tyX6 tyX6_ok nmX6 rfl rfl (by decide) tfX6_25 rfl rfl hin rfl (tyX6_ok 4 (by decide)) rfl rfl (by show 4 < 6; decide) rfl dX6_init_34 ?_
  exact vi_retn C hr (fun _ j => [h0, a0, a1, a2, a3].getD j 0) rfl rfl rfl rfl dX6_init_37
/-- a ship as it is made -/
def vH0 : vH := ((fun a => if a = 4 then upd (upd (upd (upd (fun _ => 0) 0 4) 1 4) 2 4) 3 4 else fun _ => 0), (fun _ => 0))
set_option maxRecDepth 100000 in
set_option maxHeartbeats 8000000 in
theorem mX5_init {ad adK adV : Nat → Nat} {tS tF : Nat} {tX sK sV : Nat → Nat} {l : Launch} {D : va_G} {cI cF cC cS cO cB cZ : ClassId} {h0 : Nat} (hE : vEok (vE2 ad adK adV tS tF tX sK sV)) : vMn (vE2 ad adK adV tS tF tX sK sV) l yX5_init cX5_init 2 1 60 7 58 D (vT7 cI cF cC cS cO cB cZ) h0 (.inr (5, [.int 0, .null, .null, .null, .null, .int 0, .int 0, .int 0, .null, .null, .null, .int 0, .int 0, .int 0, .int 0])) (fun q => wS (q 0) cI cF vH0) := by
  refine vMn_of hE (by decide) rfl (by decide) (fun p e s m args below meth c A C hr hin => ?_)
  have C : vC (vE2 ad adK adV tS tF tX sK sV) p l s m args meth c A D (vT7 cI cF cC cS cO cB cZ) cX5_init 2 RX5 := C
  refine vi_aload_n C 0 dX5_init_0 rfl ?_
  refine vi_objInit C tlX5_3 ti_objinit tc_objinit dX5_init_1 (by decide) (Nat.le_of_ble_eq_true rfl) ?_
  refine vi_aload_n C 0 dX5_init_4 rfl ?_
  refine vi_bipush (v := 8) C dX5_init_5 (by decide) ?_
  refine vi_newa (atype := .int) (ty := .int) (cA := cI) (N := 8) (a0 := (8, .inl (fun _ => 0))) C 0 tac_int rfl rfl (fun _ => rfl) (by decide) rfl (by decide) (Nat.le_of_ble_eq_true rfl) (Nat.le_of_ble_eq_true rfl) dX5_init_7 (fun a0 => ?_)
  refine vi_w C (w' := [(h0, .inr (5, [.int 0, .null, .null, .null, .null, .int 0, .int 0, .int 0, .null, .null, .null, .int 0, .int 0, .int 0, .int 0])), (a0, .inl (cI, 8, .inl (fun _ => 0)))]) rfl ?_
  refine vi_putF (ref := "MoodSextant$Ship") (ty := tyX5 1) (w2 := [(h0, .inr (5, [.int 0, .ref (a0), .null, .null, .null, .int 0, .int 0, .int 0, .null, .null, .null, .int 0, .int 0, .int 0, .int 0])), (a0, .inl (cI, 8, .inl (fun _ => 0)))]) C 0 1 inX5w tyX5 tyX5_ok nmX5 rfl rfl (by decide) tfX5_9 rfl rfl hin rfl (tyX5_ok 1 (by decide)) rfl rfl (by show 1 < 15; decide) rfl dX5_init_9 ?_
  refine vi_aload_n C 0 dX5_init_12 rfl ?_
  refine vi_bipush (v := 8) C dX5_init_13 (by decide) ?_
  refine vi_newa (atype := .int) (ty := .int) (cA := cI) (N := 8) (a0 := (8, .inl (fun _ => 0))) C 0 tac_int rfl rfl (fun _ => rfl) (by decide) rfl (by decide) (Nat.le_of_ble_eq_true rfl) (Nat.le_of_ble_eq_true rfl) dX5_init_15 (fun a1 => ?_)
  refine vi_w C (w' := [(h0, .inr (5, [.int 0, .ref (a0), .null, .null, .null, .int 0, .int 0, .int 0, .null, .null, .null, .int 0, .int 0, .int 0, .int 0])), (a0, .inl (cI, 8, .inl (fun _ => 0))), (a1, .inl (cI, 8, .inl (fun _ => 0)))]) rfl ?_
  refine vi_putF (ref := "MoodSextant$Ship") (ty := tyX5 2) (w2 := [(h0, .inr (5, [.int 0, .ref (a0), .ref (a1), .null, .null, .int 0, .int 0, .int 0, .null, .null, .null, .int 0, .int 0, .int 0, .int 0])), (a0, .inl (cI, 8, .inl (fun _ => 0))), (a1, .inl (cI, 8, .inl (fun _ => 0)))]) C 0 2 inX5w tyX5 tyX5_ok nmX5 rfl rfl (by decide) tfX5_15 rfl rfl hin rfl (tyX5_ok 2 (by decide)) rfl rfl (by show 2 < 15; decide) rfl dX5_init_17 ?_
  refine vi_aload_n C 0 dX5_init_20 rfl ?_
  refine vi_bipush (v := 8) C dX5_init_21 (by decide) ?_
  refine vi_newa (atype := .int) (ty := .int) (cA := cI) (N := 8) (a0 := (8, .inl (fun _ => 0))) C 0 tac_int rfl rfl (fun _ => rfl) (by decide) rfl (by decide) (Nat.le_of_ble_eq_true rfl) (Nat.le_of_ble_eq_true rfl) dX5_init_23 (fun a2 => ?_)
  refine vi_w C (w' := [(h0, .inr (5, [.int 0, .ref (a0), .ref (a1), .null, .null, .int 0, .int 0, .int 0, .null, .null, .null, .int 0, .int 0, .int 0, .int 0])), (a0, .inl (cI, 8, .inl (fun _ => 0))), (a1, .inl (cI, 8, .inl (fun _ => 0))), (a2, .inl (cI, 8, .inl (fun _ => 0)))]) rfl ?_
  refine vi_putF (ref := "MoodSextant$Ship") (ty := tyX5 3) (w2 := [(h0, .inr (5, [.int 0, .ref (a0), .ref (a1), .ref (a2), .null, .int 0, .int 0, .int 0, .null, .null, .null, .int 0, .int 0, .int 0, .int 0])), (a0, .inl (cI, 8, .inl (fun _ => 0))), (a1, .inl (cI, 8, .inl (fun _ => 0))), (a2, .inl (cI, 8, .inl (fun _ => 0)))]) C 0 3 inX5w tyX5 tyX5_ok nmX5 rfl rfl (by decide) tfX5_18 rfl rfl hin rfl (tyX5_ok 3 (by decide)) rfl rfl (by show 3 < 15; decide) rfl dX5_init_25 ?_
  refine vi_aload_n C 0 dX5_init_28 rfl ?_
  refine vi_iconst (v := 4) C dX5_init_29 (by decide) ?_
  refine vi_newa (atype := .int) (ty := .int) (cA := cI) (N := 4) (a0 := (4, .inl (fun _ => 0))) C 0 tac_int rfl rfl (fun _ => rfl) (by decide) rfl (by decide) (Nat.le_of_ble_eq_true rfl) (Nat.le_of_ble_eq_true rfl) dX5_init_30 (fun a3 => ?_)
  refine vi_w C (w' := [(h0, .inr (5, [.int 0, .ref (a0), .ref (a1), .ref (a2), .null, .int 0, .int 0, .int 0, .null, .null, .null, .int 0, .int 0, .int 0, .int 0])), (a0, .inl (cI, 8, .inl (fun _ => 0))), (a1, .inl (cI, 8, .inl (fun _ => 0))), (a2, .inl (cI, 8, .inl (fun _ => 0))), (a3, .inl (cI, 4, .inl (fun _ => 0)))]) rfl ?_
  refine vi_putF (ref := "MoodSextant$Ship") (ty := tyX5 4) (w2 := [(h0, .inr (5, [.int 0, .ref (a0), .ref (a1), .ref (a2), .ref (a3), .int 0, .int 0, .int 0, .null, .null, .null, .int 0, .int 0, .int 0, .int 0])), (a0, .inl (cI, 8, .inl (fun _ => 0))), (a1, .inl (cI, 8, .inl (fun _ => 0))), (a2, .inl (cI, 8, .inl (fun _ => 0))), (a3, .inl (cI, 4, .inl (fun _ => 0)))]) C 0 4 inX5w tyX5 tyX5_ok nmX5 rfl rfl (by decide) tfX5_21 rfl rfl hin rfl (tyX5_ok 4 (by decide)) rfl rfl (by show 4 < 15; decide) rfl dX5_init_32 ?_
  refine vi_aload_n C 0 dX5_init_35 rfl ?_
  refine vi_bipush (v := 10) C dX5_init_36 (by decide) ?_
  refine vi_newa (atype := .int) (ty := .int) (cA := cI) (N := 10) (a0 := (10, .inl (fun _ => 0))) C 0 tac_int rfl rfl (fun _ => rfl) (by decide) rfl (by decide) (Nat.le_of_ble_eq_true rfl) (Nat.le_of_ble_eq_true rfl) dX5_init_38 (fun a4 => ?_)
  refine vi_w C (w' := [(h0, .inr (5, [.int 0, .ref (a0), .ref (a1), .ref (a2), .ref (a3), .int 0, .int 0, .int 0, .null, .null, .null, .int 0, .int 0, .int 0, .int 0])), (a0, .inl (cI, 8, .inl (fun _ => 0))), (a1, .inl (cI, 8, .inl (fun _ => 0))), (a2, .inl (cI, 8, .inl (fun _ => 0))), (a3, .inl (cI, 4, .inl (fun _ => 0))), (a4, .inl (cI, 10, .inl (fun _ => 0)))]) rfl ?_
  refine vi_putF (ref := "MoodSextant$Ship") (ty := tyX5 8) (w2 := [(h0, .inr (5, [.int 0, .ref (a0), .ref (a1), .ref (a2), .ref (a3), .int 0, .int 0, .int 0, .ref (a4), .null, .null, .int 0, .int 0, .int 0, .int 0])), (a0, .inl (cI, 8, .inl (fun _ => 0))), (a1, .inl (cI, 8, .inl (fun _ => 0))), (a2, .inl (cI, 8, .inl (fun _ => 0))), (a3, .inl (cI, 4, .inl (fun _ => 0))), (a4, .inl (cI, 10, .inl (fun _ => 0)))]) C 0 8 inX5w tyX5 tyX5_ok nmX5 rfl rfl (by decide) tfX5_24 rfl rfl hin rfl (tyX5_ok 8 (by decide)) rfl rfl (by show 8 < 15; decide) rfl dX5_init_40 ?_
  refine vi_aload_n C 0 dX5_init_43 rfl ?_
  refine vi_bipush (v := 10) C dX5_init_44 (by decide) ?_
  refine vi_newa (atype := .int) (ty := .int) (cA := cI) (N := 10) (a0 := (10, .inl (fun _ => 0))) C 0 tac_int rfl rfl (fun _ => rfl) (by decide) rfl (by decide) (Nat.le_of_ble_eq_true rfl) (Nat.le_of_ble_eq_true rfl) dX5_init_46 (fun a5 => ?_)
  refine vi_w C (w' := [(h0, .inr (5, [.int 0, .ref (a0), .ref (a1), .ref (a2), .ref (a3), .int 0, .int 0, .int 0, .ref (a4), .null, .null, .int 0, .int 0, .int 0, .int 0])), (a0, .inl (cI, 8, .inl (fun _ => 0))), (a1, .inl (cI, 8, .inl (fun _ => 0))), (a2, .inl (cI, 8, .inl (fun _ => 0))), (a3, .inl (cI, 4, .inl (fun _ => 0))), (a4, .inl (cI, 10, .inl (fun _ => 0))), (a5, .inl (cI, 10, .inl (fun _ => 0)))]) rfl ?_
  refine vi_putF (ref := "MoodSextant$Ship") (ty := tyX5 9) (w2 := [(h0, .inr (5, [.int 0, .ref (a0), .ref (a1), .ref (a2), .ref (a3), .int 0, .int 0, .int 0, .ref (a4), .ref (a5), .null, .int 0, .int 0, .int 0, .int 0])), (a0, .inl (cI, 8, .inl (fun _ => 0))), (a1, .inl (cI, 8, .inl (fun _ => 0))), (a2, .inl (cI, 8, .inl (fun _ => 0))), (a3, .inl (cI, 4, .inl (fun _ => 0))), (a4, .inl (cI, 10, .inl (fun _ => 0))), (a5, .inl (cI, 10, .inl (fun _ => 0)))]) C 0 9 inX5w tyX5 tyX5_ok nmX5 rfl rfl (by decide) tfX5_27 rfl rfl hin rfl (tyX5_ok 9 (by decide)) rfl rfl (by show 9 < 15; decide) rfl dX5_init_48 ?_
  refine vi_aload_n C 0 dX5_init_51 rfl ?_
  refine vi_bipush (v := 10) C dX5_init_52 (by decide) ?_
  refine vi_newa (atype := .float) (ty := .float) (cA := cF) (N := 10) (a0 := (10, .inr (.inr (.inl (fun _ => 0))))) C 1 tac_float rfl rfl (fun _ => rfl) (by decide) rfl (by decide) (Nat.le_of_ble_eq_true rfl) (Nat.le_of_ble_eq_true rfl) dX5_init_54 (fun a6 => ?_)
  refine vi_w C (w' := [(h0, .inr (5, [.int 0, .ref (a0), .ref (a1), .ref (a2), .ref (a3), .int 0, .int 0, .int 0, .ref (a4), .ref (a5), .null, .int 0, .int 0, .int 0, .int 0])), (a0, .inl (cI, 8, .inl (fun _ => 0))), (a1, .inl (cI, 8, .inl (fun _ => 0))), (a2, .inl (cI, 8, .inl (fun _ => 0))), (a3, .inl (cI, 4, .inl (fun _ => 0))), (a4, .inl (cI, 10, .inl (fun _ => 0))), (a5, .inl (cI, 10, .inl (fun _ => 0))), (a6, .inl (cF, 10, .inr (.inr (.inl (fun _ => 0)))))]) rfl ?_
  refine vi_putF (ref := "MoodSextant$Ship") (ty := tyX5 10) (w2 := [(h0, .inr (5, [.int 0, .ref (a0), .ref (a1), .ref (a2), .ref (a3), .int 0, .int 0, .int 0, .ref (a4), .ref (a5), .ref (a6), .int 0, .int 0, .int 0, .int 0])), (a0, .inl (cI, 8, .inl (fun _ => 0))), (a1, .inl (cI, 8, .inl (fun _ => 0))), (a2, .inl (cI, 8, .inl (fun _ => 0))), (a3, .inl (cI, 4, .inl (fun _ => 0))), (a4, .inl (cI, 10, .inl (fun _ => 0))), (a5, .inl (cI, 10, .inl (fun _ => 0))), (a6, .inl (cF, 10, .inr (.inr (.inl (fun _ => 0)))))]) C 0 10 inX5w tyX5 tyX5_ok nmX5 rfl rfl (by decide) tfX5_30 rfl rfl hin rfl (tyX5_ok 10 (by decide)) rfl rfl (by show 10 < 15; decide) rfl dX5_init_56 ?_
  refine vi_iconst (v := 0) C dX5_init_59 (by decide) ?_
  refine vi_istore_n (lv' := [(1, .int (0 : Int32)), (0, .ref (h0))]) C dX5_init_60 rfl (by decide) rfl ?_
  refine vi_iload_n C 0 dX5_init_61 rfl ?_
  refine vi_iconst (v := 4) C dX5_init_62 (by decide) ?_
  refine vi_icmp_ge (tgt := 79) C dX5_init_63 (by decide) (fun hc => absurd hc (by decide)) (fun _ => ?_)
  refine vi_aload_n C 1 dX5_init_66 rfl ?_
  refine vi_get (ref := "MoodSextant$Ship") (v := .ref (a3)) C 0 4 inX5w rfl rfl (by decide) tfX5_21 rfl rfl dX5_init_67 ?_
  refine vi_iload_n C 0 dX5_init_70 rfl ?_
  refine vi_iconst (v := 4) C dX5_init_71 (by decide) ?_
  refine vi_iastn (w2 := [(h0, .inr (5, [.int 0, .ref (a0), .ref (a1), .ref (a2), .ref (a3), .int 0, .int 0, .int 0, .ref (a4), .ref (a5), .ref (a6), .int 0, .int 0, .int 0, .int 0])), (a0, .inl (cI, 8, .inl (fun _ => 0))), (a1, .inl (cI, 8, .inl (fun _ => 0))), (a2, .inl (cI, 8, .inl (fun _ => 0))), (a3, .inl (cI, 4, .inl (upd (fun _ => 0) 0 4))), (a4, .inl (cI, 10, .inl (fun _ => 0))), (a5, .inl (cI, 10, .inl (fun _ => 0))), (a6, .inl (cF, 10, .inr (.inr (.inl (fun _ => 0)))))]) C 4 0 0 (by decide) (by decide) (by decide) rfl rfl rfl dX5_init_72 ?_
  refine vi_iinc (v := (1 : Int32)) (lv' := [(1, .int (1 : Int32)), (0, .ref (h0))]) C 0 dX5_init_73 rfl (by decide) (by decide) rfl ?_
  refine vi_goto (tgt := 61) C dX5_init_76 (by decide) ?_
  refine vi_iload_n C 0 dX5_init_61 rfl ?_
  refine vi_iconst (v := 4) C dX5_init_62 (by decide) ?_
  refine vi_icmp_ge (tgt := 79) C dX5_init_63 (by decide) (fun hc => absurd hc (by decide)) (fun _ => ?_)
  refine vi_aload_n C 1 dX5_init_66 rfl ?_
  refine vi_get (ref := "MoodSextant$Ship") (v := .ref (a3)) C 0 4 inX5w rfl rfl (by decide) tfX5_21 rfl rfl dX5_init_67 ?_
  refine vi_iload_n C 0 dX5_init_70 rfl ?_
  refine vi_iconst (v := 4) C dX5_init_71 (by decide) ?_
  refine vi_iastn (w2 := [(h0, .inr (5, [.int 0, .ref (a0), .ref (a1), .ref (a2), .ref (a3), .int 0, .int 0, .int 0, .ref (a4), .ref (a5), .ref (a6), .int 0, .int 0, .int 0, .int 0])), (a0, .inl (cI, 8, .inl (fun _ => 0))), (a1, .inl (cI, 8, .inl (fun _ => 0))), (a2, .inl (cI, 8, .inl (fun _ => 0))), (a3, .inl (cI, 4, .inl (upd (upd (fun _ => 0) 0 4) 1 4))), (a4, .inl (cI, 10, .inl (fun _ => 0))), (a5, .inl (cI, 10, .inl (fun _ => 0))), (a6, .inl (cF, 10, .inr (.inr (.inl (fun _ => 0)))))]) C 4 0 1 (by decide) (by decide) (by decide) rfl rfl rfl dX5_init_72 ?_
  refine vi_iinc (v := (2 : Int32)) (lv' := [(1, .int (2 : Int32)), (0, .ref (h0))]) C 0 dX5_init_73 rfl (by decide) (by decide) rfl ?_
  refine vi_goto (tgt := 61) C dX5_init_76 (by decide) ?_
  refine vi_iload_n C 0 dX5_init_61 rfl ?_
  refine vi_iconst (v := 4) C dX5_init_62 (by decide) ?_
  refine vi_icmp_ge (tgt := 79) C dX5_init_63 (by decide) (fun hc => absurd hc (by decide)) (fun _ => ?_)
  refine vi_aload_n C 1 dX5_init_66 rfl ?_
  refine vi_get (ref := "MoodSextant$Ship") (v := .ref (a3)) C 0 4 inX5w rfl rfl (by decide) tfX5_21 rfl rfl dX5_init_67 ?_
  refine vi_iload_n C 0 dX5_init_70 rfl ?_
  refine vi_iconst (v := 4) C dX5_init_71 (by decide) ?_
  refine vi_iastn (w2 := [(h0, .inr (5, [.int 0, .ref (a0), .ref (a1), .ref (a2), .ref (a3), .int 0, .int 0, .int 0, .ref (a4), .ref (a5), .ref (a6), .int 0, .int 0, .int 0, .int 0])), (a0, .inl (cI, 8, .inl (fun _ => 0))), (a1, .inl (cI, 8, .inl (fun _ => 0))), (a2, .inl (cI, 8, .inl (fun _ => 0))), (a3, .inl (cI, 4, .inl (upd (upd (upd (fun _ => 0) 0 4) 1 4) 2 4))), (a4, .inl (cI, 10, .inl (fun _ => 0))), (a5, .inl (cI, 10, .inl (fun _ => 0))), (a6, .inl (cF, 10, .inr (.inr (.inl (fun _ => 0)))))]) C 4 0 2 (by decide) (by decide) (by decide) rfl rfl rfl dX5_init_72 ?_
  refine vi_iinc (v := (3 : Int32)) (lv' := [(1, .int (3 : Int32)), (0, .ref (h0))]) C 0 dX5_init_73 rfl (by decide) (by decide) rfl ?_
  refine vi_goto (tgt := 61) C dX5_init_76 (by decide) ?_
  refine vi_iload_n C 0 dX5_init_61 rfl ?_
  refine vi_iconst (v := 4) C dX5_init_62 (by decide) ?_
  refine vi_icmp_ge (tgt := 79) C dX5_init_63 (by decide) (fun hc => absurd hc (by decide)) (fun _ => ?_)
  refine vi_aload_n C 1 dX5_init_66 rfl ?_
  refine vi_get (ref := "MoodSextant$Ship") (v := .ref (a3)) C 0 4 inX5w rfl rfl (by decide) tfX5_21 rfl rfl dX5_init_67 ?_
  refine vi_iload_n C 0 dX5_init_70 rfl ?_
  refine vi_iconst (v := 4) C dX5_init_71 (by decide) ?_
  refine vi_iastn (w2 := [(h0, .inr (5, [.int 0, .ref (a0), .ref (a1), .ref (a2), .ref (a3), .int 0, .int 0, .int 0, .ref (a4), .ref (a5), .ref (a6), .int 0, .int 0, .int 0, .int 0])), (a0, .inl (cI, 8, .inl (fun _ => 0))), (a1, .inl (cI, 8, .inl (fun _ => 0))), (a2, .inl (cI, 8, .inl (fun _ => 0))), (a3, .inl (cI, 4, .inl (upd (upd (upd (upd (fun _ => 0) 0 4) 1 4) 2 4) 3 4))), (a4, .inl (cI, 10, .inl (fun _ => 0))), (a5, .inl (cI, 10, .inl (fun _ => 0))), (a6, .inl (cF, 10, .inr (.inr (.inl (fun _ => 0)))))]) C 4 0 3 (by decide) (by decide) (by decide) rfl rfl rfl dX5_init_72 ?_
  refine vi_iinc (v := (4 : Int32)) (lv' := [(1, .int (4 : Int32)), (0, .ref (h0))]) C 0 dX5_init_73 rfl (by decide) (by decide) rfl ?_
  refine vi_goto (tgt := 61) C dX5_init_76 (by decide) ?_
  refine vi_iload_n C 0 dX5_init_61 rfl ?_
  refine vi_iconst (v := 4) C dX5_init_62 (by decide) ?_
  refine vi_icmp_ge (tgt := 79) C dX5_init_63 (by decide) (fun _ => ?_) (fun hc => absurd (by decide) hc)
  exact vi_retn C hr (fun _ j => [h0, a0, a1, a2, a3, a4, a5, a6].getD j 0) rfl rfl rfl rfl dX5_init_79
