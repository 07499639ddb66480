/-- the same, and that the classes of the rows of ships and of forms stand -/
def vE2 (ad adK adV : Nat → Nat) (tS tF : Nat) (A : Nat → Prop) (U : State) (H : Heap) : Prop := vE ad adK adV tS tF A U H ∧ va_AO "MoodSextant$Ship" U ∧ va_AO "MoodSextant$Form" U
theorem vE2_ok (ad adK adV : Nat → Nat) (tS tF : Nat) : vEok (vE2 ad adK adV tS tF) := by
  obtain ⟨h1, h2, h3, h4⟩ := vE_ok ad adK adV tS tF
  exact ⟨fun A U H H1 h hq => ⟨h1 A U H H1 h.1 hq, h.2⟩, fun A B U H h hAB => ⟨h2 A B U H h.1 hAB, h.2⟩, fun A u U H hW h => ⟨h3 A u U H hW h.1, va_AO.moved hW.alike h.2.1, va_AO.moved hW.alike h.2.2⟩, fun A u U H hv h => ⟨h4 A u U H hv h.1, va_AO.moved (by rw [hv]; exact Vm.Alike.refl _) h.2.1, va_AO.moved (by rw [hv]; exact Vm.Alike.refl _) h.2.2⟩⟩
theorem vC_of2 {p : Program} {l : Launch} {s : State} {m : MethodId} {args : Array Value} {meth : Method} {c : Code} {A : Nat → Prop} {D : va_G} {tys : List (ClassId × FieldType)} {cc : ByteArray} {nL : Nat} {own : String} {ad adK adV : Nat → Nat} {tS tF : Nat} (C : vC (vE2 ad adK adV tS tF) p l s m args meth c A D tys cc nL own) : vC (vE ad adK adV tS tF) p l s m args meth c A D tys cc nL own := ⟨C.1, C.2.1, C.2.2.1, C.2.2.2.1, C.2.2.2.2.1, C.2.2.2.2.2.1, C.2.2.2.2.2.2.1, C.2.2.2.2.2.2.2.1, vE_ok ad adK adV tS tF, C.2.2.2.2.2.2.2.2.2.1⟩
set_option maxRecDepth 100000 in
set_option maxHeartbeats 8000000 in
theorem mX3_init {ad adK adV : Nat → Nat} {tS tF : Nat} {l : Launch} {D : va_G} {cI cF cC cS cO : ClassId} {h0 : Nat} (hE : vEok (vE2 ad adK adV tS tF)) : vMn (vE2 ad adK adV tS tF) l yX3_init cX3_init 1 1 60 1 140 D (vT5 cI cF cC cS cO) h0 (.inr (1, [.null, .int 0])) (fun q => wLn (q 0) cI cC (fun _ _ => 0)) := by
  refine vMn_of hE (by decide) rfl (by decide) (fun p e s m args below meth c A C hr hin => ?_)
  have C : vC (vE2 ad adK adV tS tF) p l s m args meth c A D (vT5 cI cF cC cS cO) cX3_init 1 RX3 := C
  refine vi_aload_n C 0 dX3_init_0 rfl ?_
  refine vi_objInit C tlX3_3 ti_objinit tc_objinit dX3_init_1 (by decide) (Nat.le_of_ble_eq_true rfl) ?_
  refine vi_aload_n C 0 dX3_init_4 rfl ?_
  refine vi_sipush (v := 140) C dX3_init_5 (by decide) ?_
  refine vi_newa (atype := .char) (ty := .char) (cA := cC) (N := 140) (a0 := (140, .inl (fun _ => 0))) C 2 tac_char rfl rfl (fun _ => rfl) (by decide) rfl (by decide) (Nat.le_of_ble_eq_true rfl) (Nat.le_of_ble_eq_true rfl) dX3_init_8 (fun a0 => ?_)
  refine vi_w C (w' := [(h0, .inr (1, [.null, .int 0])), (a0, .inl (cC, 140, .inl (fun _ => 0)))]) rfl ?_
  refine vi_putF (ref := "MoodSextant$Line") (ty := tyX3 0) (w2 := [(h0, .inr (1, [.ref (a0), .int 0])), (a0, .inl (cC, 140, .inl (fun _ => 0)))]) C 0 0 inX3w tyX3 tyX3_ok nmX3 rfl rfl (by decide) tfX3_9 rfl rfl hin rfl (tyX3_ok 0 (by decide)) rfl rfl (by show 0 < 2; decide) rfl dX3_init_10 ?_
  exact vi_retn C hr (fun _ j => [h0, a0].getD j 0) rfl rfl rfl rfl dX3_init_13
set_option maxRecDepth 100000 in
set_option maxHeartbeats 8000000 in
theorem mX4_init {ad adK adV : Nat → Nat} {tS tF : Nat} {l : Launch} {D : va_G} {cI cF cC cS cO : ClassId} {h0 : Nat} (hE : vEok (vE2 ad adK adV tS tF)) : vMn (vE2 ad adK adV tS tF) l yX4_init cX4_init 1 1 60 2 4 D (vT5 cI cF cC cS cO) h0 (.inr (2, [.null, .null, .int 0])) (fun q => wRe (q 0) cI (fun _ _ => 0)) := by
  refine vMn_of hE (by decide) rfl (by decide) (fun p e s m args below meth c A C hr hin => ?_)
  have C : vC (vE2 ad adK adV tS tF) p l s m args meth c A D (vT5 cI cF cC cS cO) cX4_init 1 RX4 := C
  refine vi_aload_n C 0 dX4_init_0 rfl ?_
  refine vi_objInit C tlX4_1 ti_objinit tc_objinit dX4_init_1 (by decide) (Nat.le_of_ble_eq_true rfl) ?_
  refine vi_aload_n C 0 dX4_init_4 rfl ?_
  refine vi_iconst (v := 2) C dX4_init_5 (by decide) ?_
  refine vi_newa (atype := .int) (ty := .int) (cA := cI) (N := 2) (a0 := (2, .inl (fun _ => 0))) C 0 tac_int rfl rfl (fun _ => rfl) (by decide) rfl (by decide) (Nat.le_of_ble_eq_true rfl) (Nat.le_of_ble_eq_true rfl) dX4_init_6 (fun a0 => ?_)
  refine vi_w C (w' := [(h0, .inr (2, [.null, .null, .int 0])), (a0, .inl (cI, 2, .inl (fun _ => 0)))]) rfl ?_
  refine vi_putF (ref := "MoodSextant$Reasons") (ty := tyX4 0) (w2 := [(h0, .inr (2, [.ref (a0), .null, .int 0])), (a0, .inl (cI, 2, .inl (fun _ => 0)))]) C 0 0 inX4w tyX4 tyX4_ok nmX4 rfl rfl (by decide) tfX4_7 rfl rfl hin rfl (tyX4_ok 0 (by decide)) rfl rfl (by show 0 < 3; decide) rfl dX4_init_8 ?_
  refine vi_aload_n C 0 dX4_init_11 rfl ?_
  refine vi_iconst (v := 2) C dX4_init_12 (by decide) ?_
  refine vi_newa (atype := .int) (ty := .int) (cA := cI) (N := 2) (a0 := (2, .inl (fun _ => 0))) C 0 tac_int rfl rfl (fun _ => rfl) (by decide) rfl (by decide) (Nat.le_of_ble_eq_true rfl) (Nat.le_of_ble_eq_true rfl) dX4_init_13 (fun a1 => ?_)
  refine vi_w C (w' := [(h0, .inr (2, [.ref (a0), .null, .int 0])), (a0, .inl (cI, 2, .inl (fun _ => 0))), (a1, .inl (cI, 2, .inl (fun _ => 0)))]) rfl ?_
  refine vi_putF (ref := "MoodSextant$Reasons") (ty := tyX4 1) (w2 := [(h0, .inr (2, [.ref (a0), .ref (a1), .int 0])), (a0, .inl (cI, 2, .inl (fun _ => 0))), (a1, .inl (cI, 2, .inl (fun _ => 0)))]) C 0 1 inX4w tyX4 tyX4_ok nmX4 rfl rfl (by decide) tfX4_13 rfl rfl hin rfl (tyX4_ok 1 (by decide)) rfl rfl (by show 1 < 3; decide) rfl dX4_init_15 ?_
  exact vi_retn C hr (fun _ j => [h0, a0, a1].getD j 0) rfl rfl rfl rfl dX4_init_18
set_option maxRecDepth 100000 in
set_option maxHeartbeats 8000000 in
theorem mX6_init {ad adK adV : Nat → Nat} {tS tF : Nat} {l : Launch} {D : va_G} {cI cF cC cS cO : ClassId} {h0 : Nat} (hE : vEok (vE2 ad adK adV tS tF)) : vMn (vE2 ad adK adV tS tF) l yX6_init cX6_init 1 1 60 4 105 D (vT5 cI cF cC cS cO) h0 (.inr (4, [.null, .int 0, .null, .null, .null, .int 0])) (fun q => wTx (q 0) ad cI cC cO ((fun _ _ => 0), (fun _ => none))) := by
  refine vMn_of hE (by decide) rfl (by decide) (fun p e s m args below meth c A C hr hin => ?_)
  have C : vC (vE2 ad adK adV tS tF) p l s m args meth c A D (vT5 cI cF cC cS cO) cX6_init 1 RX6 := C
  refine vi_aload_n C 0 dX6_init_0 rfl ?_
  refine vi_objInit C tlX6_3 ti_objinit tc_objinit dX6_init_1 (by decide) (Nat.le_of_ble_eq_true rfl) ?_
  refine vi_aload_n C 0 dX6_init_4 rfl ?_
  refine vi_bipush (v := 60) C dX6_init_5 (by decide) ?_
  refine vi_newa (atype := .char) (ty := .char) (cA := cC) (N := 60) (a0 := (60, .inl (fun _ => 0))) C 2 tac_char rfl rfl (fun _ => rfl) (by decide) rfl (by decide) (Nat.le_of_ble_eq_true rfl) (Nat.le_of_ble_eq_true rfl) dX6_init_7 (fun a0 => ?_)
  refine vi_w C (w' := [(h0, .inr (4, [.null, .int 0, .null, .null, .null, .int 0])), (a0, .inl (cC, 60, .inl (fun _ => 0)))]) rfl ?_
  refine vi_putF (ref := "MoodSextant$Text") (ty := tyX6 0) (w2 := [(h0, .inr (4, [.ref (a0), .int 0, .null, .null, .null, .int 0])), (a0, .inl (cC, 60, .inl (fun _ => 0)))]) C 0 0 inX6w tyX6 tyX6_ok nmX6 rfl rfl (by decide) tfX6_9 rfl rfl hin rfl (tyX6_ok 0 (by decide)) rfl rfl (by show 0 < 6; decide) rfl dX6_init_9 ?_
  refine vi_aload_n C 0 dX6_init_12 rfl ?_
  refine vi_bipush (v := 15) C dX6_init_13 (by decide) ?_
  refine vi_newq (cA := cO) (N := 15) C 4 tlcX6_15 C.2.2.2.2.2.2.2.2.2.2.2 rfl (by decide) rfl (by decide) (Nat.le_of_ble_eq_true rfl) (Nat.le_of_ble_eq_true rfl) dX6_init_15 (fun a1 => ?_)
  refine vi_w C (w' := [(h0, .inr (4, [.ref (a0), .int 0, .null, .null, .null, .int 0])), (a0, .inl (cC, 60, .inl (fun _ => 0))), (a1, .inl (cO, 15, .inr (.inr (.inr (.inr (fun _ => none))))))]) rfl ?_
  refine vi_putF (ref := "MoodSextant$Text") (ty := tyX6 2) (w2 := [(h0, .inr (4, [.ref (a0), .int 0, .ref (a1), .null, .null, .int 0])), (a0, .inl (cC, 60, .inl (fun _ => 0))), (a1, .inl (cO, 15, .inr (.inr (.inr (.inr (fun _ => none))))))]) C 0 2 inX6w tyX6 tyX6_ok nmX6 rfl rfl (by decide) tfX6_17 rfl rfl hin rfl (tyX6_ok 2 (by decide)) rfl rfl (by show 2 < 6; decide) rfl dX6_init_18 ?_
  refine vi_aload_n C 0 dX6_init_21 rfl ?_
  refine vi_bipush (v := 15) C dX6_init_22 (by decide) ?_
  refine vi_newa (atype := .int) (ty := .int) (cA := cI) (N := 15) (a0 := (15, .inl (fun _ => 0))) C 0 tac_int rfl rfl (fun _ => rfl) (by decide) rfl (by decide) (Nat.le_of_ble_eq_true rfl) (Nat.le_of_ble_eq_true rfl) dX6_init_24 (fun a2 => ?_)
  refine vi_w C (w' := [(h0, .inr (4, [.ref (a0), .int 0, .ref (a1), .null, .null, .int 0])), (a0, .inl (cC, 60, .inl (fun _ => 0))), (a1, .inl (cO, 15, .inr (.inr (.inr (.inr (fun _ => none)))))), (a2, .inl (cI, 15, .inl (fun _ => 0)))]) rfl ?_
  refine vi_putF (ref := "MoodSextant$Text") (ty := tyX6 3) (w2 := [(h0, .inr (4, [.ref (a0), .int 0, .ref (a1), .ref (a2), .null, .int 0])), (a0, .inl (cC, 60, .inl (fun _ => 0))), (a1, .inl (cO, 15, .inr (.inr (.inr (.inr (fun _ => none)))))), (a2, .inl (cI, 15, .inl (fun _ => 0)))]) C 0 3 inX6w tyX6 tyX6_ok nmX6 rfl rfl (by decide) tfX6_21 rfl rfl hin rfl (tyX6_ok 3 (by decide)) rfl rfl (by show 3 < 6; decide) rfl dX6_init_26 ?_
  refine vi_aload_n C 0 dX6_init_29 rfl ?_
  refine vi_bipush (v := 15) C dX6_init_30 (by decide) ?_
  refine vi_newa (atype := .int) (ty := .int) (cA := cI) (N := 15) (a0 := (15, .inl (fun _ => 0))) C 0 tac_int rfl rfl (fun _ => rfl) (by decide) rfl (by decide) (Nat.le_of_ble_eq_true rfl) (Nat.le_of_ble_eq_true rfl) dX6_init_32 (fun a3 => ?_)
  refine vi_w C (w' := [(h0, .inr (4, [.ref (a0), .int 0, .ref (a1), .ref (a2), .null, .int 0])), (a0, .inl (cC, 60, .inl (fun _ => 0))), (a1, .inl (cO, 15, .inr (.inr (.inr (.inr (fun _ => none)))))), (a2, .inl (cI, 15, .inl (fun _ => 0))), (a3, .inl (cI, 15, .inl (fun _ => 0)))]) rfl ?_
  refine vi_putF (ref := "MoodSextant$Text") (ty := tyX6 4) (w2 := [(h0, .inr (4, [.ref (a0), .int 0, .ref (a1), .ref (a2), .ref (a3), .int 0])), (a0, .inl (cC, 60, .inl (fun _ => 0))), (a1, .inl (cO, 15, .inr (.inr (.inr (.inr (fun _ => none)))))), (a2, .inl (cI, 15, .inl (fun _ => 0))), (a3, .inl (cI, 15, .inl (fun _ => 0)))]) C 0 4 inX6w tyX6 tyX6_ok nmX6 rfl rfl (by decide) tfX6_25 rfl rfl hin rfl (tyX6_ok 4 (by decide)) rfl rfl (by show 4 < 6; decide) rfl dX6_init_34 ?_
  exact vi_retn C hr (fun _ j => [h0, a0, a1, a2, a3].getD j 0) rfl rfl rfl rfl dX6_init_37
/-- a ship as it is made -/
def vH0 : vH := ((fun a => if a = 4 then upd (upd (upd (upd (fun _ => 0) 0 4) 1 4) 2 4) 3 4 else fun _ => 0), (fun _ => 0))
set_option maxRecDepth 100000 in
set_option maxHeartbeats 8000000 in
theorem mX5_init {ad adK adV : Nat → Nat} {tS tF : Nat} {l : Launch} {D : va_G} {cI cF cC cS cO : ClassId} {h0 : Nat} (hE : vEok (vE2 ad adK adV tS tF)) : vMn (vE2 ad adK adV tS tF) l yX5_init cX5_init 2 1 60 7 58 D (vT5 cI cF cC cS cO) h0 (.inr (3, [.int 0, .null, .null, .null, .null, .int 0, .int 0, .int 0, .null, .null, .null, .int 0, .int 0, .int 0, .int 0])) (fun q => wS (q 0) cI cF vH0) := by
  refine vMn_of hE (by decide) rfl (by decide) (fun p e s m args below meth c A C hr hin => ?_)
  have C : vC (vE2 ad adK adV tS tF) p l s m args meth c A D (vT5 cI cF cC cS cO) cX5_init 2 RX5 := C
  refine vi_aload_n C 0 dX5_init_0 rfl ?_
  refine vi_objInit C tlX5_3 ti_objinit tc_objinit dX5_init_1 (by decide) (Nat.le_of_ble_eq_true rfl) ?_
  refine vi_aload_n C 0 dX5_init_4 rfl ?_
  refine vi_bipush (v := 8) C dX5_init_5 (by decide) ?_
  refine vi_newa (atype := .int) (ty := .int) (cA := cI) (N := 8) (a0 := (8, .inl (fun _ => 0))) C 0 tac_int rfl rfl (fun _ => rfl) (by decide) rfl (by decide) (Nat.le_of_ble_eq_true rfl) (Nat.le_of_ble_eq_true rfl) dX5_init_7 (fun a0 => ?_)
  refine vi_w C (w' := [(h0, .inr (3, [.int 0, .null, .null, .null, .null, .int 0, .int 0, .int 0, .null, .null, .null, .int 0, .int 0, .int 0, .int 0])), (a0, .inl (cI, 8, .inl (fun _ => 0)))]) rfl ?_
  refine vi_putF (ref := "MoodSextant$Ship") (ty := tyX5 1) (w2 := [(h0, .inr (3, [.int 0, .ref (a0), .null, .null, .null, .int 0, .int 0, .int 0, .null, .null, .null, .int 0, .int 0, .int 0, .int 0])), (a0, .inl (cI, 8, .inl (fun _ => 0)))]) C 0 1 inX5w tyX5 tyX5_ok nmX5 rfl rfl (by decide) tfX5_9 rfl rfl hin rfl (tyX5_ok 1 (by decide)) rfl rfl (by show 1 < 15; decide) rfl dX5_init_9 ?_
  refine vi_aload_n C 0 dX5_init_12 rfl ?_
  refine vi_bipush (v := 8) C dX5_init_13 (by decide) ?_
  refine vi_newa (atype := .int) (ty := .int) (cA := cI) (N := 8) (a0 := (8, .inl (fun _ => 0))) C 0 tac_int rfl rfl (fun _ => rfl) (by decide) rfl (by decide) (Nat.le_of_ble_eq_true rfl) (Nat.le_of_ble_eq_true rfl) dX5_init_15 (fun a1 => ?_)
  refine vi_w C (w' := [(h0, .inr (3, [.int 0, .ref (a0), .null, .null, .null, .int 0, .int 0, .int 0, .null, .null, .null, .int 0, .int 0, .int 0, .int 0])), (a0, .inl (cI, 8, .inl (fun _ => 0))), (a1, .inl (cI, 8, .inl (fun _ => 0)))]) rfl ?_
  refine vi_putF (ref := "MoodSextant$Ship") (ty := tyX5 2) (w2 := [(h0, .inr (3, [.int 0, .ref (a0), .ref (a1), .null, .null, .int 0, .int 0, .int 0, .null, .null, .null, .int 0, .int 0, .int 0, .int 0])), (a0, .inl (cI, 8, .inl (fun _ => 0))), (a1, .inl (cI, 8, .inl (fun _ => 0)))]) C 0 2 inX5w tyX5 tyX5_ok nmX5 rfl rfl (by decide) tfX5_15 rfl rfl hin rfl (tyX5_ok 2 (by decide)) rfl rfl (by show 2 < 15; decide) rfl dX5_init_17 ?_
  refine vi_aload_n C 0 dX5_init_20 rfl ?_
  refine vi_bipush (v := 8) C dX5_init_21 (by decide) ?_
  refine vi_newa (atype := .int) (ty := .int) (cA := cI) (N := 8) (a0 := (8, .inl (fun _ => 0))) C 0 tac_int rfl rfl (fun _ => rfl) (by decide) rfl (by decide) (Nat.le_of_ble_eq_true rfl) (Nat.le_of_ble_eq_true rfl) dX5_init_23 (fun a2 => ?_)
  refine vi_w C (w' := [(h0, .inr (3, [.int 0, .ref (a0), .ref (a1), .null, .null, .int 0, .int 0, .int 0, .null, .null, .null, .int 0, .int 0, .int 0, .int 0])), (a0, .inl (cI, 8, .inl (fun _ => 0))), (a1, .inl (cI, 8, .inl (fun _ => 0))), (a2, .inl (cI, 8, .inl (fun _ => 0)))]) rfl ?_
  refine vi_putF (ref := "MoodSextant$Ship") (ty := tyX5 3) (w2 := [(h0, .inr (3, [.int 0, .ref (a0), .ref (a1), .ref (a2), .null, .int 0, .int 0, .int 0, .null, .null, .null, .int 0, .int 0, .int 0, .int 0])), (a0, .inl (cI, 8, .inl (fun _ => 0))), (a1, .inl (cI, 8, .inl (fun _ => 0))), (a2, .inl (cI, 8, .inl (fun _ => 0)))]) C 0 3 inX5w tyX5 tyX5_ok nmX5 rfl rfl (by decide) tfX5_18 rfl rfl hin rfl (tyX5_ok 3 (by decide)) rfl rfl (by show 3 < 15; decide) rfl dX5_init_25 ?_
  refine vi_aload_n C 0 dX5_init_28 rfl ?_
  refine vi_iconst (v := 4) C dX5_init_29 (by decide) ?_
  refine vi_newa (atype := .int) (ty := .int) (cA := cI) (N := 4) (a0 := (4, .inl (fun _ => 0))) C 0 tac_int rfl rfl (fun _ => rfl) (by decide) rfl (by decide) (Nat.le_of_ble_eq_true rfl) (Nat.le_of_ble_eq_true rfl) dX5_init_30 (fun a3 => ?_)
  refine vi_w C (w' := [(h0, .inr (3, [.int 0, .ref (a0), .ref (a1), .ref (a2), .null, .int 0, .int 0, .int 0, .null, .null, .null, .int 0, .int 0, .int 0, .int 0])), (a0, .inl (cI, 8, .inl (fun _ => 0))), (a1, .inl (cI, 8, .inl (fun _ => 0))), (a2, .inl (cI, 8, .inl (fun _ => 0))), (a3, .inl (cI, 4, .inl (fun _ => 0)))]) rfl ?_
  refine vi_putF (ref := "MoodSextant$Ship") (ty := tyX5 4) (w2 := [(h0, .inr (3, [.int 0, .ref (a0), .ref (a1), .ref (a2), .ref (a3), .int 0, .int 0, .int 0, .null, .null, .null, .int 0, .int 0, .int 0, .int 0])), (a0, .inl (cI, 8, .inl (fun _ => 0))), (a1, .inl (cI, 8, .inl (fun _ => 0))), (a2, .inl (cI, 8, .inl (fun _ => 0))), (a3, .inl (cI, 4, .inl (fun _ => 0)))]) C 0 4 inX5w tyX5 tyX5_ok nmX5 rfl rfl (by decide) tfX5_21 rfl rfl hin rfl (tyX5_ok 4 (by decide)) rfl rfl (by show 4 < 15; decide) rfl dX5_init_32 ?_
  refine vi_aload_n C 0 dX5_init_35 rfl ?_
  refine vi_bipush (v := 10) C dX5_init_36 (by decide) ?_
  refine vi_newa (atype := .int) (ty := .int) (cA := cI) (N := 10) (a0 := (10, .inl (fun _ => 0))) C 0 tac_int rfl rfl (fun _ => rfl) (by decide) rfl (by decide) (Nat.le_of_ble_eq_true rfl) (Nat.le_of_ble_eq_true rfl) dX5_init_38 (fun a4 => ?_)
  refine vi_w C (w' := [(h0, .inr (3, [.int 0, .ref (a0), .ref (a1), .ref (a2), .ref (a3), .int 0, .int 0, .int 0, .null, .null, .null, .int 0, .int 0, .int 0, .int 0])), (a0, .inl (cI, 8, .inl (fun _ => 0))), (a1, .inl (cI, 8, .inl (fun _ => 0))), (a2, .inl (cI, 8, .inl (fun _ => 0))), (a3, .inl (cI, 4, .inl (fun _ => 0))), (a4, .inl (cI, 10, .inl (fun _ => 0)))]) rfl ?_
  refine vi_putF (ref := "MoodSextant$Ship") (ty := tyX5 8) (w2 := [(h0, .inr (3, [.int 0, .ref (a0), .ref (a1), .ref (a2), .ref (a3), .int 0, .int 0, .int 0, .ref (a4), .null, .null, .int 0, .int 0, .int 0, .int 0])), (a0, .inl (cI, 8, .inl (fun _ => 0))), (a1, .inl (cI, 8, .inl (fun _ => 0))), (a2, .inl (cI, 8, .inl (fun _ => 0))), (a3, .inl (cI, 4, .inl (fun _ => 0))), (a4, .inl (cI, 10, .inl (fun _ => 0)))]) C 0 8 inX5w tyX5 tyX5_ok nmX5 rfl rfl (by decide) tfX5_24 rfl rfl hin rfl (tyX5_ok 8 (by decide)) rfl rfl (by show 8 < 15; decide) rfl dX5_init_40 ?_
  refine vi_aload_n C 0 dX5_init_43 rfl ?_
  refine vi_bipush (v := 10) C dX5_init_44 (by decide) ?_
  refine vi_newa (atype := .int) (ty := .int) (cA := cI) (N := 10) (a0 := (10, .inl (fun _ => 0))) C 0 tac_int rfl rfl (fun _ => rfl) (by decide) rfl (by decide) (Nat.le_of_ble_eq_true rfl) (Nat.le_of_ble_eq_true rfl) dX5_init_46 (fun a5 => ?_)
  refine vi_w C (w' := [(h0, .inr (3, [.int 0, .ref (a0), .ref (a1), .ref (a2), .ref (a3), .int 0, .int 0, .int 0, .ref (a4), .null, .null, .int 0, .int 0, .int 0, .int 0])), (a0, .inl (cI, 8, .inl (fun _ => 0))), (a1, .inl (cI, 8, .inl (fun _ => 0))), (a2, .inl (cI, 8, .inl (fun _ => 0))), (a3, .inl (cI, 4, .inl (fun _ => 0))), (a4, .inl (cI, 10, .inl (fun _ => 0))), (a5, .inl (cI, 10, .inl (fun _ => 0)))]) rfl ?_
  refine vi_putF (ref := "MoodSextant$Ship") (ty := tyX5 9) (w2 := [(h0, .inr (3, [.int 0, .ref (a0), .ref (a1), .ref (a2), .ref (a3), .int 0, .int 0, .int 0, .ref (a4), .ref (a5), .null, .int 0, .int 0, .int 0, .int 0])), (a0, .inl (cI, 8, .inl (fun _ => 0))), (a1, .inl (cI, 8, .inl (fun _ => 0))), (a2, .inl (cI, 8, .inl (fun _ => 0))), (a3, .inl (cI, 4, .inl (fun _ => 0))), (a4, .inl (cI, 10, .inl (fun _ => 0))), (a5, .inl (cI, 10, .inl (fun _ => 0)))]) C 0 9 inX5w tyX5 tyX5_ok nmX5 rfl rfl (by decide) tfX5_27 rfl rfl hin rfl (tyX5_ok 9 (by decide)) rfl rfl (by show 9 < 15; decide) rfl dX5_init_48 ?_
  refine vi_aload_n C 0 dX5_init_51 rfl ?_
  refine vi_bipush (v := 10) C dX5_init_52 (by decide) ?_
  refine vi_newa (atype := .float) (ty := .float) (cA := cF) (N := 10) (a0 := (10, .inr (.inr (.inl (fun _ => 0))))) C 1 tac_float rfl rfl (fun _ => rfl) (by decide) rfl (by decide) (Nat.le_of_ble_eq_true rfl) (Nat.le_of_ble_eq_true rfl) dX5_init_54 (fun a6 => ?_)
  refine vi_w C (w' := [(h0, .inr (3, [.int 0, .ref (a0), .ref (a1), .ref (a2), .ref (a3), .int 0, .int 0, .int 0, .ref (a4), .ref (a5), .null, .int 0, .int 0, .int 0, .int 0])), (a0, .inl (cI, 8, .inl (fun _ => 0))), (a1, .inl (cI, 8, .inl (fun _ => 0))), (a2, .inl (cI, 8, .inl (fun _ => 0))), (a3, .inl (cI, 4, .inl (fun _ => 0))), (a4, .inl (cI, 10, .inl (fun _ => 0))), (a5, .inl (cI, 10, .inl (fun _ => 0))), (a6, .inl (cF, 10, .inr (.inr (.inl (fun _ => 0)))))]) rfl ?_
  refine vi_putF (ref := "MoodSextant$Ship") (ty := tyX5 10) (w2 := [(h0, .inr (3, [.int 0, .ref (a0), .ref (a1), .ref (a2), .ref (a3), .int 0, .int 0, .int 0, .ref (a4), .ref (a5), .ref (a6), .int 0, .int 0, .int 0, .int 0])), (a0, .inl (cI, 8, .inl (fun _ => 0))), (a1, .inl (cI, 8, .inl (fun _ => 0))), (a2, .inl (cI, 8, .inl (fun _ => 0))), (a3, .inl (cI, 4, .inl (fun _ => 0))), (a4, .inl (cI, 10, .inl (fun _ => 0))), (a5, .inl (cI, 10, .inl (fun _ => 0))), (a6, .inl (cF, 10, .inr (.inr (.inl (fun _ => 0)))))]) C 0 10 inX5w tyX5 tyX5_ok nmX5 rfl rfl (by decide) tfX5_30 rfl rfl hin rfl (tyX5_ok 10 (by decide)) rfl rfl (by show 10 < 15; decide) rfl dX5_init_56 ?_
  refine vi_iconst (v := 0) C dX5_init_59 (by decide) ?_
  refine vi_istore_n (lv' := [(1, .int (0 : Int32)), (0, .ref (h0))]) C dX5_init_60 rfl (by decide) rfl ?_
  refine vi_iload_n C 0 dX5_init_61 rfl ?_
  refine vi_iconst (v := 4) C dX5_init_62 (by decide) ?_
  refine vi_icmp_ge (tgt := 79) C dX5_init_63 (by decide) (fun hc => absurd hc (by decide)) (fun _ => ?_)
  refine vi_aload_n C 1 dX5_init_66 rfl ?_
  refine vi_get (ref := "MoodSextant$Ship") (v := .ref (a3)) C 0 4 inX5w rfl rfl (by decide) tfX5_21 rfl rfl dX5_init_67 ?_
  refine vi_iload_n C 0 dX5_init_70 rfl ?_
  refine vi_iconst (v := 4) C dX5_init_71 (by decide) ?_
  refine vi_iastn (w2 := [(h0, .inr (3, [.int 0, .ref (a0), .ref (a1), .ref (a2), .ref (a3), .int 0, .int 0, .int 0, .ref (a4), .ref (a5), .ref (a6), .int 0, .int 0, .int 0, .int 0])), (a0, .inl (cI, 8, .inl (fun _ => 0))), (a1, .inl (cI, 8, .inl (fun _ => 0))), (a2, .inl (cI, 8, .inl (fun _ => 0))), (a3, .inl (cI, 4, .inl (upd (fun _ => 0) 0 4))), (a4, .inl (cI, 10, .inl (fun _ => 0))), (a5, .inl (cI, 10, .inl (fun _ => 0))), (a6, .inl (cF, 10, .inr (.inr (.inl (fun _ => 0)))))]) C 4 0 0 (by decide) (by decide) (by decide) rfl rfl rfl dX5_init_72 ?_
  refine vi_iinc (v := (1 : Int32)) (lv' := [(1, .int (1 : Int32)), (0, .ref (h0))]) C 0 dX5_init_73 rfl (by decide) (by decide) rfl ?_
  refine vi_goto (tgt := 61) C dX5_init_76 (by decide) ?_
  refine vi_iload_n C 0 dX5_init_61 rfl ?_
  refine vi_iconst (v := 4) C dX5_init_62 (by decide) ?_
  refine vi_icmp_ge (tgt := 79) C dX5_init_63 (by decide) (fun hc => absurd hc (by decide)) (fun _ => ?_)
  refine vi_aload_n C 1 dX5_init_66 rfl ?_
  refine vi_get (ref := "MoodSextant$Ship") (v := .ref (a3)) C 0 4 inX5w rfl rfl (by decide) tfX5_21 rfl rfl dX5_init_67 ?_
  refine vi_iload_n C 0 dX5_init_70 rfl ?_
  refine vi_iconst (v := 4) C dX5_init_71 (by decide) ?_
  refine vi_iastn (w2 := [(h0, .inr (3, [.int 0, .ref (a0), .ref (a1), .ref (a2), .ref (a3), .int 0, .int 0, .int 0, .ref (a4), .ref (a5), .ref (a6), .int 0, .int 0, .int 0, .int 0])), (a0, .inl (cI, 8, .inl (fun _ => 0))), (a1, .inl (cI, 8, .inl (fun _ => 0))), (a2, .inl (cI, 8, .inl (fun _ => 0))), (a3, .inl (cI, 4, .inl (upd (upd (fun _ => 0) 0 4) 1 4))), (a4, .inl (cI, 10, .inl (fun _ => 0))), (a5, .inl (cI, 10, .inl (fun _ => 0))), (a6, .inl (cF, 10, .inr (.inr (.inl (fun _ => 0)))))]) C 4 0 1 (by decide) (by decide) (by decide) rfl rfl rfl dX5_init_72 ?_
  refine vi_iinc (v := (2 : Int32)) (lv' := [(1, .int (2 : Int32)), (0, .ref (h0))]) C 0 dX5_init_73 rfl (by decide) (by decide) rfl ?_
  refine vi_goto (tgt := 61) C dX5_init_76 (by decide) ?_
  refine vi_iload_n C 0 dX5_init_61 rfl ?_
  refine vi_iconst (v := 4) C dX5_init_62 (by decide) ?_
  refine vi_icmp_ge (tgt := 79) C dX5_init_63 (by decide) (fun hc => absurd hc (by decide)) (fun _ => ?_)
  refine vi_aload_n C 1 dX5_init_66 rfl ?_
  refine vi_get (ref := "MoodSextant$Ship") (v := .ref (a3)) C 0 4 inX5w rfl rfl (by decide) tfX5_21 rfl rfl dX5_init_67 ?_
  refine vi_iload_n C 0 dX5_init_70 rfl ?_
  refine vi_iconst (v := 4) C dX5_init_71 (by decide) ?_
  refine vi_iastn (w2 := [(h0, .inr (3, [.int 0, .ref (a0), .ref (a1), .ref (a2), .ref (a3), .int 0, .int 0, .int 0, .ref (a4), .ref (a5), .ref (a6), .int 0, .int 0, .int 0, .int 0])), (a0, .inl (cI, 8, .inl (fun _ => 0))), (a1, .inl (cI, 8, .inl (fun _ => 0))), (a2, .inl (cI, 8, .inl (fun _ => 0))), (a3, .inl (cI, 4, .inl (upd (upd (upd (fun _ => 0) 0 4) 1 4) 2 4))), (a4, .inl (cI, 10, .inl (fun _ => 0))), (a5, .inl (cI, 10, .inl (fun _ => 0))), (a6, .inl (cF, 10, .inr (.inr (.inl (fun _ => 0)))))]) C 4 0 2 (by decide) (by decide) (by decide) rfl rfl rfl dX5_init_72 ?_
  refine vi_iinc (v := (3 : Int32)) (lv' := [(1, .int (3 : Int32)), (0, .ref (h0))]) C 0 dX5_init_73 rfl (by decide) (by decide) rfl ?_
  refine vi_goto (tgt := 61) C dX5_init_76 (by decide) ?_
  refine vi_iload_n C 0 dX5_init_61 rfl ?_
  refine vi_iconst (v := 4) C dX5_init_62 (by decide) ?_
  refine vi_icmp_ge (tgt := 79) C dX5_init_63 (by decide) (fun hc => absurd hc (by decide)) (fun _ => ?_)
  refine vi_aload_n C 1 dX5_init_66 rfl ?_
  refine vi_get (ref := "MoodSextant$Ship") (v := .ref (a3)) C 0 4 inX5w rfl rfl (by decide) tfX5_21 rfl rfl dX5_init_67 ?_
  refine vi_iload_n C 0 dX5_init_70 rfl ?_
  refine vi_iconst (v := 4) C dX5_init_71 (by decide) ?_
  refine vi_iastn (w2 := [(h0, .inr (3, [.int 0, .ref (a0), .ref (a1), .ref (a2), .ref (a3), .int 0, .int 0, .int 0, .ref (a4), .ref (a5), .ref (a6), .int 0, .int 0, .int 0, .int 0])), (a0, .inl (cI, 8, .inl (fun _ => 0))), (a1, .inl (cI, 8, .inl (fun _ => 0))), (a2, .inl (cI, 8, .inl (fun _ => 0))), (a3, .inl (cI, 4, .inl (upd (upd (upd (upd (fun _ => 0) 0 4) 1 4) 2 4) 3 4))), (a4, .inl (cI, 10, .inl (fun _ => 0))), (a5, .inl (cI, 10, .inl (fun _ => 0))), (a6, .inl (cF, 10, .inr (.inr (.inl (fun _ => 0)))))]) C 4 0 3 (by decide) (by decide) (by decide) rfl rfl rfl dX5_init_72 ?_
  refine vi_iinc (v := (4 : Int32)) (lv' := [(1, .int (4 : Int32)), (0, .ref (h0))]) C 0 dX5_init_73 rfl (by decide) (by decide) rfl ?_
  refine vi_goto (tgt := 61) C dX5_init_76 (by decide) ?_
  refine vi_iload_n C 0 dX5_init_61 rfl ?_
  refine vi_iconst (v := 4) C dX5_init_62 (by decide) ?_
  refine vi_icmp_ge (tgt := 79) C dX5_init_63 (by decide) (fun _ => ?_) (fun hc => absurd (by decide) hc)
  exact vi_retn C hr (fun _ j => [h0, a0, a1, a2, a3, a4, a5, a6].getD j 0) rfl rfl rfl rfl dX5_init_79
def vtb9 : List Int32 := [115, 97, 105, 108, 32, 115, 104, 111, 114, 101, 32, 115, 105, 103, 104, 116, 32, 109, 111, 111, 100, 32, 114, 117, 109, 32, 119, 97, 116, 99, 104, 32, 104, 111, 114, 105, 122, 111, 110, 32, 101, 114, 114, 111, 114, 32, 104, 111, 117, 114]
def vtb10 : List Int32 := [0, 5, 11, 17, 22, 26, 32, 40, 46, 50]
def vtb1 : List Int32 := [0, 0, 0, 0, 0, 0, 0, 0, 4, 4, 4, 4]
/-- the reference as it is made -/
def vR0 : vS := fun a => if a = 0 then upd (fun _ => 0) 6 (-1) else if a = 1 then vTab vtb1 12 else if a = 9 then vTab vtb9 50 else if a = 10 then vTab vtb10 10 else fun _ => 0
set_option maxRecDepth 100000 in
set_option maxHeartbeats 8000000 in
theorem mX8_init {ad adK adV : Nat → Nat} {tS tF : Nat} {l : Launch} {D : va_G} {cI cF cC cS cO : ClassId} {h0 : Nat} (hE : vEok (vE2 ad adK adV tS tF)) : vMn (vE2 ad adK adV tS tF) l yX8_init cX8_init 2 1 60 10 1061 D (vT5 cI cF cC cS cO) h0 (.inr (6, [.int 0, .int 0, .int 0, .int 0, .int 0, .int 0, .int 0, .int 0, .null, .null, .null, .null, .null, .null, .null, .null, .null, .null, .int 0, .int 0, .int 0, .int 0, .int 0, .int 0])) (fun q => wR (q 0) cI vR0) := by
  refine vMn_of hE (by decide) rfl (by decide) (fun p e s m args below meth c A C hr hin => ?_)
  have C : vC (vE2 ad adK adV tS tF) p l s m args meth c A D (vT5 cI cF cC cS cO) cX8_init 2 RX8 := C
  refine vi_aload_n C 0 dX8_init_0 rfl ?_
  refine vi_objInit C tlX8_1 ti_objinit tc_objinit dX8_init_1 (by decide) (Nat.le_of_ble_eq_true rfl) ?_
  refine vi_aload_n C 0 dX8_init_4 rfl ?_
  refine vi_iconst (v := (-1)) C dX8_init_5 (by decide) ?_
  refine vi_put (ref := "MoodSextantModel") (ty := .int) (w' := [(h0, .inr (6, [.int 0, .int 0, .int 0, .int 0, .int 0, .int 0, .int (-1 : Int32), .int 0, .null, .null, .null, .null, .null, .null, .null, .null, .null, .null, .int 0, .int 0, .int 0, .int 0, .int 0, .int 0]))]) C 0 6 inR tyX8 tyX8_ok nmX8 rfl rfl (by decide) tfX8_7 rfl rfl rfl rfl rfl (by show 6 < 24; decide) rfl dX8_init_6 ?_
  refine vi_aload_n C 0 dX8_init_9 rfl ?_
  refine vi_bipush (v := 66) C dX8_init_10 (by decide) ?_
  refine vi_newa (atype := .int) (ty := .int) (cA := cI) (N := 66) (a0 := (66, .inl (fun _ => 0))) C 0 tac_int rfl rfl (fun _ => rfl) (by decide) rfl (by decide) (Nat.le_of_ble_eq_true rfl) (Nat.le_of_ble_eq_true rfl) dX8_init_12 (fun a0 => ?_)
  refine vi_w C (w' := [(h0, .inr (6, [.int 0, .int 0, .int 0, .int 0, .int 0, .int 0, .int (-1 : Int32), .int 0, .null, .null, .null, .null, .null, .null, .null, .null, .null, .null, .int 0, .int 0, .int 0, .int 0, .int 0, .int 0])), (a0, .inl (cI, 66, .inl (fun _ => 0)))]) rfl ?_
  refine vi_putF (ref := "MoodSextantModel") (ty := tyX8 8) (w2 := [(h0, .inr (6, [.int 0, .int 0, .int 0, .int 0, .int 0, .int 0, .int (-1 : Int32), .int 0, .ref (a0), .null, .null, .null, .null, .null, .null, .null, .null, .null, .int 0, .int 0, .int 0, .int 0, .int 0, .int 0])), (a0, .inl (cI, 66, .inl (fun _ => 0)))]) C 0 8 inR tyX8 tyX8_ok nmX8 rfl rfl (by decide) tfX8_13 rfl rfl hin rfl (tyX8_ok 8 (by decide)) rfl rfl (by show 8 < 24; decide) rfl dX8_init_14 ?_
  refine vi_aload_n C 0 dX8_init_17 rfl ?_
  refine vi_bipush (v := 66) C dX8_init_18 (by decide) ?_
  refine vi_newa (atype := .int) (ty := .int) (cA := cI) (N := 66) (a0 := (66, .inl (fun _ => 0))) C 0 tac_int rfl rfl (fun _ => rfl) (by decide) rfl (by decide) (Nat.le_of_ble_eq_true rfl) (Nat.le_of_ble_eq_true rfl) dX8_init_20 (fun a1 => ?_)
  refine vi_w C (w' := [(h0, .inr (6, [.int 0, .int 0, .int 0, .int 0, .int 0, .int 0, .int (-1 : Int32), .int 0, .ref (a0), .null, .null, .null, .null, .null, .null, .null, .null, .null, .int 0, .int 0, .int 0, .int 0, .int 0, .int 0])), (a0, .inl (cI, 66, .inl (fun _ => 0))), (a1, .inl (cI, 66, .inl (fun _ => 0)))]) rfl ?_
  refine vi_putF (ref := "MoodSextantModel") (ty := tyX8 9) (w2 := [(h0, .inr (6, [.int 0, .int 0, .int 0, .int 0, .int 0, .int 0, .int (-1 : Int32), .int 0, .ref (a0), .ref (a1), .null, .null, .null, .null, .null, .null, .null, .null, .int 0, .int 0, .int 0, .int 0, .int 0, .int 0])), (a0, .inl (cI, 66, .inl (fun _ => 0))), (a1, .inl (cI, 66, .inl (fun _ => 0)))]) C 0 9 inR tyX8 tyX8_ok nmX8 rfl rfl (by decide) tfX8_17 rfl rfl hin rfl (tyX8_ok 9 (by decide)) rfl rfl (by show 9 < 24; decide) rfl dX8_init_22 ?_
  refine vi_aload_n C 0 dX8_init_25 rfl ?_
  refine vi_bipush (v := 66) C dX8_init_26 (by decide) ?_
  refine vi_newa (atype := .int) (ty := .int) (cA := cI) (N := 66) (a0 := (66, .inl (fun _ => 0))) C 0 tac_int rfl rfl (fun _ => rfl) (by decide) rfl (by decide) (Nat.le_of_ble_eq_true rfl) (Nat.le_of_ble_eq_true rfl) dX8_init_28 (fun a2 => ?_)
  refine vi_w C (w' := [(h0, .inr (6, [.int 0, .int 0, .int 0, .int 0, .int 0, .int 0, .int (-1 : Int32), .int 0, .ref (a0), .ref (a1), .null, .null, .null, .null, .null, .null, .null, .null, .int 0, .int 0, .int 0, .int 0, .int 0, .int 0])), (a0, .inl (cI, 66, .inl (fun _ => 0))), (a1, .inl (cI, 66, .inl (fun _ => 0))), (a2, .inl (cI, 66, .inl (fun _ => 0)))]) rfl ?_
  refine vi_putF (ref := "MoodSextantModel") (ty := tyX8 10) (w2 := [(h0, .inr (6, [.int 0, .int 0, .int 0, .int 0, .int 0, .int 0, .int (-1 : Int32), .int 0, .ref (a0), .ref (a1), .ref (a2), .null, .null, .null, .null, .null, .null, .null, .int 0, .int 0, .int 0, .int 0, .int 0, .int 0])), (a0, .inl (cI, 66, .inl (fun _ => 0))), (a1, .inl (cI, 66, .inl (fun _ => 0))), (a2, .inl (cI, 66, .inl (fun _ => 0)))]) C 0 10 inR tyX8 tyX8_ok nmX8 rfl rfl (by decide) tfX8_20 rfl rfl hin rfl (tyX8_ok 10 (by decide)) rfl rfl (by show 10 < 24; decide) rfl dX8_init_30 ?_
  refine vi_aload_n C 0 dX8_init_33 rfl ?_
  refine vi_bipush (v := 66) C dX8_init_34 (by decide) ?_
  refine vi_newa (atype := .int) (ty := .int) (cA := cI) (N := 66) (a0 := (66, .inl (fun _ => 0))) C 0 tac_int rfl rfl (fun _ => rfl) (by decide) rfl (by decide) (Nat.le_of_ble_eq_true rfl) (Nat.le_of_ble_eq_true rfl) dX8_init_36 (fun a3 => ?_)
  refine vi_w C (w' := [(h0, .inr (6, [.int 0, .int 0, .int 0, .int 0, .int 0, .int 0, .int (-1 : Int32), .int 0, .ref (a0), .ref (a1), .ref (a2), .null, .null, .null, .null, .null, .null, .null, .int 0, .int 0, .int 0, .int 0, .int 0, .int 0])), (a0, .inl (cI, 66, .inl (fun _ => 0))), (a1, .inl (cI, 66, .inl (fun _ => 0))), (a2, .inl (cI, 66, .inl (fun _ => 0))), (a3, .inl (cI, 66, .inl (fun _ => 0)))]) rfl ?_
  refine vi_putF (ref := "MoodSextantModel") (ty := tyX8 11) (w2 := [(h0, .inr (6, [.int 0, .int 0, .int 0, .int 0, .int 0, .int 0, .int (-1 : Int32), .int 0, .ref (a0), .ref (a1), .ref (a2), .ref (a3), .null, .null, .null, .null, .null, .null, .int 0, .int 0, .int 0, .int 0, .int 0, .int 0])), (a0, .inl (cI, 66, .inl (fun _ => 0))), (a1, .inl (cI, 66, .inl (fun _ => 0))), (a2, .inl (cI, 66, .inl (fun _ => 0))), (a3, .inl (cI, 66, .inl (fun _ => 0)))]) C 0 11 inR tyX8 tyX8_ok nmX8 rfl rfl (by decide) tfX8_23 rfl rfl hin rfl (tyX8_ok 11 (by decide)) rfl rfl (by show 11 < 24; decide) rfl dX8_init_38 ?_
  refine vi_aload_n C 0 dX8_init_41 rfl ?_
  refine vi_sipush (v := 528) C dX8_init_42 (by decide) ?_
  refine vi_newa (atype := .int) (ty := .int) (cA := cI) (N := 528) (a0 := (528, .inl (fun _ => 0))) C 0 tac_int rfl rfl (fun _ => rfl) (by decide) rfl (by decide) (Nat.le_of_ble_eq_true rfl) (Nat.le_of_ble_eq_true rfl) dX8_init_45 (fun a4 => ?_)
  refine vi_w C (w' := [(h0, .inr (6, [.int 0, .int 0, .int 0, .int 0, .int 0, .int 0, .int (-1 : Int32), .int 0, .ref (a0), .ref (a1), .ref (a2), .ref (a3), .null, .null, .null, .null, .null, .null, .int 0, .int 0, .int 0, .int 0, .int 0, .int 0])), (a0, .inl (cI, 66, .inl (fun _ => 0))), (a1, .inl (cI, 66, .inl (fun _ => 0))), (a2, .inl (cI, 66, .inl (fun _ => 0))), (a3, .inl (cI, 66, .inl (fun _ => 0))), (a4, .inl (cI, 528, .inl (fun _ => 0)))]) rfl ?_
  refine vi_putF (ref := "MoodSextantModel") (ty := tyX8 12) (w2 := [(h0, .inr (6, [.int 0, .int 0, .int 0, .int 0, .int 0, .int 0, .int (-1 : Int32), .int 0, .ref (a0), .ref (a1), .ref (a2), .ref (a3), .ref (a4), .null, .null, .null, .null, .null, .int 0, .int 0, .int 0, .int 0, .int 0, .int 0])), (a0, .inl (cI, 66, .inl (fun _ => 0))), (a1, .inl (cI, 66, .inl (fun _ => 0))), (a2, .inl (cI, 66, .inl (fun _ => 0))), (a3, .inl (cI, 66, .inl (fun _ => 0))), (a4, .inl (cI, 528, .inl (fun _ => 0)))]) C 0 12 inR tyX8 tyX8_ok nmX8 rfl rfl (by decide) tfX8_26 rfl rfl hin rfl (tyX8_ok 12 (by decide)) rfl rfl (by show 12 < 24; decide) rfl dX8_init_47 ?_
  refine vi_aload_n C 0 dX8_init_50 rfl ?_
  refine vi_bipush (v := 60) C dX8_init_51 (by decide) ?_
  refine vi_newa (atype := .int) (ty := .int) (cA := cI) (N := 60) (a0 := (60, .inl (fun _ => 0))) C 0 tac_int rfl rfl (fun _ => rfl) (by decide) rfl (by decide) (Nat.le_of_ble_eq_true rfl) (Nat.le_of_ble_eq_true rfl) dX8_init_53 (fun a5 => ?_)
  refine vi_w C (w' := [(h0, .inr (6, [.int 0, .int 0, .int 0, .int 0, .int 0, .int 0, .int (-1 : Int32), .int 0, .ref (a0), .ref (a1), .ref (a2), .ref (a3), .ref (a4), .null, .null, .null, .null, .null, .int 0, .int 0, .int 0, .int 0, .int 0, .int 0])), (a0, .inl (cI, 66, .inl (fun _ => 0))), (a1, .inl (cI, 66, .inl (fun _ => 0))), (a2, .inl (cI, 66, .inl (fun _ => 0))), (a3, .inl (cI, 66, .inl (fun _ => 0))), (a4, .inl (cI, 528, .inl (fun _ => 0))), (a5, .inl (cI, 60, .inl (fun _ => 0)))]) rfl ?_
  refine vi_putF (ref := "MoodSextantModel") (ty := tyX8 13) (w2 := [(h0, .inr (6, [.int 0, .int 0, .int 0, .int 0, .int 0, .int 0, .int (-1 : Int32), .int 0, .ref (a0), .ref (a1), .ref (a2), .ref (a3), .ref (a4), .ref (a5), .null, .null, .null, .null, .int 0, .int 0, .int 0, .int 0, .int 0, .int 0])), (a0, .inl (cI, 66, .inl (fun _ => 0))), (a1, .inl (cI, 66, .inl (fun _ => 0))), (a2, .inl (cI, 66, .inl (fun _ => 0))), (a3, .inl (cI, 66, .inl (fun _ => 0))), (a4, .inl (cI, 528, .inl (fun _ => 0))), (a5, .inl (cI, 60, .inl (fun _ => 0)))]) C 0 13 inR tyX8 tyX8_ok nmX8 rfl rfl (by decide) tfX8_29 rfl rfl hin rfl (tyX8_ok 13 (by decide)) rfl rfl (by show 13 < 24; decide) rfl dX8_init_55 ?_
  refine vi_aload_n C 0 dX8_init_58 rfl ?_
  refine vi_sipush (v := 140) C dX8_init_59 (by decide) ?_
  refine vi_newa (atype := .int) (ty := .int) (cA := cI) (N := 140) (a0 := (140, .inl (fun _ => 0))) C 0 tac_int rfl rfl (fun _ => rfl) (by decide) rfl (by decide) (Nat.le_of_ble_eq_true rfl) (Nat.le_of_ble_eq_true rfl) dX8_init_62 (fun a6 => ?_)
  refine vi_w C (w' := [(h0, .inr (6, [.int 0, .int 0, .int 0, .int 0, .int 0, .int 0, .int (-1 : Int32), .int 0, .ref (a0), .ref (a1), .ref (a2), .ref (a3), .ref (a4), .ref (a5), .null, .null, .null, .null, .int 0, .int 0, .int 0, .int 0, .int 0, .int 0])), (a0, .inl (cI, 66, .inl (fun _ => 0))), (a1, .inl (cI, 66, .inl (fun _ => 0))), (a2, .inl (cI, 66, .inl (fun _ => 0))), (a3, .inl (cI, 66, .inl (fun _ => 0))), (a4, .inl (cI, 528, .inl (fun _ => 0))), (a5, .inl (cI, 60, .inl (fun _ => 0))), (a6, .inl (cI, 140, .inl (fun _ => 0)))]) rfl ?_
  refine vi_putF (ref := "MoodSextantModel") (ty := tyX8 14) (w2 := [(h0, .inr (6, [.int 0, .int 0, .int 0, .int 0, .int 0, .int 0, .int (-1 : Int32), .int 0, .ref (a0), .ref (a1), .ref (a2), .ref (a3), .ref (a4), .ref (a5), .ref (a6), .null, .null, .null, .int 0, .int 0, .int 0, .int 0, .int 0, .int 0])), (a0, .inl (cI, 66, .inl (fun _ => 0))), (a1, .inl (cI, 66, .inl (fun _ => 0))), (a2, .inl (cI, 66, .inl (fun _ => 0))), (a3, .inl (cI, 66, .inl (fun _ => 0))), (a4, .inl (cI, 528, .inl (fun _ => 0))), (a5, .inl (cI, 60, .inl (fun _ => 0))), (a6, .inl (cI, 140, .inl (fun _ => 0)))]) C 0 14 inR tyX8 tyX8_ok nmX8 rfl rfl (by decide) tfX8_32 rfl rfl hin rfl (tyX8_ok 14 (by decide)) rfl rfl (by show 14 < 24; decide) rfl dX8_init_64 ?_
  refine vi_aload_n C 0 dX8_init_67 rfl ?_
  refine vi_bipush (v := 9) C dX8_init_68 (by decide) ?_
  refine vi_newa (atype := .int) (ty := .int) (cA := cI) (N := 9) (a0 := (9, .inl (fun _ => 0))) C 0 tac_int rfl rfl (fun _ => rfl) (by decide) rfl (by decide) (Nat.le_of_ble_eq_true rfl) (Nat.le_of_ble_eq_true rfl) dX8_init_70 (fun a7 => ?_)
  refine vi_w C (w' := [(h0, .inr (6, [.int 0, .int 0, .int 0, .int 0, .int 0, .int 0, .int (-1 : Int32), .int 0, .ref (a0), .ref (a1), .ref (a2), .ref (a3), .ref (a4), .ref (a5), .ref (a6), .null, .null, .null, .int 0, .int 0, .int 0, .int 0, .int 0, .int 0])), (a0, .inl (cI, 66, .inl (fun _ => 0))), (a1, .inl (cI, 66, .inl (fun _ => 0))), (a2, .inl (cI, 66, .inl (fun _ => 0))), (a3, .inl (cI, 66, .inl (fun _ => 0))), (a4, .inl (cI, 528, .inl (fun _ => 0))), (a5, .inl (cI, 60, .inl (fun _ => 0))), (a6, .inl (cI, 140, .inl (fun _ => 0))), (a7, .inl (cI, 9, .inl (fun _ => 0)))]) rfl ?_
  refine vi_putF (ref := "MoodSextantModel") (ty := tyX8 15) (w2 := [(h0, .inr (6, [.int 0, .int 0, .int 0, .int 0, .int 0, .int 0, .int (-1 : Int32), .int 0, .ref (a0), .ref (a1), .ref (a2), .ref (a3), .ref (a4), .ref (a5), .ref (a6), .ref (a7), .null, .null, .int 0, .int 0, .int 0, .int 0, .int 0, .int 0])), (a0, .inl (cI, 66, .inl (fun _ => 0))), (a1, .inl (cI, 66, .inl (fun _ => 0))), (a2, .inl (cI, 66, .inl (fun _ => 0))), (a3, .inl (cI, 66, .inl (fun _ => 0))), (a4, .inl (cI, 528, .inl (fun _ => 0))), (a5, .inl (cI, 60, .inl (fun _ => 0))), (a6, .inl (cI, 140, .inl (fun _ => 0))), (a7, .inl (cI, 9, .inl (fun _ => 0)))]) C 0 15 inR tyX8 tyX8_ok nmX8 rfl rfl (by decide) tfX8_35 rfl rfl hin rfl (tyX8_ok 15 (by decide)) rfl rfl (by show 15 < 24; decide) rfl dX8_init_72 ?_
  refine vi_aload_n C 0 dX8_init_75 rfl ?_
  refine vi_bipush (v := 50) C dX8_init_76 (by decide) ?_
  refine vi_newa (atype := .int) (ty := .int) (cA := cI) (N := 50) (a0 := (50, .inl (fun _ => 0))) C 0 tac_int rfl rfl (fun _ => rfl) (by decide) rfl (by decide) (Nat.le_of_ble_eq_true rfl) (Nat.le_of_ble_eq_true rfl) dX8_init_78 (fun a8 => ?_)
  refine vi_w C (w' := [(h0, .inr (6, [.int 0, .int 0, .int 0, .int 0, .int 0, .int 0, .int (-1 : Int32), .int 0, .ref (a0), .ref (a1), .ref (a2), .ref (a3), .ref (a4), .ref (a5), .ref (a6), .ref (a7), .null, .null, .int 0, .int 0, .int 0, .int 0, .int 0, .int 0])), (a0, .inl (cI, 66, .inl (fun _ => 0))), (a1, .inl (cI, 66, .inl (fun _ => 0))), (a2, .inl (cI, 66, .inl (fun _ => 0))), (a3, .inl (cI, 66, .inl (fun _ => 0))), (a4, .inl (cI, 528, .inl (fun _ => 0))), (a5, .inl (cI, 60, .inl (fun _ => 0))), (a6, .inl (cI, 140, .inl (fun _ => 0))), (a7, .inl (cI, 9, .inl (fun _ => 0))), (a8, .inl (cI, 50, .inl (fun _ => 0)))]) rfl ?_
  refine vi_dup C dX8_init_80 rfl ?_
  refine vi_iconst (v := 0) C dX8_init_81 (by decide) ?_
  refine vi_bipush (v := 115) C dX8_init_82 (by decide) ?_
  refine vi_w C (w' := [(h0, .inr (6, [.int 0, .int 0, .int 0, .int 0, .int 0, .int 0, .int (-1 : Int32), .int 0, .ref (a0), .ref (a1), .ref (a2), .ref (a3), .ref (a4), .ref (a5), .ref (a6), .ref (a7), .null, .null, .int 0, .int 0, .int 0, .int 0, .int 0, .int 0])), (a0, .inl (cI, 66, .inl (fun _ => 0))), (a1, .inl (cI, 66, .inl (fun _ => 0))), (a2, .inl (cI, 66, .inl (fun _ => 0))), (a3, .inl (cI, 66, .inl (fun _ => 0))), (a4, .inl (cI, 528, .inl (fun _ => 0))), (a5, .inl (cI, 60, .inl (fun _ => 0))), (a6, .inl (cI, 140, .inl (fun _ => 0))), (a7, .inl (cI, 9, .inl (fun _ => 0))), (a8, .inl (cI, 50, .inl (vTab vtb9 0)))]) (by rw [vTabz vtb9 0 (by decide)]) ?_
  refine vi_iastT (L := vtb9) (w2 := [(h0, .inr (6, [.int 0, .int 0, .int 0, .int 0, .int 0, .int 0, .int (-1 : Int32), .int 0, .ref (a0), .ref (a1), .ref (a2), .ref (a3), .ref (a4), .ref (a5), .ref (a6), .ref (a7), .null, .null, .int 0, .int 0, .int 0, .int 0, .int 0, .int 0])), (a0, .inl (cI, 66, .inl (fun _ => 0))), (a1, .inl (cI, 66, .inl (fun _ => 0))), (a2, .inl (cI, 66, .inl (fun _ => 0))), (a3, .inl (cI, 66, .inl (fun _ => 0))), (a4, .inl (cI, 528, .inl (fun _ => 0))), (a5, .inl (cI, 60, .inl (fun _ => 0))), (a6, .inl (cI, 140, .inl (fun _ => 0))), (a7, .inl (cI, 9, .inl (fun _ => 0))), (a8, .inl (cI, 50, .inl (vTab vtb9 1)))]) C 9 0 0 (by decide) (by decide) (by decide) rfl rfl rfl rfl dX8_init_84 ?_
  refine vi_dup C dX8_init_85 rfl ?_
  refine vi_iconst (v := 1) C dX8_init_86 (by decide) ?_
  refine vi_bipush (v := 97) C dX8_init_87 (by decide) ?_
  refine vi_iastT (L := vtb9) (w2 := [(h0, .inr (6, [.int 0, .int 0, .int 0, .int 0, .int 0, .int 0, .int (-1 : Int32), .int 0, .ref (a0), .ref (a1), .ref (a2), .ref (a3), .ref (a4), .ref (a5), .ref (a6), .ref (a7), .null, .null, .int 0, .int 0, .int 0, .int 0, .int 0, .int 0])), (a0, .inl (cI, 66, .inl (fun _ => 0))), (a1, .inl (cI, 66, .inl (fun _ => 0))), (a2, .inl (cI, 66, .inl (fun _ => 0))), (a3, .inl (cI, 66, .inl (fun _ => 0))), (a4, .inl (cI, 528, .inl (fun _ => 0))), (a5, .inl (cI, 60, .inl (fun _ => 0))), (a6, .inl (cI, 140, .inl (fun _ => 0))), (a7, .inl (cI, 9, .inl (fun _ => 0))), (a8, .inl (cI, 50, .inl (vTab vtb9 2)))]) C 9 0 1 (by decide) (by decide) (by decide) rfl rfl rfl rfl dX8_init_89 ?_
  refine vi_dup C dX8_init_90 rfl ?_
  refine vi_iconst (v := 2) C dX8_init_91 (by decide) ?_
  refine vi_bipush (v := 105) C dX8_init_92 (by decide) ?_
  refine vi_iastT (L := vtb9) (w2 := [(h0, .inr (6, [.int 0, .int 0, .int 0, .int 0, .int 0, .int 0, .int (-1 : Int32), .int 0, .ref (a0), .ref (a1), .ref (a2), .ref (a3), .ref (a4), .ref (a5), .ref (a6), .ref (a7), .null, .null, .int 0, .int 0, .int 0, .int 0, .int 0, .int 0])), (a0, .inl (cI, 66, .inl (fun _ => 0))), (a1, .inl (cI, 66, .inl (fun _ => 0))), (a2, .inl (cI, 66, .inl (fun _ => 0))), (a3, .inl (cI, 66, .inl (fun _ => 0))), (a4, .inl (cI, 528, .inl (fun _ => 0))), (a5, .inl (cI, 60, .inl (fun _ => 0))), (a6, .inl (cI, 140, .inl (fun _ => 0))), (a7, .inl (cI, 9, .inl (fun _ => 0))), (a8, .inl (cI, 50, .inl (vTab vtb9 3)))]) C 9 0 2 (by decide) (by decide) (by decide) rfl rfl rfl rfl dX8_init_94 ?_
  refine vi_dup C dX8_init_95 rfl ?_
  refine vi_iconst (v := 3) C dX8_init_96 (by decide) ?_
  refine vi_bipush (v := 108) C dX8_init_97 (by decide) ?_
  refine vi_iastT (L := vtb9) (w2 := [(h0, .inr (6, [.int 0, .int 0, .int 0, .int 0, .int 0, .int 0, .int (-1 : Int32), .int 0, .ref (a0), .ref (a1), .ref (a2), .ref (a3), .ref (a4), .ref (a5), .ref (a6), .ref (a7), .null, .null, .int 0, .int 0, .int 0, .int 0, .int 0, .int 0])), (a0, .inl (cI, 66, .inl (fun _ => 0))), (a1, .inl (cI, 66, .inl (fun _ => 0))), (a2, .inl (cI, 66, .inl (fun _ => 0))), (a3, .inl (cI, 66, .inl (fun _ => 0))), (a4, .inl (cI, 528, .inl (fun _ => 0))), (a5, .inl (cI, 60, .inl (fun _ => 0))), (a6, .inl (cI, 140, .inl (fun _ => 0))), (a7, .inl (cI, 9, .inl (fun _ => 0))), (a8, .inl (cI, 50, .inl (vTab vtb9 4)))]) C 9 0 3 (by decide) (by decide) (by decide) rfl rfl rfl rfl dX8_init_99 ?_
  refine vi_dup C dX8_init_100 rfl ?_
  refine vi_iconst (v := 4) C dX8_init_101 (by decide) ?_
  refine vi_bipush (v := 32) C dX8_init_102 (by decide) ?_
  refine vi_iastT (L := vtb9) (w2 := [(h0, .inr (6, [.int 0, .int 0, .int 0, .int 0, .int 0, .int 0, .int (-1 : Int32), .int 0, .ref (a0), .ref (a1), .ref (a2), .ref (a3), .ref (a4), .ref (a5), .ref (a6), .ref (a7), .null, .null, .int 0, .int 0, .int 0, .int 0, .int 0, .int 0])), (a0, .inl (cI, 66, .inl (fun _ => 0))), (a1, .inl (cI, 66, .inl (fun _ => 0))), (a2, .inl (cI, 66, .inl (fun _ => 0))), (a3, .inl (cI, 66, .inl (fun _ => 0))), (a4, .inl (cI, 528, .inl (fun _ => 0))), (a5, .inl (cI, 60, .inl (fun _ => 0))), (a6, .inl (cI, 140, .inl (fun _ => 0))), (a7, .inl (cI, 9, .inl (fun _ => 0))), (a8, .inl (cI, 50, .inl (vTab vtb9 5)))]) C 9 0 4 (by decide) (by decide) (by decide) rfl rfl rfl rfl dX8_init_104 ?_
  refine vi_dup C dX8_init_105 rfl ?_
  refine vi_iconst (v := 5) C dX8_init_106 (by decide) ?_
  refine vi_bipush (v := 115) C dX8_init_107 (by decide) ?_
  refine vi_iastT (L := vtb9) (w2 := [(h0, .inr (6, [.int 0, .int 0, .int 0, .int 0, .int 0, .int 0, .int (-1 : Int32), .int 0, .ref (a0), .ref (a1), .ref (a2), .ref (a3), .ref (a4), .ref (a5), .ref (a6), .ref (a7), .null, .null, .int 0, .int 0, .int 0, .int 0, .int 0, .int 0])), (a0, .inl (cI, 66, .inl (fun _ => 0))), (a1, .inl (cI, 66, .inl (fun _ => 0))), (a2, .inl (cI, 66, .inl (fun _ => 0))), (a3, .inl (cI, 66, .inl (fun _ => 0))), (a4, .inl (cI, 528, .inl (fun _ => 0))), (a5, .inl (cI, 60, .inl (fun _ => 0))), (a6, .inl (cI, 140, .inl (fun _ => 0))), (a7, .inl (cI, 9, .inl (fun _ => 0))), (a8, .inl (cI, 50, .inl (vTab vtb9 6)))]) C 9 0 5 (by decide) (by decide) (by decide) rfl rfl rfl rfl dX8_init_109 ?_
  refine vi_dup C dX8_init_110 rfl ?_
  refine vi_bipush (v := 6) C dX8_init_111 (by decide) ?_
  refine vi_bipush (v := 104) C dX8_init_113 (by decide) ?_
  refine vi_iastT (L := vtb9) (w2 := [(h0, .inr (6, [.int 0, .int 0, .int 0, .int 0, .int 0, .int 0, .int (-1 : Int32), .int 0, .ref (a0), .ref (a1), .ref (a2), .ref (a3), .ref (a4), .ref (a5), .ref (a6), .ref (a7), .null, .null, .int 0, .int 0, .int 0, .int 0, .int 0, .int 0])), (a0, .inl (cI, 66, .inl (fun _ => 0))), (a1, .inl (cI, 66, .inl (fun _ => 0))), (a2, .inl (cI, 66, .inl (fun _ => 0))), (a3, .inl (cI, 66, .inl (fun _ => 0))), (a4, .inl (cI, 528, .inl (fun _ => 0))), (a5, .inl (cI, 60, .inl (fun _ => 0))), (a6, .inl (cI, 140, .inl (fun _ => 0))), (a7, .inl (cI, 9, .inl (fun _ => 0))), (a8, .inl (cI, 50, .inl (vTab vtb9 7)))]) C 9 0 6 (by decide) (by decide) (by decide) rfl rfl rfl rfl dX8_init_115 ?_
  refine vi_dup C dX8_init_116 rfl ?_
  refine vi_bipush (v := 7) C dX8_init_117 (by decide) ?_
  refine vi_bipush (v := 111) C dX8_init_119 (by decide) ?_
  refine vi_iastT (L := vtb9) (w2 := [(h0, .inr (6, [.int 0, .int 0, .int 0, .int 0, .int 0, .int 0, .int (-1 : Int32), .int 0, .ref (a0), .ref (a1), .ref (a2), .ref (a3), .ref (a4), .ref (a5), .ref (a6), .ref (a7), .null, .null, .int 0, .int 0, .int 0, .int 0, .int 0, .int 0])), (a0, .inl (cI, 66, .inl (fun _ => 0))), (a1, .inl (cI, 66, .inl (fun _ => 0))), (a2, .inl (cI, 66, .inl (fun _ => 0))), (a3, .inl (cI, 66, .inl (fun _ => 0))), (a4, .inl (cI, 528, .inl (fun _ => 0))), (a5, .inl (cI, 60, .inl (fun _ => 0))), (a6, .inl (cI, 140, .inl (fun _ => 0))), (a7, .inl (cI, 9, .inl (fun _ => 0))), (a8, .inl (cI, 50, .inl (vTab vtb9 8)))]) C 9 0 7 (by decide) (by decide) (by decide) rfl rfl rfl rfl dX8_init_121 ?_
  refine vi_dup C dX8_init_122 rfl ?_
  refine vi_bipush (v := 8) C dX8_init_123 (by decide) ?_
  refine vi_bipush (v := 114) C dX8_init_125 (by decide) ?_
  refine vi_iastT (L := vtb9) (w2 := [(h0, .inr (6, [.int 0, .int 0, .int 0, .int 0, .int 0, .int 0, .int (-1 : Int32), .int 0, .ref (a0), .ref (a1), .ref (a2), .ref (a3), .ref (a4), .ref (a5), .ref (a6), .ref (a7), .null, .null, .int 0, .int 0, .int 0, .int 0, .int 0, .int 0])), (a0, .inl (cI, 66, .inl (fun _ => 0))), (a1, .inl (cI, 66, .inl (fun _ => 0))), (a2, .inl (cI, 66, .inl (fun _ => 0))), (a3, .inl (cI, 66, .inl (fun _ => 0))), (a4, .inl (cI, 528, .inl (fun _ => 0))), (a5, .inl (cI, 60, .inl (fun _ => 0))), (a6, .inl (cI, 140, .inl (fun _ => 0))), (a7, .inl (cI, 9, .inl (fun _ => 0))), (a8, .inl (cI, 50, .inl (vTab vtb9 9)))]) C 9 0 8 (by decide) (by decide) (by decide) rfl rfl rfl rfl dX8_init_127 ?_
  refine vi_dup C dX8_init_128 rfl ?_
  refine vi_bipush (v := 9) C dX8_init_129 (by decide) ?_
  refine vi_bipush (v := 101) C dX8_init_131 (by decide) ?_
  refine vi_iastT (L := vtb9) (w2 := [(h0, .inr (6, [.int 0, .int 0, .int 0, .int 0, .int 0, .int 0, .int (-1 : Int32), .int 0, .ref (a0), .ref (a1), .ref (a2), .ref (a3), .ref (a4), .ref (a5), .ref (a6), .ref (a7), .null, .null, .int 0, .int 0, .int 0, .int 0, .int 0, .int 0])), (a0, .inl (cI, 66, .inl (fun _ => 0))), (a1, .inl (cI, 66, .inl (fun _ => 0))), (a2, .inl (cI, 66, .inl (fun _ => 0))), (a3, .inl (cI, 66, .inl (fun _ => 0))), (a4, .inl (cI, 528, .inl (fun _ => 0))), (a5, .inl (cI, 60, .inl (fun _ => 0))), (a6, .inl (cI, 140, .inl (fun _ => 0))), (a7, .inl (cI, 9, .inl (fun _ => 0))), (a8, .inl (cI, 50, .inl (vTab vtb9 10)))]) C 9 0 9 (by decide) (by decide) (by decide) rfl rfl rfl rfl dX8_init_133 ?_
  refine vi_dup C dX8_init_134 rfl ?_
  refine vi_bipush (v := 10) C dX8_init_135 (by decide) ?_
  refine vi_bipush (v := 32) C dX8_init_137 (by decide) ?_
  refine vi_iastT (L := vtb9) (w2 := [(h0, .inr (6, [.int 0, .int 0, .int 0, .int 0, .int 0, .int 0, .int (-1 : Int32), .int 0, .ref (a0), .ref (a1), .ref (a2), .ref (a3), .ref (a4), .ref (a5), .ref (a6), .ref (a7), .null, .null, .int 0, .int 0, .int 0, .int 0, .int 0, .int 0])), (a0, .inl (cI, 66, .inl (fun _ => 0))), (a1, .inl (cI, 66, .inl (fun _ => 0))), (a2, .inl (cI, 66, .inl (fun _ => 0))), (a3, .inl (cI, 66, .inl (fun _ => 0))), (a4, .inl (cI, 528, .inl (fun _ => 0))), (a5, .inl (cI, 60, .inl (fun _ => 0))), (a6, .inl (cI, 140, .inl (fun _ => 0))), (a7, .inl (cI, 9, .inl (fun _ => 0))), (a8, .inl (cI, 50, .inl (vTab vtb9 11)))]) C 9 0 10 (by decide) (by decide) (by decide) rfl rfl rfl rfl dX8_init_139 ?_
  refine vi_dup C dX8_init_140 rfl ?_
  refine vi_bipush (v := 11) C dX8_init_141 (by decide) ?_
  refine vi_bipush (v := 115) C dX8_init_143 (by decide) ?_
  refine vi_iastT (L := vtb9) (w2 := [(h0, .inr (6, [.int 0, .int 0, .int 0, .int 0, .int 0, .int 0, .int (-1 : Int32), .int 0, .ref (a0), .ref (a1), .ref (a2), .ref (a3), .ref (a4), .ref (a5), .ref (a6), .ref (a7), .null, .null, .int 0, .int 0, .int 0, .int 0, .int 0, .int 0])), (a0, .inl (cI, 66, .inl (fun _ => 0))), (a1, .inl (cI, 66, .inl (fun _ => 0))), (a2, .inl (cI, 66, .inl (fun _ => 0))), (a3, .inl (cI, 66, .inl (fun _ => 0))), (a4, .inl (cI, 528, .inl (fun _ => 0))), (a5, .inl (cI, 60, .inl (fun _ => 0))), (a6, .inl (cI, 140, .inl (fun _ => 0))), (a7, .inl (cI, 9, .inl (fun _ => 0))), (a8, .inl (cI, 50, .inl (vTab vtb9 12)))]) C 9 0 11 (by decide) (by decide) (by decide) rfl rfl rfl rfl dX8_init_145 ?_
  refine vi_dup C dX8_init_146 rfl ?_
  refine vi_bipush (v := 12) C dX8_init_147 (by decide) ?_
  refine vi_bipush (v := 105) C dX8_init_149 (by decide) ?_
  refine vi_iastT (L := vtb9) (w2 := [(h0, .inr (6, [.int 0, .int 0, .int 0, .int 0, .int 0, .int 0, .int (-1 : Int32), .int 0, .ref (a0), .ref (a1), .ref (a2), .ref (a3), .ref (a4), .ref (a5), .ref (a6), .ref (a7), .null, .null, .int 0, .int 0, .int 0, .int 0, .int 0, .int 0])), (a0, .inl (cI, 66, .inl (fun _ => 0))), (a1, .inl (cI, 66, .inl (fun _ => 0))), (a2, .inl (cI, 66, .inl (fun _ => 0))), (a3, .inl (cI, 66, .inl (fun _ => 0))), (a4, .inl (cI, 528, .inl (fun _ => 0))), (a5, .inl (cI, 60, .inl (fun _ => 0))), (a6, .inl (cI, 140, .inl (fun _ => 0))), (a7, .inl (cI, 9, .inl (fun _ => 0))), (a8, .inl (cI, 50, .inl (vTab vtb9 13)))]) C 9 0 12 (by decide) (by decide) (by decide) rfl rfl rfl rfl dX8_init_151 ?_
  refine vi_dup C dX8_init_152 rfl ?_
  refine vi_bipush (v := 13) C dX8_init_153 (by decide) ?_
  refine vi_bipush (v := 103) C dX8_init_155 (by decide) ?_
  refine vi_iastT (L := vtb9) (w2 := [(h0, .inr (6, [.int 0, .int 0, .int 0, .int 0, .int 0, .int 0, .int (-1 : Int32), .int 0, .ref (a0), .ref (a1), .ref (a2), .ref (a3), .ref (a4), .ref (a5), .ref (a6), .ref (a7), .null, .null, .int 0, .int 0, .int 0, .int 0, .int 0, .int 0])), (a0, .inl (cI, 66, .inl (fun _ => 0))), (a1, .inl (cI, 66, .inl (fun _ => 0))), (a2, .inl (cI, 66, .inl (fun _ => 0))), (a3, .inl (cI, 66, .inl (fun _ => 0))), (a4, .inl (cI, 528, .inl (fun _ => 0))), (a5, .inl (cI, 60, .inl (fun _ => 0))), (a6, .inl (cI, 140, .inl (fun _ => 0))), (a7, .inl (cI, 9, .inl (fun _ => 0))), (a8, .inl (cI, 50, .inl (vTab vtb9 14)))]) C 9 0 13 (by decide) (by decide) (by decide) rfl rfl rfl rfl dX8_init_157 ?_
  refine vi_dup C dX8_init_158 rfl ?_
  refine vi_bipush (v := 14) C dX8_init_159 (by decide) ?_
  refine vi_bipush (v := 104) C dX8_init_161 (by decide) ?_
  refine vi_iastT (L := vtb9) (w2 := [(h0, .inr (6, [.int 0, .int 0, .int 0, .int 0, .int 0, .int 0, .int (-1 : Int32), .int 0, .ref (a0), .ref (a1), .ref (a2), .ref (a3), .ref (a4), .ref (a5), .ref (a6), .ref (a7), .null, .null, .int 0, .int 0, .int 0, .int 0, .int 0, .int 0])), (a0, .inl (cI, 66, .inl (fun _ => 0))), (a1, .inl (cI, 66, .inl (fun _ => 0))), (a2, .inl (cI, 66, .inl (fun _ => 0))), (a3, .inl (cI, 66, .inl (fun _ => 0))), (a4, .inl (cI, 528, .inl (fun _ => 0))), (a5, .inl (cI, 60, .inl (fun _ => 0))), (a6, .inl (cI, 140, .inl (fun _ => 0))), (a7, .inl (cI, 9, .inl (fun _ => 0))), (a8, .inl (cI, 50, .inl (vTab vtb9 15)))]) C 9 0 14 (by decide) (by decide) (by decide) rfl rfl rfl rfl dX8_init_163 ?_
  refine vi_dup C dX8_init_164 rfl ?_
  refine vi_bipush (v := 15) C dX8_init_165 (by decide) ?_
  refine vi_bipush (v := 116) C dX8_init_167 (by decide) ?_
  refine vi_iastT (L := vtb9) (w2 := [(h0, .inr (6, [.int 0, .int 0, .int 0, .int 0, .int 0, .int 0, .int (-1 : Int32), .int 0, .ref (a0), .ref (a1), .ref (a2), .ref (a3), .ref (a4), .ref (a5), .ref (a6), .ref (a7), .null, .null, .int 0, .int 0, .int 0, .int 0, .int 0, .int 0])), (a0, .inl (cI, 66, .inl (fun _ => 0))), (a1, .inl (cI, 66, .inl (fun _ => 0))), (a2, .inl (cI, 66, .inl (fun _ => 0))), (a3, .inl (cI, 66, .inl (fun _ => 0))), (a4, .inl (cI, 528, .inl (fun _ => 0))), (a5, .inl (cI, 60, .inl (fun _ => 0))), (a6, .inl (cI, 140, .inl (fun _ => 0))), (a7, .inl (cI, 9, .inl (fun _ => 0))), (a8, .inl (cI, 50, .inl (vTab vtb9 16)))]) C 9 0 15 (by decide) (by decide) (by decide) rfl rfl rfl rfl dX8_init_169 ?_
  refine vi_dup C dX8_init_170 rfl ?_
  refine vi_bipush (v := 16) C dX8_init_171 (by decide) ?_
  refine vi_bipush (v := 32) C dX8_init_173 (by decide) ?_
  refine vi_iastT (L := vtb9) (w2 := [(h0, .inr (6, [.int 0, .int 0, .int 0, .int 0, .int 0, .int 0, .int (-1 : Int32), .int 0, .ref (a0), .ref (a1), .ref (a2), .ref (a3), .ref (a4), .ref (a5), .ref (a6), .ref (a7), .null, .null, .int 0, .int 0, .int 0, .int 0, .int 0, .int 0])), (a0, .inl (cI, 66, .inl (fun _ => 0))), (a1, .inl (cI, 66, .inl (fun _ => 0))), (a2, .inl (cI, 66, .inl (fun _ => 0))), (a3, .inl (cI, 66, .inl (fun _ => 0))), (a4, .inl (cI, 528, .inl (fun _ => 0))), (a5, .inl (cI, 60, .inl (fun _ => 0))), (a6, .inl (cI, 140, .inl (fun _ => 0))), (a7, .inl (cI, 9, .inl (fun _ => 0))), (a8, .inl (cI, 50, .inl (vTab vtb9 17)))]) C 9 0 16 (by decide) (by decide) (by decide) rfl rfl rfl rfl dX8_init_175 ?_
  refine vi_dup C dX8_init_176 rfl ?_
  refine vi_bipush (v := 17) C dX8_init_177 (by decide) ?_
  refine vi_bipush (v := 109) C dX8_init_179 (by decide) ?_
  refine vi_iastT (L := vtb9) (w2 := [(h0, .inr (6, [.int 0, .int 0, .int 0, .int 0, .int 0, .int 0, .int (-1 : Int32), .int 0, .ref (a0), .ref (a1), .ref (a2), .ref (a3), .ref (a4), .ref (a5), .ref (a6), .ref (a7), .null, .null, .int 0, .int 0, .int 0, .int 0, .int 0, .int 0])), (a0, .inl (cI, 66, .inl (fun _ => 0))), (a1, .inl (cI, 66, .inl (fun _ => 0))), (a2, .inl (cI, 66, .inl (fun _ => 0))), (a3, .inl (cI, 66, .inl (fun _ => 0))), (a4, .inl (cI, 528, .inl (fun _ => 0))), (a5, .inl (cI, 60, .inl (fun _ => 0))), (a6, .inl (cI, 140, .inl (fun _ => 0))), (a7, .inl (cI, 9, .inl (fun _ => 0))), (a8, .inl (cI, 50, .inl (vTab vtb9 18)))]) C 9 0 17 (by decide) (by decide) (by decide) rfl rfl rfl rfl dX8_init_181 ?_
  refine vi_dup C dX8_init_182 rfl ?_
  refine vi_bipush (v := 18) C dX8_init_183 (by decide) ?_
  refine vi_bipush (v := 111) C dX8_init_185 (by decide) ?_
  refine vi_iastT (L := vtb9) (w2 := [(h0, .inr (6, [.int 0, .int 0, .int 0, .int 0, .int 0, .int 0, .int (-1 : Int32), .int 0, .ref (a0), .ref (a1), .ref (a2), .ref (a3), .ref (a4), .ref (a5), .ref (a6), .ref (a7), .null, .null, .int 0, .int 0, .int 0, .int 0, .int 0, .int 0])), (a0, .inl (cI, 66, .inl (fun _ => 0))), (a1, .inl (cI, 66, .inl (fun _ => 0))), (a2, .inl (cI, 66, .inl (fun _ => 0))), (a3, .inl (cI, 66, .inl (fun _ => 0))), (a4, .inl (cI, 528, .inl (fun _ => 0))), (a5, .inl (cI, 60, .inl (fun _ => 0))), (a6, .inl (cI, 140, .inl (fun _ => 0))), (a7, .inl (cI, 9, .inl (fun _ => 0))), (a8, .inl (cI, 50, .inl (vTab vtb9 19)))]) C 9 0 18 (by decide) (by decide) (by decide) rfl rfl rfl rfl dX8_init_187 ?_
  refine vi_dup C dX8_init_188 rfl ?_
  refine vi_bipush (v := 19) C dX8_init_189 (by decide) ?_
  refine vi_bipush (v := 111) C dX8_init_191 (by decide) ?_
  refine vi_iastT (L := vtb9) (w2 := [(h0, .inr (6, [.int 0, .int 0, .int 0, .int 0, .int 0, .int 0, .int (-1 : Int32), .int 0, .ref (a0), .ref (a1), .ref (a2), .ref (a3), .ref (a4), .ref (a5), .ref (a6), .ref (a7), .null, .null, .int 0, .int 0, .int 0, .int 0, .int 0, .int 0])), (a0, .inl (cI, 66, .inl (fun _ => 0))), (a1, .inl (cI, 66, .inl (fun _ => 0))), (a2, .inl (cI, 66, .inl (fun _ => 0))), (a3, .inl (cI, 66, .inl (fun _ => 0))), (a4, .inl (cI, 528, .inl (fun _ => 0))), (a5, .inl (cI, 60, .inl (fun _ => 0))), (a6, .inl (cI, 140, .inl (fun _ => 0))), (a7, .inl (cI, 9, .inl (fun _ => 0))), (a8, .inl (cI, 50, .inl (vTab vtb9 20)))]) C 9 0 19 (by decide) (by decide) (by decide) rfl rfl rfl rfl dX8_init_193 ?_
  refine vi_dup C dX8_init_194 rfl ?_
  refine vi_bipush (v := 20) C dX8_init_195 (by decide) ?_
  refine vi_bipush (v := 100) C dX8_init_197 (by decide) ?_
  refine vi_iastT (L := vtb9) (w2 := [(h0, .inr (6, [.int 0, .int 0, .int 0, .int 0, .int 0, .int 0, .int (-1 : Int32), .int 0, .ref (a0), .ref (a1), .ref (a2), .ref (a3), .ref (a4), .ref (a5), .ref (a6), .ref (a7), .null, .null, .int 0, .int 0, .int 0, .int 0, .int 0, .int 0])), (a0, .inl (cI, 66, .inl (fun _ => 0))), (a1, .inl (cI, 66, .inl (fun _ => 0))), (a2, .inl (cI, 66, .inl (fun _ => 0))), (a3, .inl (cI, 66, .inl (fun _ => 0))), (a4, .inl (cI, 528, .inl (fun _ => 0))), (a5, .inl (cI, 60, .inl (fun _ => 0))), (a6, .inl (cI, 140, .inl (fun _ => 0))), (a7, .inl (cI, 9, .inl (fun _ => 0))), (a8, .inl (cI, 50, .inl (vTab vtb9 21)))]) C 9 0 20 (by decide) (by decide) (by decide) rfl rfl rfl rfl dX8_init_199 ?_
  refine vi_dup C dX8_init_200 rfl ?_
  refine vi_bipush (v := 21) C dX8_init_201 (by decide) ?_
  refine vi_bipush (v := 32) C dX8_init_203 (by decide) ?_
  refine vi_iastT (L := vtb9) (w2 := [(h0, .inr (6, [.int 0, .int 0, .int 0, .int 0, .int 0, .int 0, .int (-1 : Int32), .int 0, .ref (a0), .ref (a1), .ref (a2), .ref (a3), .ref (a4), .ref (a5), .ref (a6), .ref (a7), .null, .null, .int 0, .int 0, .int 0, .int 0, .int 0, .int 0])), (a0, .inl (cI, 66, .inl (fun _ => 0))), (a1, .inl (cI, 66, .inl (fun _ => 0))), (a2, .inl (cI, 66, .inl (fun _ => 0))), (a3, .inl (cI, 66, .inl (fun _ => 0))), (a4, .inl (cI, 528, .inl (fun _ => 0))), (a5, .inl (cI, 60, .inl (fun _ => 0))), (a6, .inl (cI, 140, .inl (fun _ => 0))), (a7, .inl (cI, 9, .inl (fun _ => 0))), (a8, .inl (cI, 50, .inl (vTab vtb9 22)))]) C 9 0 21 (by decide) (by decide) (by decide) rfl rfl rfl rfl dX8_init_205 ?_
  refine vi_dup C dX8_init_206 rfl ?_
  refine vi_bipush (v := 22) C dX8_init_207 (by decide) ?_
  refine vi_bipush (v := 114) C dX8_init_209 (by decide) ?_
  refine vi_iastT (L := vtb9) (w2 := [(h0, .inr (6, [.int 0, .int 0, .int 0, .int 0, .int 0, .int 0, .int (-1 : Int32), .int 0, .ref (a0), .ref (a1), .ref (a2), .ref (a3), .ref (a4), .ref (a5), .ref (a6), .ref (a7), .null, .null, .int 0, .int 0, .int 0, .int 0, .int 0, .int 0])), (a0, .inl (cI, 66, .inl (fun _ => 0))), (a1, .inl (cI, 66, .inl (fun _ => 0))), (a2, .inl (cI, 66, .inl (fun _ => 0))), (a3, .inl (cI, 66, .inl (fun _ => 0))), (a4, .inl (cI, 528, .inl (fun _ => 0))), (a5, .inl (cI, 60, .inl (fun _ => 0))), (a6, .inl (cI, 140, .inl (fun _ => 0))), (a7, .inl (cI, 9, .inl (fun _ => 0))), (a8, .inl (cI, 50, .inl (vTab vtb9 23)))]) C 9 0 22 (by decide) (by decide) (by decide) rfl rfl rfl rfl dX8_init_211 ?_
  refine vi_dup C dX8_init_212 rfl ?_
  refine vi_bipush (v := 23) C dX8_init_213 (by decide) ?_
  refine vi_bipush (v := 117) C dX8_init_215 (by decide) ?_
  refine vi_iastT (L := vtb9) (w2 := [(h0, .inr (6, [.int 0, .int 0, .int 0, .int 0, .int 0, .int 0, .int (-1 : Int32), .int 0, .ref (a0), .ref (a1), .ref (a2), .ref (a3), .ref (a4), .ref (a5), .ref (a6), .ref (a7), .null, .null, .int 0, .int 0, .int 0, .int 0, .int 0, .int 0])), (a0, .inl (cI, 66, .inl (fun _ => 0))), (a1, .inl (cI, 66, .inl (fun _ => 0))), (a2, .inl (cI, 66, .inl (fun _ => 0))), (a3, .inl (cI, 66, .inl (fun _ => 0))), (a4, .inl (cI, 528, .inl (fun _ => 0))), (a5, .inl (cI, 60, .inl (fun _ => 0))), (a6, .inl (cI, 140, .inl (fun _ => 0))), (a7, .inl (cI, 9, .inl (fun _ => 0))), (a8, .inl (cI, 50, .inl (vTab vtb9 24)))]) C 9 0 23 (by decide) (by decide) (by decide) rfl rfl rfl rfl dX8_init_217 ?_
  refine vi_dup C dX8_init_218 rfl ?_
  refine vi_bipush (v := 24) C dX8_init_219 (by decide) ?_
  refine vi_bipush (v := 109) C dX8_init_221 (by decide) ?_
  refine vi_iastT (L := vtb9) (w2 := [(h0, .inr (6, [.int 0, .int 0, .int 0, .int 0, .int 0, .int 0, .int (-1 : Int32), .int 0, .ref (a0), .ref (a1), .ref (a2), .ref (a3), .ref (a4), .ref (a5), .ref (a6), .ref (a7), .null, .null, .int 0, .int 0, .int 0, .int 0, .int 0, .int 0])), (a0, .inl (cI, 66, .inl (fun _ => 0))), (a1, .inl (cI, 66, .inl (fun _ => 0))), (a2, .inl (cI, 66, .inl (fun _ => 0))), (a3, .inl (cI, 66, .inl (fun _ => 0))), (a4, .inl (cI, 528, .inl (fun _ => 0))), (a5, .inl (cI, 60, .inl (fun _ => 0))), (a6, .inl (cI, 140, .inl (fun _ => 0))), (a7, .inl (cI, 9, .inl (fun _ => 0))), (a8, .inl (cI, 50, .inl (vTab vtb9 25)))]) C 9 0 24 (by decide) (by decide) (by decide) rfl rfl rfl rfl dX8_init_223 ?_
  refine vi_dup C dX8_init_224 rfl ?_
  refine vi_bipush (v := 25) C dX8_init_225 (by decide) ?_
  refine vi_bipush (v := 32) C dX8_init_227 (by decide) ?_
  refine vi_iastT (L := vtb9) (w2 := [(h0, .inr (6, [.int 0, .int 0, .int 0, .int 0, .int 0, .int 0, .int (-1 : Int32), .int 0, .ref (a0), .ref (a1), .ref (a2), .ref (a3), .ref (a4), .ref (a5), .ref (a6), .ref (a7), .null, .null, .int 0, .int 0, .int 0, .int 0, .int 0, .int 0])), (a0, .inl (cI, 66, .inl (fun _ => 0))), (a1, .inl (cI, 66, .inl (fun _ => 0))), (a2, .inl (cI, 66, .inl (fun _ => 0))), (a3, .inl (cI, 66, .inl (fun _ => 0))), (a4, .inl (cI, 528, .inl (fun _ => 0))), (a5, .inl (cI, 60, .inl (fun _ => 0))), (a6, .inl (cI, 140, .inl (fun _ => 0))), (a7, .inl (cI, 9, .inl (fun _ => 0))), (a8, .inl (cI, 50, .inl (vTab vtb9 26)))]) C 9 0 25 (by decide) (by decide) (by decide) rfl rfl rfl rfl dX8_init_229 ?_
  refine vi_dup C dX8_init_230 rfl ?_
  refine vi_bipush (v := 26) C dX8_init_231 (by decide) ?_
  refine vi_bipush (v := 119) C dX8_init_233 (by decide) ?_
  refine vi_iastT (L := vtb9) (w2 := [(h0, .inr (6, [.int 0, .int 0, .int 0, .int 0, .int 0, .int 0, .int (-1 : Int32), .int 0, .ref (a0), .ref (a1), .ref (a2), .ref (a3), .ref (a4), .ref (a5), .ref (a6), .ref (a7), .null, .null, .int 0, .int 0, .int 0, .int 0, .int 0, .int 0])), (a0, .inl (cI, 66, .inl (fun _ => 0))), (a1, .inl (cI, 66, .inl (fun _ => 0))), (a2, .inl (cI, 66, .inl (fun _ => 0))), (a3, .inl (cI, 66, .inl (fun _ => 0))), (a4, .inl (cI, 528, .inl (fun _ => 0))), (a5, .inl (cI, 60, .inl (fun _ => 0))), (a6, .inl (cI, 140, .inl (fun _ => 0))), (a7, .inl (cI, 9, .inl (fun _ => 0))), (a8, .inl (cI, 50, .inl (vTab vtb9 27)))]) C 9 0 26 (by decide) (by decide) (by decide) rfl rfl rfl rfl dX8_init_235 ?_
  refine vi_dup C dX8_init_236 rfl ?_
  refine vi_bipush (v := 27) C dX8_init_237 (by decide) ?_
  refine vi_bipush (v := 97) C dX8_init_239 (by decide) ?_
  refine vi_iastT (L := vtb9) (w2 := [(h0, .inr (6, [.int 0, .int 0, .int 0, .int 0, .int 0, .int 0, .int (-1 : Int32), .int 0, .ref (a0), .ref (a1), .ref (a2), .ref (a3), .ref (a4), .ref (a5), .ref (a6), .ref (a7), .null, .null, .int 0, .int 0, .int 0, .int 0, .int 0, .int 0])), (a0, .inl (cI, 66, .inl (fun _ => 0))), (a1, .inl (cI, 66, .inl (fun _ => 0))), (a2, .inl (cI, 66, .inl (fun _ => 0))), (a3, .inl (cI, 66, .inl (fun _ => 0))), (a4, .inl (cI, 528, .inl (fun _ => 0))), (a5, .inl (cI, 60, .inl (fun _ => 0))), (a6, .inl (cI, 140, .inl (fun _ => 0))), (a7, .inl (cI, 9, .inl (fun _ => 0))), (a8, .inl (cI, 50, .inl (vTab vtb9 28)))]) C 9 0 27 (by decide) (by decide) (by decide) rfl rfl rfl rfl dX8_init_241 ?_
  refine vi_dup C dX8_init_242 rfl ?_
  refine vi_bipush (v := 28) C dX8_init_243 (by decide) ?_
  refine vi_bipush (v := 116) C dX8_init_245 (by decide) ?_
  refine vi_iastT (L := vtb9) (w2 := [(h0, .inr (6, [.int 0, .int 0, .int 0, .int 0, .int 0, .int 0, .int (-1 : Int32), .int 0, .ref (a0), .ref (a1), .ref (a2), .ref (a3), .ref (a4), .ref (a5), .ref (a6), .ref (a7), .null, .null, .int 0, .int 0, .int 0, .int 0, .int 0, .int 0])), (a0, .inl (cI, 66, .inl (fun _ => 0))), (a1, .inl (cI, 66, .inl (fun _ => 0))), (a2, .inl (cI, 66, .inl (fun _ => 0))), (a3, .inl (cI, 66, .inl (fun _ => 0))), (a4, .inl (cI, 528, .inl (fun _ => 0))), (a5, .inl (cI, 60, .inl (fun _ => 0))), (a6, .inl (cI, 140, .inl (fun _ => 0))), (a7, .inl (cI, 9, .inl (fun _ => 0))), (a8, .inl (cI, 50, .inl (vTab vtb9 29)))]) C 9 0 28 (by decide) (by decide) (by decide) rfl rfl rfl rfl dX8_init_247 ?_
  refine vi_dup C dX8_init_248 rfl ?_
  refine vi_bipush (v := 29) C dX8_init_249 (by decide) ?_
  refine vi_bipush (v := 99) C dX8_init_251 (by decide) ?_
  refine vi_iastT (L := vtb9) (w2 := [(h0, .inr (6, [.int 0, .int 0, .int 0, .int 0, .int 0, .int 0, .int (-1 : Int32), .int 0, .ref (a0), .ref (a1), .ref (a2), .ref (a3), .ref (a4), .ref (a5), .ref (a6), .ref (a7), .null, .null, .int 0, .int 0, .int 0, .int 0, .int 0, .int 0])), (a0, .inl (cI, 66, .inl (fun _ => 0))), (a1, .inl (cI, 66, .inl (fun _ => 0))), (a2, .inl (cI, 66, .inl (fun _ => 0))), (a3, .inl (cI, 66, .inl (fun _ => 0))), (a4, .inl (cI, 528, .inl (fun _ => 0))), (a5, .inl (cI, 60, .inl (fun _ => 0))), (a6, .inl (cI, 140, .inl (fun _ => 0))), (a7, .inl (cI, 9, .inl (fun _ => 0))), (a8, .inl (cI, 50, .inl (vTab vtb9 30)))]) C 9 0 29 (by decide) (by decide) (by decide) rfl rfl rfl rfl dX8_init_253 ?_
  refine vi_dup C dX8_init_254 rfl ?_
  refine vi_bipush (v := 30) C dX8_init_255 (by decide) ?_
  refine vi_bipush (v := 104) C dX8_init_257 (by decide) ?_
  refine vi_iastT (L := vtb9) (w2 := [(h0, .inr (6, [.int 0, .int 0, .int 0, .int 0, .int 0, .int 0, .int (-1 : Int32), .int 0, .ref (a0), .ref (a1), .ref (a2), .ref (a3), .ref (a4), .ref (a5), .ref (a6), .ref (a7), .null, .null, .int 0, .int 0, .int 0, .int 0, .int 0, .int 0])), (a0, .inl (cI, 66, .inl (fun _ => 0))), (a1, .inl (cI, 66, .inl (fun _ => 0))), (a2, .inl (cI, 66, .inl (fun _ => 0))), (a3, .inl (cI, 66, .inl (fun _ => 0))), (a4, .inl (cI, 528, .inl (fun _ => 0))), (a5, .inl (cI, 60, .inl (fun _ => 0))), (a6, .inl (cI, 140, .inl (fun _ => 0))), (a7, .inl (cI, 9, .inl (fun _ => 0))), (a8, .inl (cI, 50, .inl (vTab vtb9 31)))]) C 9 0 30 (by decide) (by decide) (by decide) rfl rfl rfl rfl dX8_init_259 ?_
  refine vi_dup C dX8_init_260 rfl ?_
  refine vi_bipush (v := 31) C dX8_init_261 (by decide) ?_
  refine vi_bipush (v := 32) C dX8_init_263 (by decide) ?_
  refine vi_iastT (L := vtb9) (w2 := [(h0, .inr (6, [.int 0, .int 0, .int 0, .int 0, .int 0, .int 0, .int (-1 : Int32), .int 0, .ref (a0), .ref (a1), .ref (a2), .ref (a3), .ref (a4), .ref (a5), .ref (a6), .ref (a7), .null, .null, .int 0, .int 0, .int 0, .int 0, .int 0, .int 0])), (a0, .inl (cI, 66, .inl (fun _ => 0))), (a1, .inl (cI, 66, .inl (fun _ => 0))), (a2, .inl (cI, 66, .inl (fun _ => 0))), (a3, .inl (cI, 66, .inl (fun _ => 0))), (a4, .inl (cI, 528, .inl (fun _ => 0))), (a5, .inl (cI, 60, .inl (fun _ => 0))), (a6, .inl (cI, 140, .inl (fun _ => 0))), (a7, .inl (cI, 9, .inl (fun _ => 0))), (a8, .inl (cI, 50, .inl (vTab vtb9 32)))]) C 9 0 31 (by decide) (by decide) (by decide) rfl rfl rfl rfl dX8_init_265 ?_
  refine vi_dup C dX8_init_266 rfl ?_
  refine vi_bipush (v := 32) C dX8_init_267 (by decide) ?_
  refine vi_bipush (v := 104) C dX8_init_269 (by decide) ?_
  refine vi_iastT (L := vtb9) (w2 := [(h0, .inr (6, [.int 0, .int 0, .int 0, .int 0, .int 0, .int 0, .int (-1 : Int32), .int 0, .ref (a0), .ref (a1), .ref (a2), .ref (a3), .ref (a4), .ref (a5), .ref (a6), .ref (a7), .null, .null, .int 0, .int 0, .int 0, .int 0, .int 0, .int 0])), (a0, .inl (cI, 66, .inl (fun _ => 0))), (a1, .inl (cI, 66, .inl (fun _ => 0))), (a2, .inl (cI, 66, .inl (fun _ => 0))), (a3, .inl (cI, 66, .inl (fun _ => 0))), (a4, .inl (cI, 528, .inl (fun _ => 0))), (a5, .inl (cI, 60, .inl (fun _ => 0))), (a6, .inl (cI, 140, .inl (fun _ => 0))), (a7, .inl (cI, 9, .inl (fun _ => 0))), (a8, .inl (cI, 50, .inl (vTab vtb9 33)))]) C 9 0 32 (by decide) (by decide) (by decide) rfl rfl rfl rfl dX8_init_271 ?_
  refine vi_dup C dX8_init_272 rfl ?_
  refine vi_bipush (v := 33) C dX8_init_273 (by decide) ?_
  refine vi_bipush (v := 111) C dX8_init_275 (by decide) ?_
  refine vi_iastT (L := vtb9) (w2 := [(h0, .inr (6, [.int 0, .int 0, .int 0, .int 0, .int 0, .int 0, .int (-1 : Int32), .int 0, .ref (a0), .ref (a1), .ref (a2), .ref (a3), .ref (a4), .ref (a5), .ref (a6), .ref (a7), .null, .null, .int 0, .int 0, .int 0, .int 0, .int 0, .int 0])), (a0, .inl (cI, 66, .inl (fun _ => 0))), (a1, .inl (cI, 66, .inl (fun _ => 0))), (a2, .inl (cI, 66, .inl (fun _ => 0))), (a3, .inl (cI, 66, .inl (fun _ => 0))), (a4, .inl (cI, 528, .inl (fun _ => 0))), (a5, .inl (cI, 60, .inl (fun _ => 0))), (a6, .inl (cI, 140, .inl (fun _ => 0))), (a7, .inl (cI, 9, .inl (fun _ => 0))), (a8, .inl (cI, 50, .inl (vTab vtb9 34)))]) C 9 0 33 (by decide) (by decide) (by decide) rfl rfl rfl rfl dX8_init_277 ?_
  refine vi_dup C dX8_init_278 rfl ?_
  refine vi_bipush (v := 34) C dX8_init_279 (by decide) ?_
  refine vi_bipush (v := 114) C dX8_init_281 (by decide) ?_
  refine vi_iastT (L := vtb9) (w2 := [(h0, .inr (6, [.int 0, .int 0, .int 0, .int 0, .int 0, .int 0, .int (-1 : Int32), .int 0, .ref (a0), .ref (a1), .ref (a2), .ref (a3), .ref (a4), .ref (a5), .ref (a6), .ref (a7), .null, .null, .int 0, .int 0, .int 0, .int 0, .int 0, .int 0])), (a0, .inl (cI, 66, .inl (fun _ => 0))), (a1, .inl (cI, 66, .inl (fun _ => 0))), (a2, .inl (cI, 66, .inl (fun _ => 0))), (a3, .inl (cI, 66, .inl (fun _ => 0))), (a4, .inl (cI, 528, .inl (fun _ => 0))), (a5, .inl (cI, 60, .inl (fun _ => 0))), (a6, .inl (cI, 140, .inl (fun _ => 0))), (a7, .inl (cI, 9, .inl (fun _ => 0))), (a8, .inl (cI, 50, .inl (vTab vtb9 35)))]) C 9 0 34 (by decide) (by decide) (by decide) rfl rfl rfl rfl dX8_init_283 ?_
  refine vi_dup C dX8_init_284 rfl ?_
  refine vi_bipush (v := 35) C dX8_init_285 (by decide) ?_
  refine vi_bipush (v := 105) C dX8_init_287 (by decide) ?_
  refine vi_iastT (L := vtb9) (w2 := [(h0, .inr (6, [.int 0, .int 0, .int 0, .int 0, .int 0, .int 0, .int (-1 : Int32), .int 0, .ref (a0), .ref (a1), .ref (a2), .ref (a3), .ref (a4), .ref (a5), .ref (a6), .ref (a7), .null, .null, .int 0, .int 0, .int 0, .int 0, .int 0, .int 0])), (a0, .inl (cI, 66, .inl (fun _ => 0))), (a1, .inl (cI, 66, .inl (fun _ => 0))), (a2, .inl (cI, 66, .inl (fun _ => 0))), (a3, .inl (cI, 66, .inl (fun _ => 0))), (a4, .inl (cI, 528, .inl (fun _ => 0))), (a5, .inl (cI, 60, .inl (fun _ => 0))), (a6, .inl (cI, 140, .inl (fun _ => 0))), (a7, .inl (cI, 9, .inl (fun _ => 0))), (a8, .inl (cI, 50, .inl (vTab vtb9 36)))]) C 9 0 35 (by decide) (by decide) (by decide) rfl rfl rfl rfl dX8_init_289 ?_
  refine vi_dup C dX8_init_290 rfl ?_
  refine vi_bipush (v := 36) C dX8_init_291 (by decide) ?_
  refine vi_bipush (v := 122) C dX8_init_293 (by decide) ?_
  refine vi_iastT (L := vtb9) (w2 := [(h0, .inr (6, [.int 0, .int 0, .int 0, .int 0, .int 0, .int 0, .int (-1 : Int32), .int 0, .ref (a0), .ref (a1), .ref (a2), .ref (a3), .ref (a4), .ref (a5), .ref (a6), .ref (a7), .null, .null, .int 0, .int 0, .int 0, .int 0, .int 0, .int 0])), (a0, .inl (cI, 66, .inl (fun _ => 0))), (a1, .inl (cI, 66, .inl (fun _ => 0))), (a2, .inl (cI, 66, .inl (fun _ => 0))), (a3, .inl (cI, 66, .inl (fun _ => 0))), (a4, .inl (cI, 528, .inl (fun _ => 0))), (a5, .inl (cI, 60, .inl (fun _ => 0))), (a6, .inl (cI, 140, .inl (fun _ => 0))), (a7, .inl (cI, 9, .inl (fun _ => 0))), (a8, .inl (cI, 50, .inl (vTab vtb9 37)))]) C 9 0 36 (by decide) (by decide) (by decide) rfl rfl rfl rfl dX8_init_295 ?_
  refine vi_dup C dX8_init_296 rfl ?_
  refine vi_bipush (v := 37) C dX8_init_297 (by decide) ?_
  refine vi_bipush (v := 111) C dX8_init_299 (by decide) ?_
  refine vi_iastT (L := vtb9) (w2 := [(h0, .inr (6, [.int 0, .int 0, .int 0, .int 0, .int 0, .int 0, .int (-1 : Int32), .int 0, .ref (a0), .ref (a1), .ref (a2), .ref (a3), .ref (a4), .ref (a5), .ref (a6), .ref (a7), .null, .null, .int 0, .int 0, .int 0, .int 0, .int 0, .int 0])), (a0, .inl (cI, 66, .inl (fun _ => 0))), (a1, .inl (cI, 66, .inl (fun _ => 0))), (a2, .inl (cI, 66, .inl (fun _ => 0))), (a3, .inl (cI, 66, .inl (fun _ => 0))), (a4, .inl (cI, 528, .inl (fun _ => 0))), (a5, .inl (cI, 60, .inl (fun _ => 0))), (a6, .inl (cI, 140, .inl (fun _ => 0))), (a7, .inl (cI, 9, .inl (fun _ => 0))), (a8, .inl (cI, 50, .inl (vTab vtb9 38)))]) C 9 0 37 (by decide) (by decide) (by decide) rfl rfl rfl rfl dX8_init_301 ?_
  refine vi_dup C dX8_init_302 rfl ?_
  refine vi_bipush (v := 38) C dX8_init_303 (by decide) ?_
  refine vi_bipush (v := 110) C dX8_init_305 (by decide) ?_
  refine vi_iastT (L := vtb9) (w2 := [(h0, .inr (6, [.int 0, .int 0, .int 0, .int 0, .int 0, .int 0, .int (-1 : Int32), .int 0, .ref (a0), .ref (a1), .ref (a2), .ref (a3), .ref (a4), .ref (a5), .ref (a6), .ref (a7), .null, .null, .int 0, .int 0, .int 0, .int 0, .int 0, .int 0])), (a0, .inl (cI, 66, .inl (fun _ => 0))), (a1, .inl (cI, 66, .inl (fun _ => 0))), (a2, .inl (cI, 66, .inl (fun _ => 0))), (a3, .inl (cI, 66, .inl (fun _ => 0))), (a4, .inl (cI, 528, .inl (fun _ => 0))), (a5, .inl (cI, 60, .inl (fun _ => 0))), (a6, .inl (cI, 140, .inl (fun _ => 0))), (a7, .inl (cI, 9, .inl (fun _ => 0))), (a8, .inl (cI, 50, .inl (vTab vtb9 39)))]) C 9 0 38 (by decide) (by decide) (by decide) rfl rfl rfl rfl dX8_init_307 ?_
  refine vi_dup C dX8_init_308 rfl ?_
  refine vi_bipush (v := 39) C dX8_init_309 (by decide) ?_
  refine vi_bipush (v := 32) C dX8_init_311 (by decide) ?_
  refine vi_iastT (L := vtb9) (w2 := [(h0, .inr (6, [.int 0, .int 0, .int 0, .int 0, .int 0, .int 0, .int (-1 : Int32), .int 0, .ref (a0), .ref (a1), .ref (a2), .ref (a3), .ref (a4), .ref (a5), .ref (a6), .ref (a7), .null, .null, .int 0, .int 0, .int 0, .int 0, .int 0, .int 0])), (a0, .inl (cI, 66, .inl (fun _ => 0))), (a1, .inl (cI, 66, .inl (fun _ => 0))), (a2, .inl (cI, 66, .inl (fun _ => 0))), (a3, .inl (cI, 66, .inl (fun _ => 0))), (a4, .inl (cI, 528, .inl (fun _ => 0))), (a5, .inl (cI, 60, .inl (fun _ => 0))), (a6, .inl (cI, 140, .inl (fun _ => 0))), (a7, .inl (cI, 9, .inl (fun _ => 0))), (a8, .inl (cI, 50, .inl (vTab vtb9 40)))]) C 9 0 39 (by decide) (by decide) (by decide) rfl rfl rfl rfl dX8_init_313 ?_
  refine vi_dup C dX8_init_314 rfl ?_
  refine vi_bipush (v := 40) C dX8_init_315 (by decide) ?_
  refine vi_bipush (v := 101) C dX8_init_317 (by decide) ?_
  refine vi_iastT (L := vtb9) (w2 := [(h0, .inr (6, [.int 0, .int 0, .int 0, .int 0, .int 0, .int 0, .int (-1 : Int32), .int 0, .ref (a0), .ref (a1), .ref (a2), .ref (a3), .ref (a4), .ref (a5), .ref (a6), .ref (a7), .null, .null, .int 0, .int 0, .int 0, .int 0, .int 0, .int 0])), (a0, .inl (cI, 66, .inl (fun _ => 0))), (a1, .inl (cI, 66, .inl (fun _ => 0))), (a2, .inl (cI, 66, .inl (fun _ => 0))), (a3, .inl (cI, 66, .inl (fun _ => 0))), (a4, .inl (cI, 528, .inl (fun _ => 0))), (a5, .inl (cI, 60, .inl (fun _ => 0))), (a6, .inl (cI, 140, .inl (fun _ => 0))), (a7, .inl (cI, 9, .inl (fun _ => 0))), (a8, .inl (cI, 50, .inl (vTab vtb9 41)))]) C 9 0 40 (by decide) (by decide) (by decide) rfl rfl rfl rfl dX8_init_319 ?_
  refine vi_dup C dX8_init_320 rfl ?_
  refine vi_bipush (v := 41) C dX8_init_321 (by decide) ?_
  refine vi_bipush (v := 114) C dX8_init_323 (by decide) ?_
  refine vi_iastT (L := vtb9) (w2 := [(h0, .inr (6, [.int 0, .int 0, .int 0, .int 0, .int 0, .int 0, .int (-1 : Int32), .int 0, .ref (a0), .ref (a1), .ref (a2), .ref (a3), .ref (a4), .ref (a5), .ref (a6), .ref (a7), .null, .null, .int 0, .int 0, .int 0, .int 0, .int 0, .int 0])), (a0, .inl (cI, 66, .inl (fun _ => 0))), (a1, .inl (cI, 66, .inl (fun _ => 0))), (a2, .inl (cI, 66, .inl (fun _ => 0))), (a3, .inl (cI, 66, .inl (fun _ => 0))), (a4, .inl (cI, 528, .inl (fun _ => 0))), (a5, .inl (cI, 60, .inl (fun _ => 0))), (a6, .inl (cI, 140, .inl (fun _ => 0))), (a7, .inl (cI, 9, .inl (fun _ => 0))), (a8, .inl (cI, 50, .inl (vTab vtb9 42)))]) C 9 0 41 (by decide) (by decide) (by decide) rfl rfl rfl rfl dX8_init_325 ?_
  refine vi_dup C dX8_init_326 rfl ?_
  refine vi_bipush (v := 42) C dX8_init_327 (by decide) ?_
  refine vi_bipush (v := 114) C dX8_init_329 (by decide) ?_
  refine vi_iastT (L := vtb9) (w2 := [(h0, .inr (6, [.int 0, .int 0, .int 0, .int 0, .int 0, .int 0, .int (-1 : Int32), .int 0, .ref (a0), .ref (a1), .ref (a2), .ref (a3), .ref (a4), .ref (a5), .ref (a6), .ref (a7), .null, .null, .int 0, .int 0, .int 0, .int 0, .int 0, .int 0])), (a0, .inl (cI, 66, .inl (fun _ => 0))), (a1, .inl (cI, 66, .inl (fun _ => 0))), (a2, .inl (cI, 66, .inl (fun _ => 0))), (a3, .inl (cI, 66, .inl (fun _ => 0))), (a4, .inl (cI, 528, .inl (fun _ => 0))), (a5, .inl (cI, 60, .inl (fun _ => 0))), (a6, .inl (cI, 140, .inl (fun _ => 0))), (a7, .inl (cI, 9, .inl (fun _ => 0))), (a8, .inl (cI, 50, .inl (vTab vtb9 43)))]) C 9 0 42 (by decide) (by decide) (by decide) rfl rfl rfl rfl dX8_init_331 ?_
  refine vi_dup C dX8_init_332 rfl ?_
  refine vi_bipush (v := 43) C dX8_init_333 (by decide) ?_
  refine vi_bipush (v := 111) C dX8_init_335 (by decide) ?_
  refine vi_iastT (L := vtb9) (w2 := [(h0, .inr (6, [.int 0, .int 0, .int 0, .int 0, .int 0, .int 0, .int (-1 : Int32), .int 0, .ref (a0), .ref (a1), .ref (a2), .ref (a3), .ref (a4), .ref (a5), .ref (a6), .ref (a7), .null, .null, .int 0, .int 0, .int 0, .int 0, .int 0, .int 0])), (a0, .inl (cI, 66, .inl (fun _ => 0))), (a1, .inl (cI, 66, .inl (fun _ => 0))), (a2, .inl (cI, 66, .inl (fun _ => 0))), (a3, .inl (cI, 66, .inl (fun _ => 0))), (a4, .inl (cI, 528, .inl (fun _ => 0))), (a5, .inl (cI, 60, .inl (fun _ => 0))), (a6, .inl (cI, 140, .inl (fun _ => 0))), (a7, .inl (cI, 9, .inl (fun _ => 0))), (a8, .inl (cI, 50, .inl (vTab vtb9 44)))]) C 9 0 43 (by decide) (by decide) (by decide) rfl rfl rfl rfl dX8_init_337 ?_
  refine vi_dup C dX8_init_338 rfl ?_
  refine vi_bipush (v := 44) C dX8_init_339 (by decide) ?_
  refine vi_bipush (v := 114) C dX8_init_341 (by decide) ?_
  refine vi_iastT (L := vtb9) (w2 := [(h0, .inr (6, [.int 0, .int 0, .int 0, .int 0, .int 0, .int 0, .int (-1 : Int32), .int 0, .ref (a0), .ref (a1), .ref (a2), .ref (a3), .ref (a4), .ref (a5), .ref (a6), .ref (a7), .null, .null, .int 0, .int 0, .int 0, .int 0, .int 0, .int 0])), (a0, .inl (cI, 66, .inl (fun _ => 0))), (a1, .inl (cI, 66, .inl (fun _ => 0))), (a2, .inl (cI, 66, .inl (fun _ => 0))), (a3, .inl (cI, 66, .inl (fun _ => 0))), (a4, .inl (cI, 528, .inl (fun _ => 0))), (a5, .inl (cI, 60, .inl (fun _ => 0))), (a6, .inl (cI, 140, .inl (fun _ => 0))), (a7, .inl (cI, 9, .inl (fun _ => 0))), (a8, .inl (cI, 50, .inl (vTab vtb9 45)))]) C 9 0 44 (by decide) (by decide) (by decide) rfl rfl rfl rfl dX8_init_343 ?_
  refine vi_dup C dX8_init_344 rfl ?_
  refine vi_bipush (v := 45) C dX8_init_345 (by decide) ?_
  refine vi_bipush (v := 32) C dX8_init_347 (by decide) ?_
  refine vi_iastT (L := vtb9) (w2 := [(h0, .inr (6, [.int 0, .int 0, .int 0, .int 0, .int 0, .int 0, .int (-1 : Int32), .int 0, .ref (a0), .ref (a1), .ref (a2), .ref (a3), .ref (a4), .ref (a5), .ref (a6), .ref (a7), .null, .null, .int 0, .int 0, .int 0, .int 0, .int 0, .int 0])), (a0, .inl (cI, 66, .inl (fun _ => 0))), (a1, .inl (cI, 66, .inl (fun _ => 0))), (a2, .inl (cI, 66, .inl (fun _ => 0))), (a3, .inl (cI, 66, .inl (fun _ => 0))), (a4, .inl (cI, 528, .inl (fun _ => 0))), (a5, .inl (cI, 60, .inl (fun _ => 0))), (a6, .inl (cI, 140, .inl (fun _ => 0))), (a7, .inl (cI, 9, .inl (fun _ => 0))), (a8, .inl (cI, 50, .inl (vTab vtb9 46)))]) C 9 0 45 (by decide) (by decide) (by decide) rfl rfl rfl rfl dX8_init_349 ?_
  refine vi_dup C dX8_init_350 rfl ?_
  refine vi_bipush (v := 46) C dX8_init_351 (by decide) ?_
  refine vi_bipush (v := 104) C dX8_init_353 (by decide) ?_
  refine vi_iastT (L := vtb9) (w2 := [(h0, .inr (6, [.int 0, .int 0, .int 0, .int 0, .int 0, .int 0, .int (-1 : Int32), .int 0, .ref (a0), .ref (a1), .ref (a2), .ref (a3), .ref (a4), .ref (a5), .ref (a6), .ref (a7), .null, .null, .int 0, .int 0, .int 0, .int 0, .int 0, .int 0])), (a0, .inl (cI, 66, .inl (fun _ => 0))), (a1, .inl (cI, 66, .inl (fun _ => 0))), (a2, .inl (cI, 66, .inl (fun _ => 0))), (a3, .inl (cI, 66, .inl (fun _ => 0))), (a4, .inl (cI, 528, .inl (fun _ => 0))), (a5, .inl (cI, 60, .inl (fun _ => 0))), (a6, .inl (cI, 140, .inl (fun _ => 0))), (a7, .inl (cI, 9, .inl (fun _ => 0))), (a8, .inl (cI, 50, .inl (vTab vtb9 47)))]) C 9 0 46 (by decide) (by decide) (by decide) rfl rfl rfl rfl dX8_init_355 ?_
  refine vi_dup C dX8_init_356 rfl ?_
  refine vi_bipush (v := 47) C dX8_init_357 (by decide) ?_
  refine vi_bipush (v := 111) C dX8_init_359 (by decide) ?_
  refine vi_iastT (L := vtb9) (w2 := [(h0, .inr (6, [.int 0, .int 0, .int 0, .int 0, .int 0, .int 0, .int (-1 : Int32), .int 0, .ref (a0), .ref (a1), .ref (a2), .ref (a3), .ref (a4), .ref (a5), .ref (a6), .ref (a7), .null, .null, .int 0, .int 0, .int 0, .int 0, .int 0, .int 0])), (a0, .inl (cI, 66, .inl (fun _ => 0))), (a1, .inl (cI, 66, .inl (fun _ => 0))), (a2, .inl (cI, 66, .inl (fun _ => 0))), (a3, .inl (cI, 66, .inl (fun _ => 0))), (a4, .inl (cI, 528, .inl (fun _ => 0))), (a5, .inl (cI, 60, .inl (fun _ => 0))), (a6, .inl (cI, 140, .inl (fun _ => 0))), (a7, .inl (cI, 9, .inl (fun _ => 0))), (a8, .inl (cI, 50, .inl (vTab vtb9 48)))]) C 9 0 47 (by decide) (by decide) (by decide) rfl rfl rfl rfl dX8_init_361 ?_
  refine vi_dup C dX8_init_362 rfl ?_
  refine vi_bipush (v := 48) C dX8_init_363 (by decide) ?_
  refine vi_bipush (v := 117) C dX8_init_365 (by decide) ?_
  refine vi_iastT (L := vtb9) (w2 := [(h0, .inr (6, [.int 0, .int 0, .int 0, .int 0, .int 0, .int 0, .int (-1 : Int32), .int 0, .ref (a0), .ref (a1), .ref (a2), .ref (a3), .ref (a4), .ref (a5), .ref (a6), .ref (a7), .null, .null, .int 0, .int 0, .int 0, .int 0, .int 0, .int 0])), (a0, .inl (cI, 66, .inl (fun _ => 0))), (a1, .inl (cI, 66, .inl (fun _ => 0))), (a2, .inl (cI, 66, .inl (fun _ => 0))), (a3, .inl (cI, 66, .inl (fun _ => 0))), (a4, .inl (cI, 528, .inl (fun _ => 0))), (a5, .inl (cI, 60, .inl (fun _ => 0))), (a6, .inl (cI, 140, .inl (fun _ => 0))), (a7, .inl (cI, 9, .inl (fun _ => 0))), (a8, .inl (cI, 50, .inl (vTab vtb9 49)))]) C 9 0 48 (by decide) (by decide) (by decide) rfl rfl rfl rfl dX8_init_367 ?_
  refine vi_dup C dX8_init_368 rfl ?_
  refine vi_bipush (v := 49) C dX8_init_369 (by decide) ?_
  refine vi_bipush (v := 114) C dX8_init_371 (by decide) ?_
  refine vi_iastT (L := vtb9) (w2 := [(h0, .inr (6, [.int 0, .int 0, .int 0, .int 0, .int 0, .int 0, .int (-1 : Int32), .int 0, .ref (a0), .ref (a1), .ref (a2), .ref (a3), .ref (a4), .ref (a5), .ref (a6), .ref (a7), .null, .null, .int 0, .int 0, .int 0, .int 0, .int 0, .int 0])), (a0, .inl (cI, 66, .inl (fun _ => 0))), (a1, .inl (cI, 66, .inl (fun _ => 0))), (a2, .inl (cI, 66, .inl (fun _ => 0))), (a3, .inl (cI, 66, .inl (fun _ => 0))), (a4, .inl (cI, 528, .inl (fun _ => 0))), (a5, .inl (cI, 60, .inl (fun _ => 0))), (a6, .inl (cI, 140, .inl (fun _ => 0))), (a7, .inl (cI, 9, .inl (fun _ => 0))), (a8, .inl (cI, 50, .inl (vTab vtb9 50)))]) C 9 0 49 (by decide) (by decide) (by decide) rfl rfl rfl rfl dX8_init_373 ?_
  refine vi_putF (ref := "MoodSextantModel") (ty := tyX8 16) (w2 := [(h0, .inr (6, [.int 0, .int 0, .int 0, .int 0, .int 0, .int 0, .int (-1 : Int32), .int 0, .ref (a0), .ref (a1), .ref (a2), .ref (a3), .ref (a4), .ref (a5), .ref (a6), .ref (a7), .ref (a8), .null, .int 0, .int 0, .int 0, .int 0, .int 0, .int 0])), (a0, .inl (cI, 66, .inl (fun _ => 0))), (a1, .inl (cI, 66, .inl (fun _ => 0))), (a2, .inl (cI, 66, .inl (fun _ => 0))), (a3, .inl (cI, 66, .inl (fun _ => 0))), (a4, .inl (cI, 528, .inl (fun _ => 0))), (a5, .inl (cI, 60, .inl (fun _ => 0))), (a6, .inl (cI, 140, .inl (fun _ => 0))), (a7, .inl (cI, 9, .inl (fun _ => 0))), (a8, .inl (cI, 50, .inl (vTab vtb9 50)))]) C 0 16 inR tyX8 tyX8_ok nmX8 rfl rfl (by decide) tfX8_38 rfl rfl hin rfl (tyX8_ok 16 (by decide)) rfl rfl (by show 16 < 24; decide) rfl dX8_init_374 ?_
  refine vi_aload_n C 0 dX8_init_377 rfl ?_
  refine vi_bipush (v := 10) C dX8_init_378 (by decide) ?_
  refine vi_newa (atype := .int) (ty := .int) (cA := cI) (N := 10) (a0 := (10, .inl (fun _ => 0))) C 0 tac_int rfl rfl (fun _ => rfl) (by decide) rfl (by decide) (Nat.le_of_ble_eq_true rfl) (Nat.le_of_ble_eq_true rfl) dX8_init_380 (fun a9 => ?_)
  refine vi_w C (w' := [(h0, .inr (6, [.int 0, .int 0, .int 0, .int 0, .int 0, .int 0, .int (-1 : Int32), .int 0, .ref (a0), .ref (a1), .ref (a2), .ref (a3), .ref (a4), .ref (a5), .ref (a6), .ref (a7), .ref (a8), .null, .int 0, .int 0, .int 0, .int 0, .int 0, .int 0])), (a0, .inl (cI, 66, .inl (fun _ => 0))), (a1, .inl (cI, 66, .inl (fun _ => 0))), (a2, .inl (cI, 66, .inl (fun _ => 0))), (a3, .inl (cI, 66, .inl (fun _ => 0))), (a4, .inl (cI, 528, .inl (fun _ => 0))), (a5, .inl (cI, 60, .inl (fun _ => 0))), (a6, .inl (cI, 140, .inl (fun _ => 0))), (a7, .inl (cI, 9, .inl (fun _ => 0))), (a8, .inl (cI, 50, .inl (vTab vtb9 50))), (a9, .inl (cI, 10, .inl (fun _ => 0)))]) rfl ?_
  refine vi_dup C dX8_init_382 rfl ?_
  refine vi_iconst (v := 0) C dX8_init_383 (by decide) ?_
  refine vi_iconst (v := 0) C dX8_init_384 (by decide) ?_
  refine vi_w C (w' := [(h0, .inr (6, [.int 0, .int 0, .int 0, .int 0, .int 0, .int 0, .int (-1 : Int32), .int 0, .ref (a0), .ref (a1), .ref (a2), .ref (a3), .ref (a4), .ref (a5), .ref (a6), .ref (a7), .ref (a8), .null, .int 0, .int 0, .int 0, .int 0, .int 0, .int 0])), (a0, .inl (cI, 66, .inl (fun _ => 0))), (a1, .inl (cI, 66, .inl (fun _ => 0))), (a2, .inl (cI, 66, .inl (fun _ => 0))), (a3, .inl (cI, 66, .inl (fun _ => 0))), (a4, .inl (cI, 528, .inl (fun _ => 0))), (a5, .inl (cI, 60, .inl (fun _ => 0))), (a6, .inl (cI, 140, .inl (fun _ => 0))), (a7, .inl (cI, 9, .inl (fun _ => 0))), (a8, .inl (cI, 50, .inl (vTab vtb9 50))), (a9, .inl (cI, 10, .inl (vTab vtb10 0)))]) (by rw [vTabz vtb10 0 (by decide)]) ?_
  refine vi_iastT (L := vtb10) (w2 := [(h0, .inr (6, [.int 0, .int 0, .int 0, .int 0, .int 0, .int 0, .int (-1 : Int32), .int 0, .ref (a0), .ref (a1), .ref (a2), .ref (a3), .ref (a4), .ref (a5), .ref (a6), .ref (a7), .ref (a8), .null, .int 0, .int 0, .int 0, .int 0, .int 0, .int 0])), (a0, .inl (cI, 66, .inl (fun _ => 0))), (a1, .inl (cI, 66, .inl (fun _ => 0))), (a2, .inl (cI, 66, .inl (fun _ => 0))), (a3, .inl (cI, 66, .inl (fun _ => 0))), (a4, .inl (cI, 528, .inl (fun _ => 0))), (a5, .inl (cI, 60, .inl (fun _ => 0))), (a6, .inl (cI, 140, .inl (fun _ => 0))), (a7, .inl (cI, 9, .inl (fun _ => 0))), (a8, .inl (cI, 50, .inl (vTab vtb9 50))), (a9, .inl (cI, 10, .inl (vTab vtb10 1)))]) C 10 0 0 (by decide) (by decide) (by decide) rfl rfl rfl rfl dX8_init_385 ?_
  refine vi_dup C dX8_init_386 rfl ?_
  refine vi_iconst (v := 1) C dX8_init_387 (by decide) ?_
  refine vi_iconst (v := 5) C dX8_init_388 (by decide) ?_
  refine vi_iastT (L := vtb10) (w2 := [(h0, .inr (6, [.int 0, .int 0, .int 0, .int 0, .int 0, .int 0, .int (-1 : Int32), .int 0, .ref (a0), .ref (a1), .ref (a2), .ref (a3), .ref (a4), .ref (a5), .ref (a6), .ref (a7), .ref (a8), .null, .int 0, .int 0, .int 0, .int 0, .int 0, .int 0])), (a0, .inl (cI, 66, .inl (fun _ => 0))), (a1, .inl (cI, 66, .inl (fun _ => 0))), (a2, .inl (cI, 66, .inl (fun _ => 0))), (a3, .inl (cI, 66, .inl (fun _ => 0))), (a4, .inl (cI, 528, .inl (fun _ => 0))), (a5, .inl (cI, 60, .inl (fun _ => 0))), (a6, .inl (cI, 140, .inl (fun _ => 0))), (a7, .inl (cI, 9, .inl (fun _ => 0))), (a8, .inl (cI, 50, .inl (vTab vtb9 50))), (a9, .inl (cI, 10, .inl (vTab vtb10 2)))]) C 10 0 1 (by decide) (by decide) (by decide) rfl rfl rfl rfl dX8_init_389 ?_
  refine vi_dup C dX8_init_390 rfl ?_
  refine vi_iconst (v := 2) C dX8_init_391 (by decide) ?_
  refine vi_bipush (v := 11) C dX8_init_392 (by decide) ?_
  refine vi_iastT (L := vtb10) (w2 := [(h0, .inr (6, [.int 0, .int 0, .int 0, .int 0, .int 0, .int 0, .int (-1 : Int32), .int 0, .ref (a0), .ref (a1), .ref (a2), .ref (a3), .ref (a4), .ref (a5), .ref (a6), .ref (a7), .ref (a8), .null, .int 0, .int 0, .int 0, .int 0, .int 0, .int 0])), (a0, .inl (cI, 66, .inl (fun _ => 0))), (a1, .inl (cI, 66, .inl (fun _ => 0))), (a2, .inl (cI, 66, .inl (fun _ => 0))), (a3, .inl (cI, 66, .inl (fun _ => 0))), (a4, .inl (cI, 528, .inl (fun _ => 0))), (a5, .inl (cI, 60, .inl (fun _ => 0))), (a6, .inl (cI, 140, .inl (fun _ => 0))), (a7, .inl (cI, 9, .inl (fun _ => 0))), (a8, .inl (cI, 50, .inl (vTab vtb9 50))), (a9, .inl (cI, 10, .inl (vTab vtb10 3)))]) C 10 0 2 (by decide) (by decide) (by decide) rfl rfl rfl rfl dX8_init_394 ?_
  refine vi_dup C dX8_init_395 rfl ?_
  refine vi_iconst (v := 3) C dX8_init_396 (by decide) ?_
  refine vi_bipush (v := 17) C dX8_init_397 (by decide) ?_
  refine vi_iastT (L := vtb10) (w2 := [(h0, .inr (6, [.int 0, .int 0, .int 0, .int 0, .int 0, .int 0, .int (-1 : Int32), .int 0, .ref (a0), .ref (a1), .ref (a2), .ref (a3), .ref (a4), .ref (a5), .ref (a6), .ref (a7), .ref (a8), .null, .int 0, .int 0, .int 0, .int 0, .int 0, .int 0])), (a0, .inl (cI, 66, .inl (fun _ => 0))), (a1, .inl (cI, 66, .inl (fun _ => 0))), (a2, .inl (cI, 66, .inl (fun _ => 0))), (a3, .inl (cI, 66, .inl (fun _ => 0))), (a4, .inl (cI, 528, .inl (fun _ => 0))), (a5, .inl (cI, 60, .inl (fun _ => 0))), (a6, .inl (cI, 140, .inl (fun _ => 0))), (a7, .inl (cI, 9, .inl (fun _ => 0))), (a8, .inl (cI, 50, .inl (vTab vtb9 50))), (a9, .inl (cI, 10, .inl (vTab vtb10 4)))]) C 10 0 3 (by decide) (by decide) (by decide) rfl rfl rfl rfl dX8_init_399 ?_
  refine vi_dup C dX8_init_400 rfl ?_
  refine vi_iconst (v := 4) C dX8_init_401 (by decide) ?_
  refine vi_bipush (v := 22) C dX8_init_402 (by decide) ?_
  refine vi_iastT (L := vtb10) (w2 := [(h0, .inr (6, [.int 0, .int 0, .int 0, .int 0, .int 0, .int 0, .int (-1 : Int32), .int 0, .ref (a0), .ref (a1), .ref (a2), .ref (a3), .ref (a4), .ref (a5), .ref (a6), .ref (a7), .ref (a8), .null, .int 0, .int 0, .int 0, .int 0, .int 0, .int 0])), (a0, .inl (cI, 66, .inl (fun _ => 0))), (a1, .inl (cI, 66, .inl (fun _ => 0))), (a2, .inl (cI, 66, .inl (fun _ => 0))), (a3, .inl (cI, 66, .inl (fun _ => 0))), (a4, .inl (cI, 528, .inl (fun _ => 0))), (a5, .inl (cI, 60, .inl (fun _ => 0))), (a6, .inl (cI, 140, .inl (fun _ => 0))), (a7, .inl (cI, 9, .inl (fun _ => 0))), (a8, .inl (cI, 50, .inl (vTab vtb9 50))), (a9, .inl (cI, 10, .inl (vTab vtb10 5)))]) C 10 0 4 (by decide) (by decide) (by decide) rfl rfl rfl rfl dX8_init_404 ?_
  refine vi_dup C dX8_init_405 rfl ?_
  refine vi_iconst (v := 5) C dX8_init_406 (by decide) ?_
  refine vi_bipush (v := 26) C dX8_init_407 (by decide) ?_
  refine vi_iastT (L := vtb10) (w2 := [(h0, .inr (6, [.int 0, .int 0, .int 0, .int 0, .int 0, .int 0, .int (-1 : Int32), .int 0, .ref (a0), .ref (a1), .ref (a2), .ref (a3), .ref (a4), .ref (a5), .ref (a6), .ref (a7), .ref (a8), .null, .int 0, .int 0, .int 0, .int 0, .int 0, .int 0])), (a0, .inl (cI, 66, .inl (fun _ => 0))), (a1, .inl (cI, 66, .inl (fun _ => 0))), (a2, .inl (cI, 66, .inl (fun _ => 0))), (a3, .inl (cI, 66, .inl (fun _ => 0))), (a4, .inl (cI, 528, .inl (fun _ => 0))), (a5, .inl (cI, 60, .inl (fun _ => 0))), (a6, .inl (cI, 140, .inl (fun _ => 0))), (a7, .inl (cI, 9, .inl (fun _ => 0))), (a8, .inl (cI, 50, .inl (vTab vtb9 50))), (a9, .inl (cI, 10, .inl (vTab vtb10 6)))]) C 10 0 5 (by decide) (by decide) (by decide) rfl rfl rfl rfl dX8_init_409 ?_
  refine vi_dup C dX8_init_410 rfl ?_
  refine vi_bipush (v := 6) C dX8_init_411 (by decide) ?_
  refine vi_bipush (v := 32) C dX8_init_413 (by decide) ?_
  refine vi_iastT (L := vtb10) (w2 := [(h0, .inr (6, [.int 0, .int 0, .int 0, .int 0, .int 0, .int 0, .int (-1 : Int32), .int 0, .ref (a0), .ref (a1), .ref (a2), .ref (a3), .ref (a4), .ref (a5), .ref (a6), .ref (a7), .ref (a8), .null, .int 0, .int 0, .int 0, .int 0, .int 0, .int 0])), (a0, .inl (cI, 66, .inl (fun _ => 0))), (a1, .inl (cI, 66, .inl (fun _ => 0))), (a2, .inl (cI, 66, .inl (fun _ => 0))), (a3, .inl (cI, 66, .inl (fun _ => 0))), (a4, .inl (cI, 528, .inl (fun _ => 0))), (a5, .inl (cI, 60, .inl (fun _ => 0))), (a6, .inl (cI, 140, .inl (fun _ => 0))), (a7, .inl (cI, 9, .inl (fun _ => 0))), (a8, .inl (cI, 50, .inl (vTab vtb9 50))), (a9, .inl (cI, 10, .inl (vTab vtb10 7)))]) C 10 0 6 (by decide) (by decide) (by decide) rfl rfl rfl rfl dX8_init_415 ?_
  refine vi_dup C dX8_init_416 rfl ?_
  refine vi_bipush (v := 7) C dX8_init_417 (by decide) ?_
  refine vi_bipush (v := 40) C dX8_init_419 (by decide) ?_
  refine vi_iastT (L := vtb10) (w2 := [(h0, .inr (6, [.int 0, .int 0, .int 0, .int 0, .int 0, .int 0, .int (-1 : Int32), .int 0, .ref (a0), .ref (a1), .ref (a2), .ref (a3), .ref (a4), .ref (a5), .ref (a6), .ref (a7), .ref (a8), .null, .int 0, .int 0, .int 0, .int 0, .int 0, .int 0])), (a0, .inl (cI, 66, .inl (fun _ => 0))), (a1, .inl (cI, 66, .inl (fun _ => 0))), (a2, .inl (cI, 66, .inl (fun _ => 0))), (a3, .inl (cI, 66, .inl (fun _ => 0))), (a4, .inl (cI, 528, .inl (fun _ => 0))), (a5, .inl (cI, 60, .inl (fun _ => 0))), (a6, .inl (cI, 140, .inl (fun _ => 0))), (a7, .inl (cI, 9, .inl (fun _ => 0))), (a8, .inl (cI, 50, .inl (vTab vtb9 50))), (a9, .inl (cI, 10, .inl (vTab vtb10 8)))]) C 10 0 7 (by decide) (by decide) (by decide) rfl rfl rfl rfl dX8_init_421 ?_
  refine vi_dup C dX8_init_422 rfl ?_
  refine vi_bipush (v := 8) C dX8_init_423 (by decide) ?_
  refine vi_bipush (v := 46) C dX8_init_425 (by decide) ?_
  refine vi_iastT (L := vtb10) (w2 := [(h0, .inr (6, [.int 0, .int 0, .int 0, .int 0, .int 0, .int 0, .int (-1 : Int32), .int 0, .ref (a0), .ref (a1), .ref (a2), .ref (a3), .ref (a4), .ref (a5), .ref (a6), .ref (a7), .ref (a8), .null, .int 0, .int 0, .int 0, .int 0, .int 0, .int 0])), (a0, .inl (cI, 66, .inl (fun _ => 0))), (a1, .inl (cI, 66, .inl (fun _ => 0))), (a2, .inl (cI, 66, .inl (fun _ => 0))), (a3, .inl (cI, 66, .inl (fun _ => 0))), (a4, .inl (cI, 528, .inl (fun _ => 0))), (a5, .inl (cI, 60, .inl (fun _ => 0))), (a6, .inl (cI, 140, .inl (fun _ => 0))), (a7, .inl (cI, 9, .inl (fun _ => 0))), (a8, .inl (cI, 50, .inl (vTab vtb9 50))), (a9, .inl (cI, 10, .inl (vTab vtb10 9)))]) C 10 0 8 (by decide) (by decide) (by decide) rfl rfl rfl rfl dX8_init_427 ?_
  refine vi_dup C dX8_init_428 rfl ?_
  refine vi_bipush (v := 9) C dX8_init_429 (by decide) ?_
  refine vi_bipush (v := 50) C dX8_init_431 (by decide) ?_
  refine vi_iastT (L := vtb10) (w2 := [(h0, .inr (6, [.int 0, .int 0, .int 0, .int 0, .int 0, .int 0, .int (-1 : Int32), .int 0, .ref (a0), .ref (a1), .ref (a2), .ref (a3), .ref (a4), .ref (a5), .ref (a6), .ref (a7), .ref (a8), .null, .int 0, .int 0, .int 0, .int 0, .int 0, .int 0])), (a0, .inl (cI, 66, .inl (fun _ => 0))), (a1, .inl (cI, 66, .inl (fun _ => 0))), (a2, .inl (cI, 66, .inl (fun _ => 0))), (a3, .inl (cI, 66, .inl (fun _ => 0))), (a4, .inl (cI, 528, .inl (fun _ => 0))), (a5, .inl (cI, 60, .inl (fun _ => 0))), (a6, .inl (cI, 140, .inl (fun _ => 0))), (a7, .inl (cI, 9, .inl (fun _ => 0))), (a8, .inl (cI, 50, .inl (vTab vtb9 50))), (a9, .inl (cI, 10, .inl (vTab vtb10 10)))]) C 10 0 9 (by decide) (by decide) (by decide) rfl rfl rfl rfl dX8_init_433 ?_
  refine vi_putF (ref := "MoodSextantModel") (ty := tyX8 17) (w2 := [(h0, .inr (6, [.int 0, .int 0, .int 0, .int 0, .int 0, .int 0, .int (-1 : Int32), .int 0, .ref (a0), .ref (a1), .ref (a2), .ref (a3), .ref (a4), .ref (a5), .ref (a6), .ref (a7), .ref (a8), .ref (a9), .int 0, .int 0, .int 0, .int 0, .int 0, .int 0])), (a0, .inl (cI, 66, .inl (fun _ => 0))), (a1, .inl (cI, 66, .inl (fun _ => 0))), (a2, .inl (cI, 66, .inl (fun _ => 0))), (a3, .inl (cI, 66, .inl (fun _ => 0))), (a4, .inl (cI, 528, .inl (fun _ => 0))), (a5, .inl (cI, 60, .inl (fun _ => 0))), (a6, .inl (cI, 140, .inl (fun _ => 0))), (a7, .inl (cI, 9, .inl (fun _ => 0))), (a8, .inl (cI, 50, .inl (vTab vtb9 50))), (a9, .inl (cI, 10, .inl (vTab vtb10 10)))]) C 0 17 inR tyX8 tyX8_ok nmX8 rfl rfl (by decide) tfX8_41 rfl rfl hin rfl (tyX8_ok 17 (by decide)) rfl rfl (by show 17 < 24; decide) rfl dX8_init_434 ?_
  refine vi_iconst (v := 0) C dX8_init_437 (by decide) ?_
  refine vi_istore_n (lv' := [(1, .int (0 : Int32)), (0, .ref (h0))]) C dX8_init_438 rfl (by decide) rfl ?_
  refine vi_iload_n C 0 dX8_init_439 rfl ?_
  refine vi_iconst (v := 4) C dX8_init_440 (by decide) ?_
  refine vi_icmp_ge (tgt := 460) C dX8_init_441 (by decide) (fun hc => absurd hc (by decide)) (fun _ => ?_)
  refine vi_aload_n C 1 dX8_init_444 rfl ?_
  refine vi_get (ref := "MoodSextantModel") (v := .ref (a0)) C 0 8 inR rfl rfl (by decide) tfX8_13 rfl rfl dX8_init_445 ?_
  refine vi_bipush (v := 8) C dX8_init_448 (by decide) ?_
  refine vi_iload_n C 0 dX8_init_450 rfl ?_
  refine vi_iadd C dX8_init_451 ?_
  refine vi_nmi (x := (8 : Int32)) (by decide) ?_
  refine vi_iconst (v := 4) C dX8_init_452 (by decide) ?_
  refine vi_w C (w' := [(h0, .inr (6, [.int 0, .int 0, .int 0, .int 0, .int 0, .int 0, .int (-1 : Int32), .int 0, .ref (a0), .ref (a1), .ref (a2), .ref (a3), .ref (a4), .ref (a5), .ref (a6), .ref (a7), .ref (a8), .ref (a9), .int 0, .int 0, .int 0, .int 0, .int 0, .int 0])), (a0, .inl (cI, 66, .inl (vTab vtb1 8))), (a1, .inl (cI, 66, .inl (fun _ => 0))), (a2, .inl (cI, 66, .inl (fun _ => 0))), (a3, .inl (cI, 66, .inl (fun _ => 0))), (a4, .inl (cI, 528, .inl (fun _ => 0))), (a5, .inl (cI, 60, .inl (fun _ => 0))), (a6, .inl (cI, 140, .inl (fun _ => 0))), (a7, .inl (cI, 9, .inl (fun _ => 0))), (a8, .inl (cI, 50, .inl (vTab vtb9 50))), (a9, .inl (cI, 10, .inl (vTab vtb10 10)))]) (by rw [vTabz vtb1 8 (by decide)]) ?_
  refine vi_iastT (L := vtb1) (w2 := [(h0, .inr (6, [.int 0, .int 0, .int 0, .int 0, .int 0, .int 0, .int (-1 : Int32), .int 0, .ref (a0), .ref (a1), .ref (a2), .ref (a3), .ref (a4), .ref (a5), .ref (a6), .ref (a7), .ref (a8), .ref (a9), .int 0, .int 0, .int 0, .int 0, .int 0, .int 0])), (a0, .inl (cI, 66, .inl (vTab vtb1 9))), (a1, .inl (cI, 66, .inl (fun _ => 0))), (a2, .inl (cI, 66, .inl (fun _ => 0))), (a3, .inl (cI, 66, .inl (fun _ => 0))), (a4, .inl (cI, 528, .inl (fun _ => 0))), (a5, .inl (cI, 60, .inl (fun _ => 0))), (a6, .inl (cI, 140, .inl (fun _ => 0))), (a7, .inl (cI, 9, .inl (fun _ => 0))), (a8, .inl (cI, 50, .inl (vTab vtb9 50))), (a9, .inl (cI, 10, .inl (vTab vtb10 10)))]) C 1 0 8 (by decide) (by decide) (by decide) rfl rfl rfl rfl dX8_init_453 ?_
  refine vi_iinc (v := (1 : Int32)) (lv' := [(1, .int (1 : Int32)), (0, .ref (h0))]) C 0 dX8_init_454 rfl (by decide) (by decide) rfl ?_
  refine vi_goto (tgt := 439) C dX8_init_457 (by decide) ?_
  refine vi_iload_n C 0 dX8_init_439 rfl ?_
  refine vi_iconst (v := 4) C dX8_init_440 (by decide) ?_
  refine vi_icmp_ge (tgt := 460) C dX8_init_441 (by decide) (fun hc => absurd hc (by decide)) (fun _ => ?_)
  refine vi_aload_n C 1 dX8_init_444 rfl ?_
  refine vi_get (ref := "MoodSextantModel") (v := .ref (a0)) C 0 8 inR rfl rfl (by decide) tfX8_13 rfl rfl dX8_init_445 ?_
  refine vi_bipush (v := 8) C dX8_init_448 (by decide) ?_
  refine vi_iload_n C 0 dX8_init_450 rfl ?_
  refine vi_iadd C dX8_init_451 ?_
  refine vi_nmi (x := (9 : Int32)) (by decide) ?_
  refine vi_iconst (v := 4) C dX8_init_452 (by decide) ?_
  refine vi_iastT (L := vtb1) (w2 := [(h0, .inr (6, [.int 0, .int 0, .int 0, .int 0, .int 0, .int 0, .int (-1 : Int32), .int 0, .ref (a0), .ref (a1), .ref (a2), .ref (a3), .ref (a4), .ref (a5), .ref (a6), .ref (a7), .ref (a8), .ref (a9), .int 0, .int 0, .int 0, .int 0, .int 0, .int 0])), (a0, .inl (cI, 66, .inl (vTab vtb1 10))), (a1, .inl (cI, 66, .inl (fun _ => 0))), (a2, .inl (cI, 66, .inl (fun _ => 0))), (a3, .inl (cI, 66, .inl (fun _ => 0))), (a4, .inl (cI, 528, .inl (fun _ => 0))), (a5, .inl (cI, 60, .inl (fun _ => 0))), (a6, .inl (cI, 140, .inl (fun _ => 0))), (a7, .inl (cI, 9, .inl (fun _ => 0))), (a8, .inl (cI, 50, .inl (vTab vtb9 50))), (a9, .inl (cI, 10, .inl (vTab vtb10 10)))]) C 1 0 9 (by decide) (by decide) (by decide) rfl rfl rfl rfl dX8_init_453 ?_
  refine vi_iinc (v := (2 : Int32)) (lv' := [(1, .int (2 : Int32)), (0, .ref (h0))]) C 0 dX8_init_454 rfl (by decide) (by decide) rfl ?_
  refine vi_goto (tgt := 439) C dX8_init_457 (by decide) ?_
  refine vi_iload_n C 0 dX8_init_439 rfl ?_
  refine vi_iconst (v := 4) C dX8_init_440 (by decide) ?_
  refine vi_icmp_ge (tgt := 460) C dX8_init_441 (by decide) (fun hc => absurd hc (by decide)) (fun _ => ?_)
  refine vi_aload_n C 1 dX8_init_444 rfl ?_
  refine vi_get (ref := "MoodSextantModel") (v := .ref (a0)) C 0 8 inR rfl rfl (by decide) tfX8_13 rfl rfl dX8_init_445 ?_
  refine vi_bipush (v := 8) C dX8_init_448 (by decide) ?_
  refine vi_iload_n C 0 dX8_init_450 rfl ?_
  refine vi_iadd C dX8_init_451 ?_
  refine vi_nmi (x := (10 : Int32)) (by decide) ?_
  refine vi_iconst (v := 4) C dX8_init_452 (by decide) ?_
  refine vi_iastT (L := vtb1) (w2 := [(h0, .inr (6, [.int 0, .int 0, .int 0, .int 0, .int 0, .int 0, .int (-1 : Int32), .int 0, .ref (a0), .ref (a1), .ref (a2), .ref (a3), .ref (a4), .ref (a5), .ref (a6), .ref (a7), .ref (a8), .ref (a9), .int 0, .int 0, .int 0, .int 0, .int 0, .int 0])), (a0, .inl (cI, 66, .inl (vTab vtb1 11))), (a1, .inl (cI, 66, .inl (fun _ => 0))), (a2, .inl (cI, 66, .inl (fun _ => 0))), (a3, .inl (cI, 66, .inl (fun _ => 0))), (a4, .inl (cI, 528, .inl (fun _ => 0))), (a5, .inl (cI, 60, .inl (fun _ => 0))), (a6, .inl (cI, 140, .inl (fun _ => 0))), (a7, .inl (cI, 9, .inl (fun _ => 0))), (a8, .inl (cI, 50, .inl (vTab vtb9 50))), (a9, .inl (cI, 10, .inl (vTab vtb10 10)))]) C 1 0 10 (by decide) (by decide) (by decide) rfl rfl rfl rfl dX8_init_453 ?_
  refine vi_iinc (v := (3 : Int32)) (lv' := [(1, .int (3 : Int32)), (0, .ref (h0))]) C 0 dX8_init_454 rfl (by decide) (by decide) rfl ?_
  refine vi_goto (tgt := 439) C dX8_init_457 (by decide) ?_
  refine vi_iload_n C 0 dX8_init_439 rfl ?_
  refine vi_iconst (v := 4) C dX8_init_440 (by decide) ?_
  refine vi_icmp_ge (tgt := 460) C dX8_init_441 (by decide) (fun hc => absurd hc (by decide)) (fun _ => ?_)
  refine vi_aload_n C 1 dX8_init_444 rfl ?_
  refine vi_get (ref := "MoodSextantModel") (v := .ref (a0)) C 0 8 inR rfl rfl (by decide) tfX8_13 rfl rfl dX8_init_445 ?_
  refine vi_bipush (v := 8) C dX8_init_448 (by decide) ?_
  refine vi_iload_n C 0 dX8_init_450 rfl ?_
  refine vi_iadd C dX8_init_451 ?_
  refine vi_nmi (x := (11 : Int32)) (by decide) ?_
  refine vi_iconst (v := 4) C dX8_init_452 (by decide) ?_
  refine vi_iastT (L := vtb1) (w2 := [(h0, .inr (6, [.int 0, .int 0, .int 0, .int 0, .int 0, .int 0, .int (-1 : Int32), .int 0, .ref (a0), .ref (a1), .ref (a2), .ref (a3), .ref (a4), .ref (a5), .ref (a6), .ref (a7), .ref (a8), .ref (a9), .int 0, .int 0, .int 0, .int 0, .int 0, .int 0])), (a0, .inl (cI, 66, .inl (vTab vtb1 12))), (a1, .inl (cI, 66, .inl (fun _ => 0))), (a2, .inl (cI, 66, .inl (fun _ => 0))), (a3, .inl (cI, 66, .inl (fun _ => 0))), (a4, .inl (cI, 528, .inl (fun _ => 0))), (a5, .inl (cI, 60, .inl (fun _ => 0))), (a6, .inl (cI, 140, .inl (fun _ => 0))), (a7, .inl (cI, 9, .inl (fun _ => 0))), (a8, .inl (cI, 50, .inl (vTab vtb9 50))), (a9, .inl (cI, 10, .inl (vTab vtb10 10)))]) C 1 0 11 (by decide) (by decide) (by decide) rfl rfl rfl rfl dX8_init_453 ?_
  refine vi_iinc (v := (4 : Int32)) (lv' := [(1, .int (4 : Int32)), (0, .ref (h0))]) C 0 dX8_init_454 rfl (by decide) (by decide) rfl ?_
  refine vi_goto (tgt := 439) C dX8_init_457 (by decide) ?_
  refine vi_iload_n C 0 dX8_init_439 rfl ?_
  refine vi_iconst (v := 4) C dX8_init_440 (by decide) ?_
  refine vi_icmp_ge (tgt := 460) C dX8_init_441 (by decide) (fun _ => ?_) (fun hc => absurd (by decide) hc)
  exact vi_retn C hr (fun _ j => [h0, a0, a1, a2, a3, a4, a5, a6, a7, a8, a9].getD j 0) rfl rfl rfl rfl dX8_init_460
