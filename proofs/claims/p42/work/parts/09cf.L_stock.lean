def hf_L_stock (u : vZ) : Option (Int32 × vZ) := obp (fX7_sail (255 : Int32) u) fun y2 u1 => obp (fX7_sail (511 : Int32) u1) fun y4 u3 => obp (fX7_sail (65280 : Int32) u3) fun y6 u5 => obp (fX7_rum (0 : Int32) (5 : Int32) u5) fun y8 u7 => obp (fX7_watch (1 : Int32) (3 : Int32) u7) fun y10 u9 => obp (fX7_horizon (3 : Int32) (7 : Int32) u9) fun y12 u11 => bd ((((((y2 + y4) + y6) + y8) + y10) + y12 : Int32)) fun y13 => obp (fX7_sight (0 : Int32) u11) fun y15 u14 => obp (fX7_sight (1 : Int32) u14) fun y17 u16 => obp (fX7_hour u16) fun y19 u18 => obp (fX7_sight (0 : Int32) u18) fun y21 u20 => obp (fX7_sight (1 : Int32) u20) fun y23 u22 => obp (fX7_error (2 : Int32) u22) fun y25 u24 => obp (fX7_sight (2 : Int32) u24) fun y27 u26 => some (((((((y13 + y15) + y17) + y19) + y21) + y23) + y25) + y27, u26)
set_option maxRecDepth 100000 in
set_option maxHeartbeats 4000000 in
theorem hk_L_stock_e {ad adK adV : Nat → Nat} {tS tF : Nat} {tX sK sV : Nat → Nat} {p : Program} {l : Launch} {e : Env} {s : State} {m : MethodId} {args : Array Value} {below : List Frame} {meth : Method} {c : Code} {A : Nat → Prop} {D : va_G} {cI cF cC cS cO cB cZ : ClassId} {Q : State → Prop} {q0 qs qo qt qv qr qx ql : Nat → Nat} {qh : Nat → Nat → Nat} (C : vC (vE ad adK adV tS tF tX sK sV) p l s m args meth c A D (vT7 cI cF cC cS cO cB cZ) cL_stock 2 RL) {r0 : Int32} {u0 : vZ} (RET : ∀ (q : Nat → Nat) (kc ks : Nat) (pc : Nat) (lv : List (Nat × Value)), True → decode cL_stock pc = .ok (.ireturn, 1) → vV p l e { frames := 8, cells := 0, slots := 0, locals := 183 } s m args below meth c A D 2 0 0 Q ([] ++ wX q0 qs qo qt qv qr qx ql ad qh cI cF cC cS cO u0) pc lv [.int r0]) {u : vZ} (h : hf_L_stock u = some (r0, u0)) : vV p l e { frames := 8, cells := 0, slots := 0, locals := 183 } s m args below meth c A D 2 0 0 Q ([] ++ wX q0 qs qo qt qv qr qx ql ad qh cI cF cC cS cO u) 0 [(0, .ref (q0 0))] [] := by
  rw [hf_L_stock] at h
  refine vi_aload_n C 0 dL_stock_0 rfl ?_
  refine vi_sipush (v := 255) C dL_stock_1 (by decide) ?_
  obtain ⟨y2, u1, hgu1, h⟩ := ob_p h
  refine cY_i (As := [.int (255 : Int32)]) (rest := []) (ud := u1) C 0 (mX7_sail C.2.2.2.2.2.2.2.2.1 hgu1) 1 rfl tcX7_sail tlL_50 tiX7_sail tsX7_sail rfl tnX7 tdX7_sail ⟨Nat.le_of_ble_eq_true rfl, Nat.le_of_ble_eq_true rfl⟩ ⟨Nat.le_refl 0, Nat.le_refl 0⟩ rfl rfl (Nat.le_of_ble_eq_true rfl) dL_stock_4 ?_
  refine vi_aload_n C 0 dL_stock_7 rfl ?_
  refine vi_sipush (v := 511) C dL_stock_8 (by decide) ?_
  obtain ⟨y4, u3, hgu3, h⟩ := ob_p h
  refine cY_i (As := [.int (511 : Int32)]) (rest := [.int y2]) (ud := u3) C 0 (mX7_sail C.2.2.2.2.2.2.2.2.1 hgu3) 1 rfl tcX7_sail tlL_50 tiX7_sail tsX7_sail rfl tnX7 tdX7_sail ⟨Nat.le_of_ble_eq_true rfl, Nat.le_of_ble_eq_true rfl⟩ ⟨Nat.le_refl 0, Nat.le_refl 0⟩ rfl rfl (Nat.le_of_ble_eq_true rfl) dL_stock_11 ?_
  refine vi_iadd C dL_stock_14 ?_
  refine vi_aload_n C 0 dL_stock_15 rfl ?_
  refine vi_ldc (v := 65280) C dL_stock_16 tkL_109 ?_
  obtain ⟨y6, u5, hgu5, h⟩ := ob_p h
  refine cY_i (As := [.int (65280 : Int32)]) (rest := [.int (y2 + y4)]) (ud := u5) C 0 (mX7_sail C.2.2.2.2.2.2.2.2.1 hgu5) 1 rfl tcX7_sail tlL_50 tiX7_sail tsX7_sail rfl tnX7 tdX7_sail ⟨Nat.le_of_ble_eq_true rfl, Nat.le_of_ble_eq_true rfl⟩ ⟨Nat.le_refl 0, Nat.le_refl 0⟩ rfl rfl (Nat.le_of_ble_eq_true rfl) dL_stock_18 ?_
  refine vi_iadd C dL_stock_21 ?_
  refine vi_aload_n C 0 dL_stock_22 rfl ?_
  refine vi_iconst (v := 0) C dL_stock_23 (by decide) ?_
  refine vi_iconst (v := 5) C dL_stock_24 (by decide) ?_
  obtain ⟨y8, u7, hgu7, h⟩ := ob_p h
  refine cY_i (As := [.int (0 : Int32), .int (5 : Int32)]) (rest := [.int ((y2 + y4) + y6)]) (ud := u7) C 0 (mX7_rum C.2.2.2.2.2.2.2.2.1 hgu7) 2 rfl tcX7_rum tlL_59 tiX7_rum tsX7_rum rfl tnX7 tdX7_rum ⟨Nat.le_of_ble_eq_true rfl, Nat.le_of_ble_eq_true rfl⟩ ⟨Nat.le_refl 0, Nat.le_refl 0⟩ rfl rfl (Nat.le_of_ble_eq_true rfl) dL_stock_25 ?_
  refine vi_iadd C dL_stock_28 ?_
  refine vi_aload_n C 0 dL_stock_29 rfl ?_
  refine vi_iconst (v := 1) C dL_stock_30 (by decide) ?_
  refine vi_iconst (v := 3) C dL_stock_31 (by decide) ?_
  obtain ⟨y10, u9, hgu9, h⟩ := ob_p h
  refine cY_i (As := [.int (1 : Int32), .int (3 : Int32)]) (rest := [.int (((y2 + y4) + y6) + y8)]) (ud := u9) C 0 (mX7_watch C.2.2.2.2.2.2.2.2.1 hgu9) 2 rfl tcX7_watch tlL_62 tiX7_watch tsX7_watch rfl tnX7 tdX7_watch ⟨Nat.le_of_ble_eq_true rfl, Nat.le_of_ble_eq_true rfl⟩ ⟨Nat.le_refl 0, Nat.le_refl 0⟩ rfl rfl (Nat.le_of_ble_eq_true rfl) dL_stock_32 ?_
  refine vi_iadd C dL_stock_35 ?_
  refine vi_aload_n C 0 dL_stock_36 rfl ?_
  refine vi_iconst (v := 3) C dL_stock_37 (by decide) ?_
  refine vi_bipush (v := 7) C dL_stock_38 (by decide) ?_
  obtain ⟨y12, u11, hgu11, h⟩ := ob_p h
  refine cY_i (As := [.int (3 : Int32), .int (7 : Int32)]) (rest := [.int ((((y2 + y4) + y6) + y8) + y10)]) (ud := u11) C 0 (mX7_horizon C.2.2.2.2.2.2.2.2.1 hgu11) 2 rfl tcX7_horizon tlL_65 tiX7_horizon tsX7_horizon rfl tnX7 tdX7_horizon ⟨Nat.le_of_ble_eq_true rfl, Nat.le_of_ble_eq_true rfl⟩ ⟨Nat.le_refl 0, Nat.le_refl 0⟩ rfl rfl (Nat.le_of_ble_eq_true rfl) dL_stock_40 ?_
  refine vi_iadd C dL_stock_43 ?_
  obtain ⟨y13, ey13, h⟩ := ob_nm h
  refine vi_nmi ey13 ?_
  refine vi_istore_n (lv' := [(1, .int y13), (0, .ref (q0 0))]) C dL_stock_44 rfl (by decide) rfl ?_
  refine vi_iload_n C 0 dL_stock_45 rfl ?_
  refine vi_aload_n C 1 dL_stock_46 rfl ?_
  refine vi_iconst (v := 0) C dL_stock_47 (by decide) ?_
  obtain ⟨y15, u14, hgu14, h⟩ := ob_p h
  refine cY_i (As := [.int (0 : Int32)]) (rest := [.int y13]) (ud := u14) C 0 (mX7_sight C.2.2.2.2.2.2.2.2.1 hgu14) 1 rfl tcX7_sight tlL_71 tiX7_sight tsX7_sight rfl tnX7 tdX7_sight ⟨Nat.le_of_ble_eq_true rfl, Nat.le_of_ble_eq_true rfl⟩ ⟨Nat.le_refl 0, Nat.le_refl 0⟩ rfl rfl (Nat.le_of_ble_eq_true rfl) dL_stock_48 ?_
  refine vi_iadd C dL_stock_51 ?_
  refine vi_aload_n C 1 dL_stock_52 rfl ?_
  refine vi_iconst (v := 1) C dL_stock_53 (by decide) ?_
  obtain ⟨y17, u16, hgu16, h⟩ := ob_p h
  refine cY_i (As := [.int (1 : Int32)]) (rest := [.int (y13 + y15)]) (ud := u16) C 0 (mX7_sight C.2.2.2.2.2.2.2.2.1 hgu16) 1 rfl tcX7_sight tlL_71 tiX7_sight tsX7_sight rfl tnX7 tdX7_sight ⟨Nat.le_of_ble_eq_true rfl, Nat.le_of_ble_eq_true rfl⟩ ⟨Nat.le_refl 0, Nat.le_refl 0⟩ rfl rfl (Nat.le_of_ble_eq_true rfl) dL_stock_54 ?_
  refine vi_iadd C dL_stock_57 ?_
  refine vi_aload_n C 1 dL_stock_58 rfl ?_
  obtain ⟨y19, u18, hgu18, h⟩ := ob_p h
  refine cY_i (As := []) (rest := [.int ((y13 + y15) + y17)]) (ud := u18) C 0 (mX7_hour C.2.2.2.2.2.2.2.2.1 hgu18) 0 rfl tcX7_hour tlL_74 tiX7_hour tsX7_hour rfl tnX7 tdX7_hour ⟨Nat.le_of_ble_eq_true rfl, Nat.le_of_ble_eq_true rfl⟩ ⟨Nat.le_refl 0, Nat.le_refl 0⟩ rfl rfl (Nat.le_of_ble_eq_true rfl) dL_stock_59 ?_
  refine vi_iadd C dL_stock_62 ?_
  refine vi_aload_n C 1 dL_stock_63 rfl ?_
  refine vi_iconst (v := 0) C dL_stock_64 (by decide) ?_
  obtain ⟨y21, u20, hgu20, h⟩ := ob_p h
  refine cY_i (As := [.int (0 : Int32)]) (rest := [.int (((y13 + y15) + y17) + y19)]) (ud := u20) C 0 (mX7_sight C.2.2.2.2.2.2.2.2.1 hgu20) 1 rfl tcX7_sight tlL_71 tiX7_sight tsX7_sight rfl tnX7 tdX7_sight ⟨Nat.le_of_ble_eq_true rfl, Nat.le_of_ble_eq_true rfl⟩ ⟨Nat.le_refl 0, Nat.le_refl 0⟩ rfl rfl (Nat.le_of_ble_eq_true rfl) dL_stock_65 ?_
  refine vi_iadd C dL_stock_68 ?_
  refine vi_aload_n C 1 dL_stock_69 rfl ?_
  refine vi_iconst (v := 1) C dL_stock_70 (by decide) ?_
  obtain ⟨y23, u22, hgu22, h⟩ := ob_p h
  refine cY_i (As := [.int (1 : Int32)]) (rest := [.int ((((y13 + y15) + y17) + y19) + y21)]) (ud := u22) C 0 (mX7_sight C.2.2.2.2.2.2.2.2.1 hgu22) 1 rfl tcX7_sight tlL_71 tiX7_sight tsX7_sight rfl tnX7 tdX7_sight ⟨Nat.le_of_ble_eq_true rfl, Nat.le_of_ble_eq_true rfl⟩ ⟨Nat.le_refl 0, Nat.le_refl 0⟩ rfl rfl (Nat.le_of_ble_eq_true rfl) dL_stock_71 ?_
  refine vi_iadd C dL_stock_74 ?_
  refine vi_aload_n C 1 dL_stock_75 rfl ?_
  refine vi_iconst (v := 2) C dL_stock_76 (by decide) ?_
  obtain ⟨y25, u24, hgu24, h⟩ := ob_p h
  refine cY_i (As := [.int (2 : Int32)]) (rest := [.int (((((y13 + y15) + y17) + y19) + y21) + y23)]) (ud := u24) C 0 (mX7_error C.2.2.2.2.2.2.2.2.1 hgu24) 1 rfl tcX7_error tlL_68 tiX7_error tsX7_error rfl tnX7 tdX7_error ⟨Nat.le_of_ble_eq_true rfl, Nat.le_of_ble_eq_true rfl⟩ ⟨Nat.le_refl 0, Nat.le_refl 0⟩ rfl rfl (Nat.le_of_ble_eq_true rfl) dL_stock_77 ?_
  refine vi_iadd C dL_stock_80 ?_
  refine vi_aload_n C 1 dL_stock_81 rfl ?_
  refine vi_iconst (v := 2) C dL_stock_82 (by decide) ?_
  obtain ⟨y27, u26, hgu26, h⟩ := ob_p h
  refine cY_i (As := [.int (2 : Int32)]) (rest := [.int ((((((y13 + y15) + y17) + y19) + y21) + y23) + y25)]) (ud := u26) C 0 (mX7_sight C.2.2.2.2.2.2.2.2.1 hgu26) 1 rfl tcX7_sight tlL_71 tiX7_sight tsX7_sight rfl tnX7 tdX7_sight ⟨Nat.le_of_ble_eq_true rfl, Nat.le_of_ble_eq_true rfl⟩ ⟨Nat.le_refl 0, Nat.le_refl 0⟩ rfl rfl (Nat.le_of_ble_eq_true rfl) dL_stock_83 ?_
  refine vi_iadd C dL_stock_86 ?_
  cases h
  exact RET (fun j => [].getD j 0) 0 0 _ _ trivial dL_stock_87
theorem hm_L_stock {ad adK adV : Nat → Nat} {tS tF : Nat} {tX sK sV : Nat → Nat} (hE : vEok (vE ad adK adV tS tF tX sK sV)) {l : Launch} {D : va_G} {cI cF cC cS cO cB cZ : ClassId} {q0 qs qo qt qv qr qx ql : Nat → Nat} {qh : Nat → Nat → Nat} {r0 : Int32} {u0 : vZ} {u : vZ} (h : hf_L_stock u = some (r0, u0)) : vG (vE ad adK adV tS tF tX sK sV) l yL_stock cL_stock 2 (some .int) 8 183 0 0 D (vT7 cI cF cC cS cO cB cZ) [.ref (q0 0)] ([] ++ wX q0 qs qo qt qv qr qx ql ad qh cI cF cC cS cO u) (gQi D (fun q => ([] ++ wX q0 qs qo qt qv qr qx ql ad qh cI cF cC cS cO u0)) r0) :=
  vG_of hE (by decide +kernel) (Nat.le_of_ble_eq_true rfl) (fun p e s m args below meth c A C hr hin => hk_L_stock_e C (fun q kc ks pc lv hk hd => g_reti (WQ := (fun q => ([] ++ wX q0 qs qo qt qv qr qx ql ad qh cI cF cC cS cO u0))) C hr rfl q rfl ⟨Nat.le_refl 0, Nat.le_refl 0⟩ hd) h)
