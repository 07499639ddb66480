-- ---- J7_checkLength_df160
def hf_J7_checkLength_df160 (x0 : Int32) (x1 : Int32) : Option (Unit) := (if x0 ≤ x1 then some () else none)
set_option maxRecDepth 100000 in
set_option maxHeartbeats 4000000 in
theorem hk_J7_checkLength_df160_e {ad adK adV : Nat → Nat} {tS tF : Nat} {tX sK sV : Nat → Nat} {p : Program} {l : Launch} {e : Env} {s : State} {m : MethodId} {args : Array Value} {below : List Frame} {meth : Method} {c : Code} {A : Nat → Prop} {D : va_G} {cI cF cC cS cO cB cZ : ClassId} {Q : State → Prop} (C : vC (vE ad adK adV tS tF tX sK sV) p l s m args meth c A D (vT7 cI cF cC cS cO cB cZ) cJ7_checkLength_df160 2 RJ7) (RET : ∀ (q : Nat → Nat) (kc ks : Nat) (pc : Nat) (lv : List (Nat × Value)), True → decode cJ7_checkLength_df160 pc = .ok (.return_, 1) → vV p l e { frames := 0, cells := 0, slots := 0, locals := 0 } s m args below meth c A D 2 0 0 Q [] pc lv []) {x0 : Int32} {x1 : Int32} (h : hf_J7_checkLength_df160 x0 x1 = some ()) : vV p l e { frames := 0, cells := 0, slots := 0, locals := 0 } s m args below meth c A D 2 0 0 Q [] 0 [(0, .int x0), (1, .int x1)] [] := by
  rw [hf_J7_checkLength_df160] at h
  refine vi_iload_n C 1 dJ7_checkLength_df160_0 rfl ?_
  refine vi_iload_n C 0 dJ7_checkLength_df160_1 rfl ?_
  refine vi_icmp_ge (tgt := 37) C dJ7_checkLength_df160_2 (by decide) (fun hc1 => ?_) (fun hc1 => ?_)
  · have h := ob_t h hc1
    cases h
    exact RET (fun j => [].getD j 0) 0 0 _ _ trivial dJ7_checkLength_df160_37
  · have h := ob_f h hc1
    cases h
theorem hm_J7_checkLength_df160 {ad adK adV : Nat → Nat} {tS tF : Nat} {tX sK sV : Nat → Nat} (hE : vEok (vE ad adK adV tS tF tX sK sV)) {l : Launch} {D : va_G} {cI cF cC cS cO cB cZ : ClassId} {x0 : Int32} {x1 : Int32} (h : hf_J7_checkLength_df160 x0 x1 = some ()) : vG (vE ad adK adV tS tF tX sK sV) l yJ7_checkLength_df160 cJ7_checkLength_df160 2 none 0 0 0 0 D (vT7 cI cF cC cS cO cB cZ) [.int x0, .int x1] [] (gQv D (fun q => [])) :=
  vG_ofF hE (by decide +kernel) (Nat.le_of_ble_eq_true rfl) (fun p e s m args below meth c A C hr hin => hk_J7_checkLength_df160_e C (fun q kc ks pc lv hk hd => g_retv (WQ := (fun q => [])) C hr q rfl ⟨Nat.le_refl 0, Nat.le_refl 0⟩ hd) h)
-- ---- J7_copyOfRangeByte_39247
def hf_J7_copyOfRangeByte_39247 (mc : Nat) (ms : Nat) (n0 : Nat) (g0 : Nat → Int32) (x1 : Int32) (x2 : Int32) : Option (Nat × (Nat → Int32)) := (hf_J7_checkLength_df160 x1 x2).bind fun z1 => bd ((x2 - x1 : Int32)) fun y3 => if y3 < 0 ∨ 100000 < (Int32.toNatClampNeg y3) then none else if 0 + 1 ≤ mc ∧ 0 + (Int32.toNatClampNeg y3) ≤ ms then bd ((Int32.toNatClampNeg y3)) fun n6 => bd (0 + 1) fun kc8 => bd (0 + n6) fun ks9 => (fJ9_min_7cf53 ((Int32.ofNat n0) - x1) y3).bind fun y10 => if (¬ x1 < 0 ∧ ¬ (0 : Int32) < 0 ∧ ¬ y10 < 0) ∧ Int32.toNatClampNeg x1 + Int32.toNatClampNeg y10 ≤ n0 ∧ Int32.toNatClampNeg (0 : Int32) + Int32.toNatClampNeg y10 ≤ n6 ∧ ∀ i : Nat, i < Int32.toNatClampNeg y10 → fits .byte (.int (g0 (Int32.toNatClampNeg x1 + i))) = true then bd ((va_cpy g0 (fun _ => 0) (Int32.toNatClampNeg x1) (Int32.toNatClampNeg (0 : Int32)) (Int32.toNatClampNeg y10) : Nat → Int32)) fun g12 => some (n6, g12) else none else none
set_option maxRecDepth 100000 in
set_option maxHeartbeats 4000000 in
theorem hk_J7_copyOfRangeByte_39247_e {ad adK adV : Nat → Nat} {tS tF : Nat} {tX sK sV : Nat → Nat} {p : Program} {l : Launch} {e : Env} {s : State} {m : MethodId} {args : Array Value} {below : List Frame} {meth : Method} {c : Code} {A : Nat → Prop} {D : va_G} {cI cF cC cS cO cB cZ : ClassId} {Q : State → Prop} {mc : Nat} {ms : Nat} {n0 : Nat} {g0 : Nat → Int32} {a0 : Nat} (C : vC (vE ad adK adV tS tF tX sK sV) p l s m args meth c A D (vT7 cI cF cC cS cO cB cZ) cJ7_copyOfRangeByte_39247 5 RJ7) {r_n1 : Nat} {r_g2 : Nat → Int32} (RET : ∀ (q : Nat → Nat) (kc ks : Nat) (pc : Nat) (lv : List (Nat × Value)), (kc ≤ mc ∧ ks ≤ ms) → decode cJ7_copyOfRangeByte_39247 pc = .ok (.areturn, 1) → vV p l e { frames := 1, cells := mc, slots := ms, locals := 60 } s m args below meth c A D 5 kc ks Q [(a0, .inl (cB, n0, .inl (g0))), ((q 0), .inl (cB, r_n1, .inl (r_g2)))] pc lv [.ref (q 0)]) {x1 : Int32} {x2 : Int32} (h : hf_J7_copyOfRangeByte_39247 mc ms n0 g0 x1 x2 = some (r_n1, r_g2)) : vV p l e { frames := 1, cells := mc, slots := ms, locals := 60 } s m args below meth c A D 5 (0) (0) Q [(a0, .inl (cB, n0, .inl (g0)))] 0 [(0, .ref a0), (1, .int x1), (2, .int x2)] [] := by
  rw [hf_J7_copyOfRangeByte_39247] at h
  refine vi_iload_n C 1 dJ7_copyOfRangeByte_39247_0 rfl ?_
  refine vi_iload_n C 2 dJ7_copyOfRangeByte_39247_1 rfl ?_
  obtain ⟨z1, hgz1, h⟩ := ob_bd h
  refine vi_w C (w' := [(a0, .inl (cB, n0, .inl (g0)))] ++ []) rfl ?_
  refine g_cv C (g_runS (As := [.int x1, .int x2]) (rest := []) (w1 := [(a0, .inl (cB, n0, .inl (g0)))]) (wc := []) C (hm_J7_checkLength_df160  (x0 := x1) (x1 := x2)  C.2.2.2.2.2.2.2.2.1 hgz1) 2 rfl tcJ7_checkLength_df160 tlJ7_343 ttJ7_checkLength_df160 tnJ7 tdJ7_checkLength_df160 ⟨Nat.le_of_ble_eq_true rfl, Nat.le_of_ble_eq_true rfl⟩ ⟨Nat.zero_le _, Nat.zero_le _⟩ rfl (Nat.le_of_ble_eq_true rfl) dJ7_copyOfRangeByte_39247_2 rfl) rfl (fun q2 => ?_)
  refine vi_w C (w' := [(a0, .inl (cB, n0, .inl (g0)))]) rfl ?_
  refine vi_kk (kc1 := (0)) (ks1 := (0)) rfl rfl ?_
  refine vi_iload_n C 2 dJ7_copyOfRangeByte_39247_5 rfl ?_
  refine vi_iload_n C 1 dJ7_copyOfRangeByte_39247_6 rfl ?_
  refine vi_isub C dJ7_copyOfRangeByte_39247_7 ?_
  obtain ⟨y3, ey3, h⟩ := ob_nm h
  refine vi_nmi ey3 ?_
  refine vi_istore_n (lv' := [(3, .int y3), (0, .ref a0), (1, .int x1), (2, .int x2)]) C dJ7_copyOfRangeByte_39247_8 rfl (by decide) rfl ?_
  refine vi_iload_n C 0 dJ7_copyOfRangeByte_39247_9 rfl ?_
  obtain ⟨hz4, h⟩ := ob_if h
  obtain ⟨hz5, h⟩ := ob_ok h
  obtain ⟨n6, en6, h⟩ := ob_nm h
  rw [← en6] at hz5
  refine vi_newa (atype := .byte) (ty := .byte) (cA := cB) (N := n6) (a0 := (n6, .inl (fun _ => 0))) C 5 tac_byte rfl rfl (fun _ => rfl) (fun z => hz4 (Or.inl z)) en6.symm (by rw [en6]; exact (gle8 hz4)) hz5.1 hz5.2 dJ7_copyOfRangeByte_39247_10 (fun a7 => ?_)
  refine vi_w C (w' := [(a0, .inl (cB, n0, .inl (g0))), (a7, .inl (cB, n6, .inl (fun _ => 0)))]) rfl ?_
  obtain ⟨kc8, ekc8, h⟩ := ob_nm h
  obtain ⟨ks9, eks9, h⟩ := ob_nm h
  refine vi_kk ekc8.symm eks9.symm ?_
  rw [← ekc8, ← eks9] at hz5
  refine vi_astore (lv' := [(4, .ref a7), (3, .int y3), (0, .ref a0), (1, .int x1), (2, .int x2)]) C dJ7_copyOfRangeByte_39247_12 (by decide) rfl ?_
  refine vi_aload_n C 2 dJ7_copyOfRangeByte_39247_14 rfl ?_
  refine vi_iload_n C 3 dJ7_copyOfRangeByte_39247_15 rfl ?_
  refine vi_aload C 0 dJ7_copyOfRangeByte_39247_16 rfl ?_
  refine vi_iconst (v := 0) C dJ7_copyOfRangeByte_39247_18 (by decide) ?_
  refine vi_aload_n C 2 dJ7_copyOfRangeByte_39247_19 rfl ?_
  refine vi_alen (v := Int32.ofNat n0) C 0 5 rfl rfl rfl dJ7_copyOfRangeByte_39247_20 ?_
  refine vi_iload_n C 3 dJ7_copyOfRangeByte_39247_21 rfl ?_
  refine vi_isub C dJ7_copyOfRangeByte_39247_22 ?_
  refine vi_iload_n C 1 dJ7_copyOfRangeByte_39247_23 rfl ?_
  obtain ⟨y10, hgy10, h⟩ := ob_bd h
  refine vi_callS1i (As := [.int ((Int32.ofNat n0) - x1), .int y3]) (rest := [.int (0 : Int32), .ref a7, .int x1, .ref a0]) C (mJ9_min_7cf53 C.2.2.2.2.2.2.2.2.1 hgy10) 2 rfl tcJ9_min_7cf53 tlJ7_304 ttJ9_min_7cf53 tnJ9 tdJ9_min_7cf53 ⟨Nat.le_of_ble_eq_true rfl, Nat.le_of_ble_eq_true rfl⟩ hz5 rfl (Nat.le_of_ble_eq_true rfl) dJ7_copyOfRangeByte_39247_24 ?_
  obtain ⟨hz11, h⟩ := ob_ok h
  obtain ⟨g12, eg12, h⟩ := ob_nm h
  refine vi_copyB (f := g0) (w2 := [(a0, .inl (cB, n0, .inl (g0))), (a7, .inl (cB, n6, .inl (g12)))]) C 0 1 5 tlJ7_150 tcpnat tcpstat tcpini rfl rfl rfl hz11 (by rw [eg12]; rfl) (Nat.le_of_ble_eq_true rfl) (Nat.le_of_ble_eq_true rfl) dJ7_copyOfRangeByte_39247_27 ?_
  refine vi_aload C 0 dJ7_copyOfRangeByte_39247_30 rfl ?_
  cases h
  exact RET (fun j => [a7].getD j 0) _ _ _ _ hz5 dJ7_copyOfRangeByte_39247_32
theorem hm_J7_copyOfRangeByte_39247 {ad adK adV : Nat → Nat} {tS tF : Nat} {tX sK sV : Nat → Nat} (hE : vEok (vE ad adK adV tS tF tX sK sV)) {l : Launch} {D : va_G} {cI cF cC cS cO cB cZ : ClassId} {mc : Nat} {ms : Nat} {n0 : Nat} {g0 : Nat → Int32} {a0 : Nat} {r_n1 : Nat} {r_g2 : Nat → Int32} {x1 : Int32} {x2 : Int32} (h : hf_J7_copyOfRangeByte_39247 mc ms n0 g0 x1 x2 = some (r_n1, r_g2)) : vG (vE ad adK adV tS tF tX sK sV) l yJ7_copyOfRangeByte_39247 cJ7_copyOfRangeByte_39247 5 (some (FieldType.array FieldType.byte)) 1 60 mc ms D (vT7 cI cF cC cS cO cB cZ) [.ref a0, .int x1, .int x2] [(a0, .inl (cB, n0, .inl (g0)))] (gQr D (fun q => [(a0, .inl (cB, n0, .inl (g0))), ((q 0), .inl (cB, r_n1, .inl (r_g2)))]) (fun q => (q 0))) :=
  vG_ofF hE (by decide +kernel) (Nat.le_of_ble_eq_true rfl) (fun p e s m args below meth c A C hr hin => hk_J7_copyOfRangeByte_39247_e C (fun q kc ks pc lv hk hd => g_retr (WQ := (fun q => [(a0, .inl (cB, n0, .inl (g0))), ((q 0), .inl (cB, r_n1, .inl (r_g2)))])) (ra := fun q => (q 0)) C hr (Or.inr ⟨_, rfl⟩) q rfl rfl hk hd) h)
-- ---- J7_copyOfRange_39247
def hf_J7_copyOfRange_39247 (mc : Nat) (ms : Nat) (n0 : Nat) (g0 : Nat → Int32) (x1 : Int32) (x2 : Int32) : Option (Nat × (Nat → Int32)) := (if x1 = 0 then (if x2 = Int32.ofNat n0 then if ∀ i : Nat, i < n0 → fits .byte (.int (g0 i)) = true then if 0 + 1 ≤ mc ∧ 0 + n0 ≤ ms then bd (0 + 1) fun kc11 => bd (0 + n0) fun ks12 => some (n0, g0) else none else none else if 0 + (1) ≤ mc ∧ 0 + (Int32.toNatClampNeg (x2 - x1)) ≤ ms then (hf_J7_copyOfRangeByte_39247 (1) (Int32.toNatClampNeg (x2 - x1)) n0 g0 x1 x2).bind fun z14 => bd (0 + (1)) fun kc16 => bd (0 + (Int32.toNatClampNeg (x2 - x1))) fun ks17 => some (z14.1, z14.2) else none) else if 0 + (1) ≤ mc ∧ 0 + (Int32.toNatClampNeg (x2 - x1)) ≤ ms then (hf_J7_copyOfRangeByte_39247 (1) (Int32.toNatClampNeg (x2 - x1)) n0 g0 x1 x2).bind fun z3 => bd (0 + (1)) fun kc5 => bd (0 + (Int32.toNatClampNeg (x2 - x1))) fun ks6 => some (z3.1, z3.2) else none)
set_option maxRecDepth 100000 in
set_option maxHeartbeats 4000000 in
theorem hk_J7_copyOfRange_39247_e {ad adK adV : Nat → Nat} {tS tF : Nat} {tX sK sV : Nat → Nat} {p : Program} {l : Launch} {e : Env} {s : State} {m : MethodId} {args : Array Value} {below : List Frame} {meth : Method} {c : Code} {A : Nat → Prop} {D : va_G} {cI cF cC cS cO cB cZ : ClassId} {Q : State → Prop} {mc : Nat} {ms : Nat} {n0 : Nat} {g0 : Nat → Int32} {a0 : Nat} (C : vC (vE ad adK adV tS tF tX sK sV) p l s m args meth c A D (vT7 cI cF cC cS cO cB cZ) cJ7_copyOfRange_39247 3 RJ7) {r_n1 : Nat} {r_g2 : Nat → Int32} (RET : ∀ (q : Nat → Nat) (kc ks : Nat) (pc : Nat) (lv : List (Nat × Value)), (kc ≤ mc ∧ ks ≤ ms) → decode cJ7_copyOfRange_39247 pc = .ok (.areturn, 1) → vV p l e { frames := 2, cells := mc, slots := ms, locals := 84 } s m args below meth c A D 3 kc ks Q [(a0, .inl (cB, n0, .inl (g0))), ((q 0), .inl (cB, r_n1, .inl (r_g2)))] pc lv [.ref (q 0)]) {x1 : Int32} {x2 : Int32} (h : hf_J7_copyOfRange_39247 mc ms n0 g0 x1 x2 = some (r_n1, r_g2)) : vV p l e { frames := 2, cells := mc, slots := ms, locals := 84 } s m args below meth c A D 3 (0) (0) Q [(a0, .inl (cB, n0, .inl (g0)))] 0 [(0, .ref a0), (1, .int x1), (2, .int x2)] [] := by
  rw [hf_J7_copyOfRange_39247] at h
  refine vi_iload_n C 1 dJ7_copyOfRange_39247_0 rfl ?_
  refine vi_if_ne (tgt := 10) C dJ7_copyOfRange_39247_1 (by decide) (fun hc1 => ?_) (fun hc1 => ?_)
  · have h := ob_f h hc1
    refine vi_aload_n C 0 dJ7_copyOfRange_39247_10 rfl ?_
    refine vi_iload_n C 1 dJ7_copyOfRange_39247_11 rfl ?_
    refine vi_iload_n C 2 dJ7_copyOfRange_39247_12 rfl ?_
    obtain ⟨hz2, h⟩ := ob_ok h
    obtain ⟨z3, hgz3, h⟩ := ob_bd h
    refine vi_w C (w' := [] ++ [(a0, .inl (cB, n0, .inl (g0)))]) rfl ?_
    refine g_cr C (g_runS (As := [.ref a0, .int x1, .int x2]) (rest := []) (w1 := []) (wc := [(a0, .inl (cB, n0, .inl (g0)))]) C (hm_J7_copyOfRangeByte_39247 (a0 := a0) (mc := (1)) (ms := (Int32.toNatClampNeg (x2 - x1))) (n0 := n0) (g0 := g0) (x1 := x1) (x2 := x2) (r_n1 := z3.1) (r_g2 := z3.2) C.2.2.2.2.2.2.2.2.1 hgz3) 3 rfl tcJ7_copyOfRangeByte_39247 tlJ7_339 ttJ7_copyOfRangeByte_39247 tnJ7 tdJ7_copyOfRangeByte_39247 ⟨Nat.le_of_ble_eq_true rfl, Nat.le_of_ble_eq_true rfl⟩ hz2 rfl (Nat.le_of_ble_eq_true rfl) dJ7_copyOfRange_39247_13 rfl) rfl (fun q4 => ?_)
    refine vi_w C (w' := [(a0, .inl (cB, n0, .inl (g0))), ((q4 0), .inl (cB, z3.1, .inl (z3.2)))]) rfl ?_
    obtain ⟨kc5, ekc5, h⟩ := ob_nm h
    obtain ⟨ks6, eks6, h⟩ := ob_nm h
    refine vi_kk ekc5.symm eks6.symm ?_
    rw [← ekc5, ← eks6] at hz2
    cases h
    exact RET (fun j => [(q4 0)].getD j 0) _ _ _ _ hz2 dJ7_copyOfRange_39247_16
  · have h := ob_t h hc1
    refine vi_iload_n C 2 dJ7_copyOfRange_39247_4 rfl ?_
    refine vi_aload_n C 0 dJ7_copyOfRange_39247_5 rfl ?_
    refine vi_alen (v := Int32.ofNat n0) C 0 5 rfl rfl rfl dJ7_copyOfRange_39247_6 ?_
    refine vi_icmp_eq (tgt := 17) C dJ7_copyOfRange_39247_7 (by decide) (fun hc7 => ?_) (fun hc7 => ?_)
    · have h := ob_t h hc7
      refine vi_aload_n C 0 dJ7_copyOfRange_39247_17 rfl ?_
      obtain ⟨hz8, h⟩ := ob_ok h
      obtain ⟨hz9, h⟩ := ob_ok h
      refine vi_cloneB C 0 5 tlJ7_310 tclsame tclnat tclinst tclsel (vE_x C).2.2.2.2.1 rfl rfl (C.2.2.2.2.2.1.2 5 _ rfl).2 hz8 (Nat.le_of_ble_eq_true rfl) (Nat.le_of_ble_eq_true rfl) hz9.1 hz9.2 dJ7_copyOfRange_39247_18 (fun a10 => ?_)
      refine vi_w C (w' := [(a0, .inl (cB, n0, .inl (g0))), (a10, .inl (cB, n0, .inl (g0)))]) rfl ?_
      obtain ⟨kc11, ekc11, h⟩ := ob_nm h
      obtain ⟨ks12, eks12, h⟩ := ob_nm h
      refine vi_kk ekc11.symm eks12.symm ?_
      rw [← ekc11, ← eks12] at hz9
      refine vi_castA (nm := "[B") C 1 tlcJ7_311 rfl (C.2.2.2.2.2.1.2 5 _ rfl).2 dJ7_copyOfRange_39247_21 ?_
      cases h
      exact RET (fun j => [a10].getD j 0) _ _ _ _ hz9 dJ7_copyOfRange_39247_24
    · have h := ob_f h hc7
      refine vi_aload_n C 0 dJ7_copyOfRange_39247_10 rfl ?_
      refine vi_iload_n C 1 dJ7_copyOfRange_39247_11 rfl ?_
      refine vi_iload_n C 2 dJ7_copyOfRange_39247_12 rfl ?_
      obtain ⟨hz13, h⟩ := ob_ok h
      obtain ⟨z14, hgz14, h⟩ := ob_bd h
      refine vi_w C (w' := [] ++ [(a0, .inl (cB, n0, .inl (g0)))]) rfl ?_
      refine g_cr C (g_runS (As := [.ref a0, .int x1, .int x2]) (rest := []) (w1 := []) (wc := [(a0, .inl (cB, n0, .inl (g0)))]) C (hm_J7_copyOfRangeByte_39247 (a0 := a0) (mc := (1)) (ms := (Int32.toNatClampNeg (x2 - x1))) (n0 := n0) (g0 := g0) (x1 := x1) (x2 := x2) (r_n1 := z14.1) (r_g2 := z14.2) C.2.2.2.2.2.2.2.2.1 hgz14) 3 rfl tcJ7_copyOfRangeByte_39247 tlJ7_339 ttJ7_copyOfRangeByte_39247 tnJ7 tdJ7_copyOfRangeByte_39247 ⟨Nat.le_of_ble_eq_true rfl, Nat.le_of_ble_eq_true rfl⟩ hz13 rfl (Nat.le_of_ble_eq_true rfl) dJ7_copyOfRange_39247_13 rfl) rfl (fun q15 => ?_)
      refine vi_w C (w' := [(a0, .inl (cB, n0, .inl (g0))), ((q15 0), .inl (cB, z14.1, .inl (z14.2)))]) rfl ?_
      obtain ⟨kc16, ekc16, h⟩ := ob_nm h
      obtain ⟨ks17, eks17, h⟩ := ob_nm h
      refine vi_kk ekc16.symm eks17.symm ?_
      rw [← ekc16, ← eks17] at hz13
      cases h
      exact RET (fun j => [(q15 0)].getD j 0) _ _ _ _ hz13 dJ7_copyOfRange_39247_16
theorem hm_J7_copyOfRange_39247 {ad adK adV : Nat → Nat} {tS tF : Nat} {tX sK sV : Nat → Nat} (hE : vEok (vE ad adK adV tS tF tX sK sV)) {l : Launch} {D : va_G} {cI cF cC cS cO cB cZ : ClassId} {mc : Nat} {ms : Nat} {n0 : Nat} {g0 : Nat → Int32} {a0 : Nat} {r_n1 : Nat} {r_g2 : Nat → Int32} {x1 : Int32} {x2 : Int32} (h : hf_J7_copyOfRange_39247 mc ms n0 g0 x1 x2 = some (r_n1, r_g2)) : vG (vE ad adK adV tS tF tX sK sV) l yJ7_copyOfRange_39247 cJ7_copyOfRange_39247 3 (some (FieldType.array FieldType.byte)) 2 84 mc ms D (vT7 cI cF cC cS cO cB cZ) [.ref a0, .int x1, .int x2] [(a0, .inl (cB, n0, .inl (g0)))] (gQr D (fun q => [(a0, .inl (cB, n0, .inl (g0))), ((q 0), .inl (cB, r_n1, .inl (r_g2)))]) (fun q => (q 0))) :=
  vG_ofF hE (by decide +kernel) (Nat.le_of_ble_eq_true rfl) (fun p e s m args below meth c A C hr hin => hk_J7_copyOfRange_39247_e C (fun q kc ks pc lv hk hd => g_retr (WQ := (fun q => [(a0, .inl (cB, n0, .inl (g0))), ((q 0), .inl (cB, r_n1, .inl (r_g2)))])) (ra := fun q => (q 0)) C hr (Or.inr ⟨_, rfl⟩) q rfl rfl hk hd) h)
-- ---- J5_getValue_6d5f1
def hf_J5_getValue_6d5f1 (f0_3 : Int32) (n1 : Nat) (g1 : Nat → Int32) : Option (Unit) := some ()
set_option maxRecDepth 100000 in
set_option maxHeartbeats 4000000 in
theorem hk_J5_getValue_6d5f1_e {ad adK adV : Nat → Nat} {tS tF : Nat} {tX sK sV : Nat → Nat} {p : Program} {l : Launch} {e : Env} {s : State} {m : MethodId} {args : Array Value} {below : List Frame} {meth : Method} {c : Code} {A : Nat → Prop} {D : va_G} {cI cF cC cS cO cB cZ : ClassId} {Q : State → Prop} {f0_3 : Int32} {n1 : Nat} {g1 : Nat → Int32} {a0 : Nat} {a1 : Nat} (C : vC (vE ad adK adV tS tF tX sK sV) p l s m args meth c A D (vT7 cI cF cC cS cO cB cZ) cJ5_getValue_6d5f1 1 RJ5) (RET : ∀ (q : Nat → Nat) (kc ks : Nat) (pc : Nat) (lv : List (Nat × Value)), True → decode cJ5_getValue_6d5f1 pc = .ok (.areturn, 1) → vV p l e { frames := 0, cells := 0, slots := 0, locals := 0 } s m args below meth c A D 1 0 0 Q [(a0, .inr (1, [.ref a1, .int (0 : Int32), .int (0 : Int32), .int f0_3])), (a1, .inl (cB, n1, .inl (g1)))] pc lv [.ref a1]) (h : hf_J5_getValue_6d5f1 f0_3 n1 g1 = some ()) : vV p l e { frames := 0, cells := 0, slots := 0, locals := 0 } s m args below meth c A D 1 0 0 Q [(a0, .inr (1, [.ref a1, .int (0 : Int32), .int (0 : Int32), .int f0_3])), (a1, .inl (cB, n1, .inl (g1)))] 0 [(0, .ref a0)] [] := by
  rw [hf_J5_getValue_6d5f1] at h
  refine vi_aload_n C 0 dJ5_getValue_6d5f1_0 rfl ?_
  refine vi_get (ref := "java/lang/AbstractStringBuilder") (v := .ref a1) C 0 0 inJ4w rfl rfl (by decide) tfJ5_15 rfl rfl dJ5_getValue_6d5f1_1 ?_
  cases h
  exact RET (fun j => [].getD j 0) 0 0 _ _ trivial dJ5_getValue_6d5f1_4
theorem hm_J5_getValue_6d5f1 {ad adK adV : Nat → Nat} {tS tF : Nat} {tX sK sV : Nat → Nat} (hE : vEok (vE ad adK adV tS tF tX sK sV)) {l : Launch} {D : va_G} {cI cF cC cS cO cB cZ : ClassId} {f0_3 : Int32} {n1 : Nat} {g1 : Nat → Int32} {a0 : Nat} {a1 : Nat} (h : hf_J5_getValue_6d5f1 f0_3 n1 g1 = some ()) : vG (vE ad adK adV tS tF tX sK sV) l yJ5_getValue_6d5f1 cJ5_getValue_6d5f1 1 (some (FieldType.array FieldType.byte)) 0 0 0 0 D (vT7 cI cF cC cS cO cB cZ) [.ref a0] [(a0, .inr (1, [.ref a1, .int (0 : Int32), .int (0 : Int32), .int f0_3])), (a1, .inl (cB, n1, .inl (g1)))] (gQr D (fun q => [(a0, .inr (1, [.ref a1, .int (0 : Int32), .int (0 : Int32), .int f0_3])), (a1, .inl (cB, n1, .inl (g1)))]) (fun q => a1)) :=
  vG_ofF hE (by decide +kernel) (Nat.le_of_ble_eq_true rfl) (fun p e s m args below meth c A C hr hin => hk_J5_getValue_6d5f1_e C (fun q kc ks pc lv hk hd => g_retr (WQ := (fun q => [(a0, .inr (1, [.ref a1, .int (0 : Int32), .int (0 : Int32), .int f0_3])), (a1, .inl (cB, n1, .inl (g1)))])) (ra := fun q => a1) C hr (Or.inr ⟨_, rfl⟩) q rfl rfl ⟨Nat.le_refl 0, Nat.le_refl 0⟩ hd) h)
-- ---- J5_length_8abf5
def hf_J5_length_8abf5 (f0_3 : Int32) (n1 : Nat) (g1 : Nat → Int32) : Option (Int32) := some (f0_3)
set_option maxRecDepth 100000 in
set_option maxHeartbeats 4000000 in
theorem hk_J5_length_8abf5_e {ad adK adV : Nat → Nat} {tS tF : Nat} {tX sK sV : Nat → Nat} {p : Program} {l : Launch} {e : Env} {s : State} {m : MethodId} {args : Array Value} {below : List Frame} {meth : Method} {c : Code} {A : Nat → Prop} {D : va_G} {cI cF cC cS cO cB cZ : ClassId} {Q : State → Prop} {f0_3 : Int32} {n1 : Nat} {g1 : Nat → Int32} {a0 : Nat} {a1 : Nat} (C : vC (vE ad adK adV tS tF tX sK sV) p l s m args meth c A D (vT7 cI cF cC cS cO cB cZ) cJ5_length_8abf5 1 RJ5) {r0 : Int32} (RET : ∀ (q : Nat → Nat) (kc ks : Nat) (pc : Nat) (lv : List (Nat × Value)), True → decode cJ5_length_8abf5 pc = .ok (.ireturn, 1) → vV p l e { frames := 0, cells := 0, slots := 0, locals := 0 } s m args below meth c A D 1 0 0 Q [(a0, .inr (1, [.ref a1, .int (0 : Int32), .int (0 : Int32), .int f0_3])), (a1, .inl (cB, n1, .inl (g1)))] pc lv [.int r0]) (h : hf_J5_length_8abf5 f0_3 n1 g1 = some (r0)) : vV p l e { frames := 0, cells := 0, slots := 0, locals := 0 } s m args below meth c A D 1 0 0 Q [(a0, .inr (1, [.ref a1, .int (0 : Int32), .int (0 : Int32), .int f0_3])), (a1, .inl (cB, n1, .inl (g1)))] 0 [(0, .ref a0)] [] := by
  rw [hf_J5_length_8abf5] at h
  refine vi_aload_n C 0 dJ5_length_8abf5_0 rfl ?_
  refine vi_get (ref := "java/lang/AbstractStringBuilder") (v := .int f0_3) C 0 3 inJ4w rfl rfl (by decide) tfJ5_79 rfl rfl dJ5_length_8abf5_1 ?_
  cases h
  exact RET (fun j => [].getD j 0) 0 0 _ _ trivial dJ5_length_8abf5_4
theorem hm_J5_length_8abf5 {ad adK adV : Nat → Nat} {tS tF : Nat} {tX sK sV : Nat → Nat} (hE : vEok (vE ad adK adV tS tF tX sK sV)) {l : Launch} {D : va_G} {cI cF cC cS cO cB cZ : ClassId} {f0_3 : Int32} {n1 : Nat} {g1 : Nat → Int32} {a0 : Nat} {a1 : Nat} {r0 : Int32} (h : hf_J5_length_8abf5 f0_3 n1 g1 = some (r0)) : vG (vE ad adK adV tS tF tX sK sV) l yJ5_length_8abf5 cJ5_length_8abf5 1 (some .int) 0 0 0 0 D (vT7 cI cF cC cS cO cB cZ) [.ref a0] [(a0, .inr (1, [.ref a1, .int (0 : Int32), .int (0 : Int32), .int f0_3])), (a1, .inl (cB, n1, .inl (g1)))] (gQi D (fun q => [(a0, .inr (1, [.ref a1, .int (0 : Int32), .int (0 : Int32), .int f0_3])), (a1, .inl (cB, n1, .inl (g1)))]) r0) :=
  vG_ofF hE (by decide +kernel) (Nat.le_of_ble_eq_true rfl) (fun p e s m args below meth c A C hr hin => hk_J5_length_8abf5_e C (fun q kc ks pc lv hk hd => g_reti (WQ := (fun q => [(a0, .inr (1, [.ref a1, .int (0 : Int32), .int (0 : Int32), .int f0_3])), (a1, .inl (cB, n1, .inl (g1)))])) C hr rfl q rfl ⟨Nat.le_refl 0, Nat.le_refl 0⟩ hd) h)
-- ---- J4_length_8abf5
def hf_J4_length_8abf5 (f0_3 : Int32) (n1 : Nat) (g1 : Nat → Int32) : Option (Int32) := (hf_J5_length_8abf5 f0_3 n1 g1).bind fun z1 => some (z1)
set_option maxRecDepth 100000 in
set_option maxHeartbeats 4000000 in
theorem hk_J4_length_8abf5_e {ad adK adV : Nat → Nat} {tS tF : Nat} {tX sK sV : Nat → Nat} {p : Program} {l : Launch} {e : Env} {s : State} {m : MethodId} {args : Array Value} {below : List Frame} {meth : Method} {c : Code} {A : Nat → Prop} {D : va_G} {cI cF cC cS cO cB cZ : ClassId} {Q : State → Prop} {f0_3 : Int32} {n1 : Nat} {g1 : Nat → Int32} {a0 : Nat} {a1 : Nat} (C : vC (vE ad adK adV tS tF tX sK sV) p l s m args meth c A D (vT7 cI cF cC cS cO cB cZ) cJ4_length_8abf5 1 RJ4) {r0 : Int32} (RET : ∀ (q : Nat → Nat) (kc ks : Nat) (pc : Nat) (lv : List (Nat × Value)), True → decode cJ4_length_8abf5 pc = .ok (.ireturn, 1) → vV p l e { frames := 1, cells := 0, slots := 0, locals := 20 } s m args below meth c A D 1 0 0 Q [(a0, .inr (1, [.ref a1, .int (0 : Int32), .int (0 : Int32), .int f0_3])), (a1, .inl (cB, n1, .inl (g1)))] pc lv [.int r0]) (h : hf_J4_length_8abf5 f0_3 n1 g1 = some (r0)) : vV p l e { frames := 1, cells := 0, slots := 0, locals := 20 } s m args below meth c A D 1 0 0 Q [(a0, .inr (1, [.ref a1, .int (0 : Int32), .int (0 : Int32), .int f0_3])), (a1, .inl (cB, n1, .inl (g1)))] 0 [(0, .ref a0)] [] := by
  rw [hf_J4_length_8abf5] at h
  refine vi_aload_n C 0 dJ4_length_8abf5_0 rfl ?_
  obtain ⟨z1, hgz1, h⟩ := ob_bd h
  refine vi_w C (w' := [] ++ [(a0, .inr (1, [.ref a1, .int (0 : Int32), .int (0 : Int32), .int f0_3])), (a1, .inl (cB, n1, .inl (g1)))]) rfl ?_
  refine g_ci C (g_runSU (T := TJ4) (N := 4) (As := []) (rest := []) (w1 := []) (wc := [(a0, .inr (1, [.ref a1, .int (0 : Int32), .int (0 : Int32), .int f0_3])), (a1, .inl (cB, n1, .inl (g1)))]) C (hm_J5_length_8abf5 (a0 := a0) (a1 := a1) (f0_3 := f0_3) (n1 := n1) (g1 := g1) (r0 := z1) C.2.2.2.2.2.2.2.2.1 hgz1) 0 rfl tcJ5_length_8abf5 tlJ4_343 tiJ5_length_8abf5 tsmJ5_length_8abf5 tsuJ4 tnJ5 (by decide) tdJ5_length_8abf5.2.2 ⟨Nat.le_of_ble_eq_true rfl, Nat.le_of_ble_eq_true rfl⟩ ⟨Nat.le_refl 0, Nat.le_refl 0⟩ 0 rfl rfl rfl rfl (Nat.le_of_ble_eq_true rfl) dJ4_length_8abf5_1 rfl) rfl (fun q2 => ?_)
  refine vi_w C (w' := [(a0, .inr (1, [.ref a1, .int (0 : Int32), .int (0 : Int32), .int f0_3])), (a1, .inl (cB, n1, .inl (g1)))]) rfl ?_
  refine vi_kk (kc1 := 0) (ks1 := 0) rfl rfl ?_
  cases h
  exact RET (fun j => [].getD j 0) 0 0 _ _ trivial dJ4_length_8abf5_4
theorem hm_J4_length_8abf5 {ad adK adV : Nat → Nat} {tS tF : Nat} {tX sK sV : Nat → Nat} (hE : vEok (vE ad adK adV tS tF tX sK sV)) {l : Launch} {D : va_G} {cI cF cC cS cO cB cZ : ClassId} {f0_3 : Int32} {n1 : Nat} {g1 : Nat → Int32} {a0 : Nat} {a1 : Nat} {r0 : Int32} (h : hf_J4_length_8abf5 f0_3 n1 g1 = some (r0)) : vG (vE ad adK adV tS tF tX sK sV) l yJ4_length_8abf5 cJ4_length_8abf5 1 (some .int) 1 20 0 0 D (vT7 cI cF cC cS cO cB cZ) [.ref a0] [(a0, .inr (1, [.ref a1, .int (0 : Int32), .int (0 : Int32), .int f0_3])), (a1, .inl (cB, n1, .inl (g1)))] (gQi D (fun q => [(a0, .inr (1, [.ref a1, .int (0 : Int32), .int (0 : Int32), .int f0_3])), (a1, .inl (cB, n1, .inl (g1)))]) r0) :=
  vG_ofF hE (by decide +kernel) (Nat.le_of_ble_eq_true rfl) (fun p e s m args below meth c A C hr hin => hk_J4_length_8abf5_e C (fun q kc ks pc lv hk hd => g_reti (WQ := (fun q => [(a0, .inr (1, [.ref a1, .int (0 : Int32), .int (0 : Int32), .int f0_3])), (a1, .inl (cB, n1, .inl (g1)))])) C hr rfl q rfl ⟨Nat.le_refl 0, Nat.le_refl 0⟩ hd) h)
-- ---- J0_init_db425
def hf_J0_init_db425 (mc : Nat) (ms : Nat) (f1_3 : Int32) (n2 : Nat) (g2 : Nat → Int32) : Option (Nat × (Nat → Int32)) := (hf_J5_getValue_6d5f1 f1_3 n2 g2).bind fun z1 => (hf_J4_length_8abf5 f1_3 n2 g2).bind fun z3 => (hf_J5_isLatin1_aae02 f1_3 n2 g2).bind fun z5 => if 0 + (1) ≤ mc ∧ 0 + (Int32.toNatClampNeg (z3 - (0 : Int32))) ≤ ms then (hf_J7_copyOfRange_39247 (1) (Int32.toNatClampNeg (z3 - (0 : Int32))) n2 g2 (0 : Int32) z3).bind fun z8 => bd (0 + (1)) fun kc10 => bd (0 + (Int32.toNatClampNeg (z3 - (0 : Int32)))) fun ks11 => some (z8.1, z8.2) else none
set_option maxRecDepth 100000 in
set_option maxHeartbeats 4000000 in
theorem hk_J0_init_db425_e {ad adK adV : Nat → Nat} {tS tF : Nat} {tX sK sV : Nat → Nat} {p : Program} {l : Launch} {e : Env} {s : State} {m : MethodId} {args : Array Value} {below : List Frame} {meth : Method} {c : Code} {A : Nat → Prop} {D : va_G} {cI cF cC cS cO cB cZ : ClassId} {Q : State → Prop} {mc : Nat} {ms : Nat} {f1_3 : Int32} {n2 : Nat} {g2 : Nat → Int32} {a0 : Nat} {a1 : Nat} {a2 : Nat} (C : vC (vE ad adK adV tS tF tX sK sV) p l s m args meth c A D (vT7 cI cF cC cS cO cB cZ) cJ0_init_db425 5 RJ0) (hin : meth.name = "<init>") {r_n1 : Nat} {r_g2 : Nat → Int32} (RET : ∀ (q : Nat → Nat) (kc ks : Nat) (pc : Nat) (lv : List (Nat × Value)), (kc ≤ mc ∧ ks ≤ ms) → decode cJ0_init_db425 pc = .ok (.return_, 1) → vV p l e { frames := 3, cells := mc, slots := ms, locals := 106 } s m args below meth c A D 5 kc ks Q [(a0, .inr (0, [.ref (q 0), .int (0 : Int32), .int (0 : Int32), .int (0 : Int32)])), ((q 0), .inl (cB, r_n1, .inl (r_g2))), (a1, .inr (1, [.ref a2, .int (0 : Int32), .int (0 : Int32), .int f1_3])), (a2, .inl (cB, n2, .inl (g2)))] pc lv []) (h : hf_J0_init_db425 mc ms f1_3 n2 g2 = some (r_n1, r_g2)) : vV p l e { frames := 3, cells := mc, slots := ms, locals := 106 } s m args below meth c A D 5 (0) (0) Q [(a0, .inr (0, [.null, .int (0 : Int32), .int (0 : Int32), .int (0 : Int32)])), (a1, .inr (1, [.ref a2, .int (0 : Int32), .int (0 : Int32), .int f1_3])), (a2, .inl (cB, n2, .inl (g2)))] 0 [(0, .ref a0), (1, .ref a1), (2, .null)] [] := by
  rw [hf_J0_init_db425] at h
  refine vi_aload_n C 0 dJ0_init_db425_0 rfl ?_
  refine vi_objInit C tlJ0_1 ti_objinit tc_objinit dJ0_init_db425_1 (Nat.le_of_ble_eq_true rfl) (Nat.le_of_ble_eq_true rfl) ?_
  refine vi_aload_n C 1 dJ0_init_db425_4 rfl ?_
  obtain ⟨z1, hgz1, h⟩ := ob_bd h
  refine vi_w C (w' := [(a0, .inr (0, [.null, .int (0 : Int32), .int (0 : Int32), .int (0 : Int32)]))] ++ [(a1, .inr (1, [.ref a2, .int (0 : Int32), .int (0 : Int32), .int f1_3])), (a2, .inl (cB, n2, .inl (g2)))]) rfl ?_
  refine g_cr C (g_runU (x := yJ5_getValue_6d5f1) (owner := RJ5) (Cn := RJ4) (T := TJ4) (N := 4) (ci := 1) (fs := [.ref a2, .int (0 : Int32), .int (0 : Int32), .int f1_3]) (As := []) (rest := []) (w1 := [(a0, .inr (0, [.null, .int (0 : Int32), .int (0 : Int32), .int (0 : Int32)]))]) (wc := [(a1, .inr (1, [.ref a2, .int (0 : Int32), .int (0 : Int32), .int f1_3])), (a2, .inl (cB, n2, .inl (g2)))]) C (hm_J5_getValue_6d5f1 (a0 := a1) (a1 := a2) (f0_3 := f1_3) (n1 := n2) (g1 := g2)  C.2.2.2.2.2.2.2.2.1 hgz1) 0 rfl tcJ5_getValue_6d5f1 tlJ0_552 tiJ5_getValue_6d5f1 tsmJ5_getValue_6d5f1 (va_Decl.of (C.2.2.2.2.1 _ tiJ5_getValue_6d5f1) (C.2.2.2.2.1 _ tcJ5_getValue_6d5f1)) (C.2.2.2.2.1 _ tslJ5_getValue_6d5f1) tnJ5 (by decide) tdJ5_getValue_6d5f1.2.2 ⟨Nat.le_of_ble_eq_true rfl, Nat.le_of_ble_eq_true rfl⟩ ⟨Nat.zero_le _, Nat.zero_le _⟩ 1 rfl rfl rfl (Nat.le_of_ble_eq_true rfl) dJ0_init_db425_5 rfl) rfl (fun q2 => ?_)
  refine vi_w C (w' := [(a0, .inr (0, [.null, .int (0 : Int32), .int (0 : Int32), .int (0 : Int32)])), (a1, .inr (1, [.ref a2, .int (0 : Int32), .int (0 : Int32), .int f1_3])), (a2, .inl (cB, n2, .inl (g2)))]) rfl ?_
  refine vi_kk (kc1 := (0)) (ks1 := (0)) rfl rfl ?_
  refine vi_astore_n (lv' := [(3, .ref a2), (0, .ref a0), (1, .ref a1), (2, .null)]) C dJ0_init_db425_8 rfl (by decide) rfl ?_
  refine vi_aload_n C 2 dJ0_init_db425_9 rfl ?_
  obtain ⟨z3, hgz3, h⟩ := ob_bd h
  refine vi_w C (w' := [(a0, .inr (0, [.null, .int (0 : Int32), .int (0 : Int32), .int (0 : Int32)]))] ++ [(a1, .inr (1, [.ref a2, .int (0 : Int32), .int (0 : Int32), .int f1_3])), (a2, .inl (cB, n2, .inl (g2)))]) rfl ?_
  refine g_ci C (g_runU (x := yJ5_length_8abf5) (owner := RJ5) (Cn := RJ4) (T := TJ4) (N := 4) (ci := 1) (fs := [.ref a2, .int (0 : Int32), .int (0 : Int32), .int f1_3]) (As := []) (rest := []) (w1 := [(a0, .inr (0, [.null, .int (0 : Int32), .int (0 : Int32), .int (0 : Int32)]))]) (wc := [(a1, .inr (1, [.ref a2, .int (0 : Int32), .int (0 : Int32), .int f1_3])), (a2, .inl (cB, n2, .inl (g2)))]) C (hm_J4_length_8abf5 (a0 := a1) (a1 := a2) (f0_3 := f1_3) (n1 := n2) (g1 := g2) (r0 := z3) C.2.2.2.2.2.2.2.2.1 hgz3) 0 rfl tcJ4_length_8abf5 tlJ0_549 tiJ4_length_8abf5 tsmJ5_length_8abf5 (va_Decl.of (C.2.2.2.2.1 _ tiJ5_length_8abf5) (C.2.2.2.2.1 _ tcJ5_length_8abf5)) (C.2.2.2.2.1 _ tslJ5_length_8abf5) tnJ4 (by decide) tdJ5_length_8abf5.2.2 ⟨Nat.le_of_ble_eq_true rfl, Nat.le_of_ble_eq_true rfl⟩ ⟨Nat.zero_le _, Nat.zero_le _⟩ 1 rfl rfl rfl (Nat.le_of_ble_eq_true rfl) dJ0_init_db425_10 rfl) rfl (fun q4 => ?_)
  refine vi_w C (w' := [(a0, .inr (0, [.null, .int (0 : Int32), .int (0 : Int32), .int (0 : Int32)])), (a1, .inr (1, [.ref a2, .int (0 : Int32), .int (0 : Int32), .int f1_3])), (a2, .inl (cB, n2, .inl (g2)))]) rfl ?_
  refine vi_kk (kc1 := (0)) (ks1 := (0)) rfl rfl ?_
  refine vi_istore (lv' := [(4, .int z3), (3, .ref a2), (0, .ref a0), (1, .ref a1), (2, .null)]) C dJ0_init_db425_13 (by decide) rfl ?_
  refine vi_aload_n C 3 dJ0_init_db425_15 rfl ?_
  obtain ⟨z5, hgz5, h⟩ := ob_bd h
  refine vi_w C (w' := [(a0, .inr (0, [.null, .int (0 : Int32), .int (0 : Int32), .int (0 : Int32)]))] ++ [(a1, .inr (1, [.ref a2, .int (0 : Int32), .int (0 : Int32), .int f1_3])), (a2, .inl (cB, n2, .inl (g2)))]) rfl ?_
  refine g_ci C (g_runU (x := yJ5_isLatin1_aae02) (owner := RJ5) (Cn := RJ4) (T := TJ4) (N := 4) (ci := 1) (fs := [.ref a2, .int (0 : Int32), .int (0 : Int32), .int f1_3]) (As := []) (rest := []) (w1 := [(a0, .inr (0, [.null, .int (0 : Int32), .int (0 : Int32), .int (0 : Int32)]))]) (wc := [(a1, .inr (1, [.ref a2, .int (0 : Int32), .int (0 : Int32), .int f1_3])), (a2, .inl (cB, n2, .inl (g2)))]) C (hm_J5_isLatin1_aae02 (a0 := a1) (a1 := a2) (f0_3 := f1_3) (n1 := n2) (g1 := g2)  C.2.2.2.2.2.2.2.2.1 hgz5) 0 rfl tcJ5_isLatin1_aae02 tlJ0_1047 tiJ5_isLatin1_aae02 tsmJ5_isLatin1_aae02 (va_Decl.of (C.2.2.2.2.1 _ tiJ5_isLatin1_aae02) (C.2.2.2.2.1 _ tcJ5_isLatin1_aae02)) (C.2.2.2.2.1 _ tslJ5_isLatin1_aae02) tnJ5 (by decide) tdJ5_isLatin1_aae02.2.2 ⟨Nat.le_of_ble_eq_true rfl, Nat.le_of_ble_eq_true rfl⟩ ⟨Nat.zero_le _, Nat.zero_le _⟩ 1 rfl rfl rfl (Nat.le_of_ble_eq_true rfl) dJ0_init_db425_16 rfl) rfl (fun q6 => ?_)
  refine vi_w C (w' := [(a0, .inr (0, [.null, .int (0 : Int32), .int (0 : Int32), .int (0 : Int32)])), (a1, .inr (1, [.ref a2, .int (0 : Int32), .int (0 : Int32), .int f1_3])), (a2, .inl (cB, n2, .inl (g2)))]) rfl ?_
  refine vi_kk (kc1 := (0)) (ks1 := (0)) rfl rfl ?_
  refine vi_if_eq (tgt := 41) C dJ0_init_db425_19 (by decide) (fun hc => absurd hc (by decide)) (fun _ => ?_)
  refine vi_aload_n C 2 dJ0_init_db425_22 rfl ?_
  refine vi_iconst (v := 0) C dJ0_init_db425_23 (by decide) ?_
  refine vi_putF (ref := "java/lang/String") (ty := tyJ0 1) (w2 := [(a0, .inr (0, [.null, .int (0 : Int32), .int (0 : Int32), .int (0 : Int32)])), (a1, .inr (1, [.ref a2, .int (0 : Int32), .int (0 : Int32), .int f1_3])), (a2, .inl (cB, n2, .inl (g2)))]) C 0 1 inJ0w tyJ0 tyJ0_ok nmJ0 rfl rfl (by decide) tfJ0_15 rfl rfl hin rfl (tyJ0_ok 1 (by decide)) rfl rfl (by show 1 < 4; decide) rfl dJ0_init_db425_24 ?_
  refine vi_aload_n C 2 dJ0_init_db425_27 rfl ?_
  refine vi_aload_n C 1 dJ0_init_db425_28 rfl ?_
  refine vi_iconst (v := 0) C dJ0_init_db425_29 (by decide) ?_
  refine vi_iload C 0 dJ0_init_db425_30 rfl ?_
  obtain ⟨hz7, h⟩ := ob_ok h
  obtain ⟨z8, hgz8, h⟩ := ob_bd h
  refine vi_w C (w' := [(a0, .inr (0, [.null, .int (0 : Int32), .int (0 : Int32), .int (0 : Int32)])), (a1, .inr (1, [.ref a2, .int (0 : Int32), .int (0 : Int32), .int f1_3]))] ++ [(a2, .inl (cB, n2, .inl (g2)))]) rfl ?_
  refine g_cr C (g_runS (As := [.ref a2, .int (0 : Int32), .int z3]) (rest := [.ref a0]) (w1 := [(a0, .inr (0, [.null, .int (0 : Int32), .int (0 : Int32), .int (0 : Int32)])), (a1, .inr (1, [.ref a2, .int (0 : Int32), .int (0 : Int32), .int f1_3]))]) (wc := [(a2, .inl (cB, n2, .inl (g2)))]) C (hm_J7_copyOfRange_39247 (a0 := a2) (mc := (1)) (ms := (Int32.toNatClampNeg (z3 - (0 : Int32)))) (n0 := n2) (g0 := g2) (x1 := (0 : Int32)) (x2 := z3) (r_n1 := z8.1) (r_g2 := z8.2) C.2.2.2.2.2.2.2.2.1 hgz8) 3 rfl tcJ7_copyOfRange_39247 tlJ0_54 ttJ7_copyOfRange_39247 tnJ7 tdJ7_copyOfRange_39247 ⟨Nat.le_of_ble_eq_true rfl, Nat.le_of_ble_eq_true rfl⟩ hz7 rfl (Nat.le_of_ble_eq_true rfl) dJ0_init_db425_32 rfl) rfl (fun q9 => ?_)
  refine vi_w C (w' := [(a0, .inr (0, [.null, .int (0 : Int32), .int (0 : Int32), .int (0 : Int32)])), (a1, .inr (1, [.ref a2, .int (0 : Int32), .int (0 : Int32), .int f1_3])), (a2, .inl (cB, n2, .inl (g2))), ((q9 0), .inl (cB, z8.1, .inl (z8.2)))]) rfl ?_
  obtain ⟨kc10, ekc10, h⟩ := ob_nm h
  obtain ⟨ks11, eks11, h⟩ := ob_nm h
  refine vi_kk ekc10.symm eks11.symm ?_
  rw [← ekc10, ← eks11] at hz7
  refine vi_putF (ref := "java/lang/String") (ty := tyJ0 0) (w2 := [(a0, .inr (0, [.ref (q9 0), .int (0 : Int32), .int (0 : Int32), .int (0 : Int32)])), (a1, .inr (1, [.ref a2, .int (0 : Int32), .int (0 : Int32), .int f1_3])), (a2, .inl (cB, n2, .inl (g2))), ((q9 0), .inl (cB, z8.1, .inl (z8.2)))]) C 0 0 inJ0w tyJ0 tyJ0_ok nmJ0 rfl rfl (by decide) tfJ0_9 rfl rfl hin rfl (tyJ0_ok 0 (by decide)) rfl rfl (by show 0 < 4; decide) rfl dJ0_init_db425_35 ?_
  refine vi_goto (tgt := 97) C dJ0_init_db425_38 (by decide) ?_
  refine vi_pick (w' := [(a0, .inr (0, [.ref (q9 0), .int (0 : Int32), .int (0 : Int32), .int (0 : Int32)])), ((q9 0), .inl (cB, z8.1, .inl (z8.2))), (a1, .inr (1, [.ref a2, .int (0 : Int32), .int (0 : Int32), .int f1_3])), (a2, .inl (cB, n2, .inl (g2)))]) [0, 3, 1, 2] (by decide) rfl ?_
  cases h
  exact RET (fun j => [(q9 0)].getD j 0) _ _ _ _ hz7 dJ0_init_db425_97
theorem hm_J0_init_db425 {ad adK adV : Nat → Nat} {tS tF : Nat} {tX sK sV : Nat → Nat} (hE : vEok (vE ad adK adV tS tF tX sK sV)) {l : Launch} {D : va_G} {cI cF cC cS cO cB cZ : ClassId} {mc : Nat} {ms : Nat} {f1_3 : Int32} {n2 : Nat} {g2 : Nat → Int32} {a0 : Nat} {a1 : Nat} {a2 : Nat} {r_n1 : Nat} {r_g2 : Nat → Int32} (h : hf_J0_init_db425 mc ms f1_3 n2 g2 = some (r_n1, r_g2)) : vG (vE ad adK adV tS tF tX sK sV) l yJ0_init_db425 cJ0_init_db425 5 none 3 106 mc ms D (vT7 cI cF cC cS cO cB cZ) [.ref a0, .ref a1, .null] [(a0, .inr (0, [.null, .int (0 : Int32), .int (0 : Int32), .int (0 : Int32)])), (a1, .inr (1, [.ref a2, .int (0 : Int32), .int (0 : Int32), .int f1_3])), (a2, .inl (cB, n2, .inl (g2)))] (gQv D (fun q => [(a0, .inr (0, [.ref (q 0), .int (0 : Int32), .int (0 : Int32), .int (0 : Int32)])), ((q 0), .inl (cB, r_n1, .inl (r_g2))), (a1, .inr (1, [.ref a2, .int (0 : Int32), .int (0 : Int32), .int f1_3])), (a2, .inl (cB, n2, .inl (g2)))])) :=
  vG_ofF hE (by decide +kernel) (Nat.le_of_ble_eq_true rfl) (fun p e s m args below meth c A C hr hin => hk_J0_init_db425_e C hin (fun q kc ks pc lv hk hd => g_retv (WQ := (fun q => [(a0, .inr (0, [.ref (q 0), .int (0 : Int32), .int (0 : Int32), .int (0 : Int32)])), ((q 0), .inl (cB, r_n1, .inl (r_g2))), (a1, .inr (1, [.ref a2, .int (0 : Int32), .int (0 : Int32), .int f1_3])), (a2, .inl (cB, n2, .inl (g2)))])) C hr q rfl hk hd) h)
-- ---- J0_init_81219
def hf_J0_init_81219 (mc : Nat) (ms : Nat) (f1_3 : Int32) (n2 : Nat) (g2 : Nat → Int32) : Option (Nat × (Nat → Int32)) := if 0 + (1) ≤ mc ∧ 0 + (Int32.toNatClampNeg f1_3) ≤ ms then (hf_J0_init_db425 (1) (Int32.toNatClampNeg f1_3) f1_3 n2 g2).bind fun z2 => bd (0 + (1)) fun kc4 => bd (0 + (Int32.toNatClampNeg f1_3)) fun ks5 => some (z2.1, z2.2) else none
set_option maxRecDepth 100000 in
set_option maxHeartbeats 4000000 in
theorem hk_J0_init_81219_e {ad adK adV : Nat → Nat} {tS tF : Nat} {tX sK sV : Nat → Nat} {p : Program} {l : Launch} {e : Env} {s : State} {m : MethodId} {args : Array Value} {below : List Frame} {meth : Method} {c : Code} {A : Nat → Prop} {D : va_G} {cI cF cC cS cO cB cZ : ClassId} {Q : State → Prop} {mc : Nat} {ms : Nat} {f1_3 : Int32} {n2 : Nat} {g2 : Nat → Int32} {a0 : Nat} {a1 : Nat} {a2 : Nat} (C : vC (vE ad adK adV tS tF tX sK sV) p l s m args meth c A D (vT7 cI cF cC cS cO cB cZ) cJ0_init_81219 2 RJ0) (hin : meth.name = "<init>") {r_n1 : Nat} {r_g2 : Nat → Int32} (RET : ∀ (q : Nat → Nat) (kc ks : Nat) (pc : Nat) (lv : List (Nat × Value)), (kc ≤ mc ∧ ks ≤ ms) → decode cJ0_init_81219 pc = .ok (.return_, 1) → vV p l e { frames := 4, cells := mc, slots := ms, locals := 130 } s m args below meth c A D 2 kc ks Q [(a0, .inr (0, [.ref (q 0), .int (0 : Int32), .int (0 : Int32), .int (0 : Int32)])), ((q 0), .inl (cB, r_n1, .inl (r_g2))), (a1, .inr (1, [.ref a2, .int (0 : Int32), .int (0 : Int32), .int f1_3])), (a2, .inl (cB, n2, .inl (g2)))] pc lv []) (h : hf_J0_init_81219 mc ms f1_3 n2 g2 = some (r_n1, r_g2)) : vV p l e { frames := 4, cells := mc, slots := ms, locals := 130 } s m args below meth c A D 2 (0) (0) Q [(a0, .inr (0, [.null, .int (0 : Int32), .int (0 : Int32), .int (0 : Int32)])), (a1, .inr (1, [.ref a2, .int (0 : Int32), .int (0 : Int32), .int f1_3])), (a2, .inl (cB, n2, .inl (g2)))] 0 [(0, .ref a0), (1, .ref a1)] [] := by
  rw [hf_J0_init_81219] at h
  refine vi_aload_n C 0 dJ0_init_81219_0 rfl ?_
  refine vi_aload_n C 1 dJ0_init_81219_1 rfl ?_
  refine vi_null C dJ0_init_81219_2 ?_
  obtain ⟨hz1, h⟩ := ob_ok h
  obtain ⟨z2, hgz2, h⟩ := ob_bd h
  refine vi_w C (w' := [] ++ [(a0, .inr (0, [.null, .int (0 : Int32), .int (0 : Int32), .int (0 : Int32)])), (a1, .inr (1, [.ref a2, .int (0 : Int32), .int (0 : Int32), .int f1_3])), (a2, .inl (cB, n2, .inl (g2)))]) rfl ?_
  refine g_cv C (g_runI (As := [.ref a1, .null]) (rest := []) (w1 := []) (wc := [(a0, .inr (0, [.null, .int (0 : Int32), .int (0 : Int32), .int (0 : Int32)])), (a1, .inr (1, [.ref a2, .int (0 : Int32), .int (0 : Int32), .int f1_3])), (a2, .inl (cB, n2, .inl (g2)))]) C (hm_J0_init_db425 (a0 := a0) (a1 := a1) (a2 := a2) (mc := (1)) (ms := (Int32.toNatClampNeg f1_3)) (f1_3 := f1_3) (n2 := n2) (g2 := g2) (r_n1 := z2.1) (r_g2 := z2.2) C.2.2.2.2.2.2.2.2.1 hgz2) 2 rfl tcJ0_init_db425 tlJ0_489 tiJ0_init_db425 rfl tnJ0 tdJ0_init_db425 ⟨Nat.le_of_ble_eq_true rfl, Nat.le_of_ble_eq_true rfl⟩ hz1 rfl (Nat.le_of_ble_eq_true rfl) dJ0_init_81219_3 rfl) rfl (fun q3 => ?_)
  refine vi_w C (w' := [(a0, .inr (0, [.ref (q3 0), .int (0 : Int32), .int (0 : Int32), .int (0 : Int32)])), ((q3 0), .inl (cB, z2.1, .inl (z2.2))), (a1, .inr (1, [.ref a2, .int (0 : Int32), .int (0 : Int32), .int f1_3])), (a2, .inl (cB, n2, .inl (g2)))]) rfl ?_
  obtain ⟨kc4, ekc4, h⟩ := ob_nm h
  obtain ⟨ks5, eks5, h⟩ := ob_nm h
  refine vi_kk ekc4.symm eks5.symm ?_
  rw [← ekc4, ← eks5] at hz1
  cases h
  exact RET (fun j => [(q3 0)].getD j 0) _ _ _ _ hz1 dJ0_init_81219_6
theorem hm_J0_init_81219 {ad adK adV : Nat → Nat} {tS tF : Nat} {tX sK sV : Nat → Nat} (hE : vEok (vE ad adK adV tS tF tX sK sV)) {l : Launch} {D : va_G} {cI cF cC cS cO cB cZ : ClassId} {mc : Nat} {ms : Nat} {f1_3 : Int32} {n2 : Nat} {g2 : Nat → Int32} {a0 : Nat} {a1 : Nat} {a2 : Nat} {r_n1 : Nat} {r_g2 : Nat → Int32} (h : hf_J0_init_81219 mc ms f1_3 n2 g2 = some (r_n1, r_g2)) : vG (vE ad adK adV tS tF tX sK sV) l yJ0_init_81219 cJ0_init_81219 2 none 4 130 mc ms D (vT7 cI cF cC cS cO cB cZ) [.ref a0, .ref a1] [(a0, .inr (0, [.null, .int (0 : Int32), .int (0 : Int32), .int (0 : Int32)])), (a1, .inr (1, [.ref a2, .int (0 : Int32), .int (0 : Int32), .int f1_3])), (a2, .inl (cB, n2, .inl (g2)))] (gQv D (fun q => [(a0, .inr (0, [.ref (q 0), .int (0 : Int32), .int (0 : Int32), .int (0 : Int32)])), ((q 0), .inl (cB, r_n1, .inl (r_g2))), (a1, .inr (1, [.ref a2, .int (0 : Int32), .int (0 : Int32), .int f1_3])), (a2, .inl (cB, n2, .inl (g2)))])) :=
  vG_ofF hE (by decide +kernel) (Nat.le_of_ble_eq_true rfl) (fun p e s m args below meth c A C hr hin => hk_J0_init_81219_e C hin (fun q kc ks pc lv hk hd => g_retv (WQ := (fun q => [(a0, .inr (0, [.ref (q 0), .int (0 : Int32), .int (0 : Int32), .int (0 : Int32)])), ((q 0), .inl (cB, r_n1, .inl (r_g2))), (a1, .inr (1, [.ref a2, .int (0 : Int32), .int (0 : Int32), .int f1_3])), (a2, .inl (cB, n2, .inl (g2)))])) C hr q rfl hk hd) h)
-- ---- J4_toString_0e30d
def hf_J4_toString_0e30d (mc : Nat) (ms : Nat) (f0_3 : Int32) (n1 : Nat) (g1 : Nat → Int32) : Option (Nat × (Nat → Int32)) := if 0 + 1 ≤ mc ∧ 0 + 4 ≤ ms then bd (0 + 1) fun kc3 => bd (0 + 4) fun ks4 => if kc3 + (1) ≤ mc ∧ ks4 + (Int32.toNatClampNeg f0_3) ≤ ms then (hf_J0_init_81219 (1) (Int32.toNatClampNeg f0_3) f0_3 n1 g1).bind fun z6 => bd (kc3 + (1)) fun kc8 => bd (ks4 + (Int32.toNatClampNeg f0_3)) fun ks9 => some (z6.1, z6.2) else none else none
set_option maxRecDepth 100000 in
set_option maxHeartbeats 4000000 in
theorem hk_J4_toString_0e30d_e {ad adK adV : Nat → Nat} {tS tF : Nat} {tX sK sV : Nat → Nat} {p : Program} {l : Launch} {e : Env} {s : State} {m : MethodId} {args : Array Value} {below : List Frame} {meth : Method} {c : Code} {A : Nat → Prop} {D : va_G} {cI cF cC cS cO cB cZ : ClassId} {Q : State → Prop} {mc : Nat} {ms : Nat} {f0_3 : Int32} {n1 : Nat} {g1 : Nat → Int32} {a0 : Nat} {a1 : Nat} (C : vC (vE ad adK adV tS tF tX sK sV) p l s m args meth c A D (vT7 cI cF cC cS cO cB cZ) cJ4_toString_0e30d 1 RJ4) {r_n1 : Nat} {r_g2 : Nat → Int32} (RET : ∀ (q : Nat → Nat) (kc ks : Nat) (pc : Nat) (lv : List (Nat × Value)), (kc ≤ mc ∧ ks ≤ ms) → decode cJ4_toString_0e30d pc = .ok (.areturn, 1) → vV p l e { frames := 5, cells := mc, slots := ms, locals := 151 } s m args below meth c A D 1 kc ks Q [(a0, .inr (1, [.ref a1, .int (0 : Int32), .int (0 : Int32), .int f0_3])), (a1, .inl (cB, n1, .inl (g1))), ((q 0), .inr (0, [.ref (q 1), .int (0 : Int32), .int (0 : Int32), .int (0 : Int32)])), ((q 1), .inl (cB, r_n1, .inl (r_g2)))] pc lv [.ref (q 0)]) (h : hf_J4_toString_0e30d mc ms f0_3 n1 g1 = some (r_n1, r_g2)) : vV p l e { frames := 5, cells := mc, slots := ms, locals := 151 } s m args below meth c A D 1 (0) (0) Q [(a0, .inr (1, [.ref a1, .int (0 : Int32), .int (0 : Int32), .int f0_3])), (a1, .inl (cB, n1, .inl (g1)))] 0 [(0, .ref a0)] [] := by
  rw [hf_J4_toString_0e30d] at h
  obtain ⟨hz1, h⟩ := ob_ok h
  refine vi_new (ci := 0) (fs := [.null, .int (0 : Int32), .int (0 : Int32), .int (0 : Int32)]) C inJ0w tyJ0 tyJ0_ok tlcJ4_18 tinst_J0 tnJ0 rfl (by decide +kernel) hz1.1 hz1.2 dJ4_toString_0e30d_0 (fun a2 => ?_)
  refine vi_w C (w' := [(a0, .inr (1, [.ref a1, .int (0 : Int32), .int (0 : Int32), .int f0_3])), (a1, .inl (cB, n1, .inl (g1))), (a2, .inr (0, [.null, .int (0 : Int32), .int (0 : Int32), .int (0 : Int32)]))]) rfl ?_
  obtain ⟨kc3, ekc3, h⟩ := ob_nm h
  obtain ⟨ks4, eks4, h⟩ := ob_nm h
  refine vi_kk ekc3.symm eks4.symm ?_
  rw [← ekc3, ← eks4] at hz1
  refine vi_dup C dJ4_toString_0e30d_3 rfl ?_
  refine vi_aload_n C 0 dJ4_toString_0e30d_4 rfl ?_
  obtain ⟨hz5, h⟩ := ob_ok h
  obtain ⟨z6, hgz6, h⟩ := ob_bd h
  refine vi_pick (w' := [(a2, .inr (0, [.null, .int (0 : Int32), .int (0 : Int32), .int (0 : Int32)])), (a0, .inr (1, [.ref a1, .int (0 : Int32), .int (0 : Int32), .int f0_3])), (a1, .inl (cB, n1, .inl (g1)))]) [2, 0, 1] (by decide) rfl ?_
  refine vi_w C (w' := [] ++ [(a2, .inr (0, [.null, .int (0 : Int32), .int (0 : Int32), .int (0 : Int32)])), (a0, .inr (1, [.ref a1, .int (0 : Int32), .int (0 : Int32), .int f0_3])), (a1, .inl (cB, n1, .inl (g1)))]) rfl ?_
  refine g_cv C (g_runI (As := [.ref a0]) (rest := [.ref a2]) (w1 := []) (wc := [(a2, .inr (0, [.null, .int (0 : Int32), .int (0 : Int32), .int (0 : Int32)])), (a0, .inr (1, [.ref a1, .int (0 : Int32), .int (0 : Int32), .int f0_3])), (a1, .inl (cB, n1, .inl (g1)))]) C (hm_J0_init_81219 (a0 := a2) (a1 := a0) (a2 := a1) (mc := (1)) (ms := (Int32.toNatClampNeg f0_3)) (f1_3 := f0_3) (n2 := n1) (g2 := g1) (r_n1 := z6.1) (r_g2 := z6.2) C.2.2.2.2.2.2.2.2.1 hgz6) 1 rfl tcJ0_init_81219 tlJ4_137 tiJ0_init_81219 rfl tnJ0 tdJ0_init_81219 ⟨Nat.le_of_ble_eq_true rfl, Nat.le_of_ble_eq_true rfl⟩ hz5 rfl (Nat.le_of_ble_eq_true rfl) dJ4_toString_0e30d_5 rfl) rfl (fun q7 => ?_)
  refine vi_w C (w' := [(a2, .inr (0, [.ref (q7 0), .int (0 : Int32), .int (0 : Int32), .int (0 : Int32)])), ((q7 0), .inl (cB, z6.1, .inl (z6.2))), (a0, .inr (1, [.ref a1, .int (0 : Int32), .int (0 : Int32), .int f0_3])), (a1, .inl (cB, n1, .inl (g1)))]) rfl ?_
  obtain ⟨kc8, ekc8, h⟩ := ob_nm h
  obtain ⟨ks9, eks9, h⟩ := ob_nm h
  refine vi_kk ekc8.symm eks9.symm ?_
  rw [← ekc8, ← eks9] at hz5
  refine vi_pick (w' := [(a0, .inr (1, [.ref a1, .int (0 : Int32), .int (0 : Int32), .int f0_3])), (a1, .inl (cB, n1, .inl (g1))), (a2, .inr (0, [.ref (q7 0), .int (0 : Int32), .int (0 : Int32), .int (0 : Int32)])), ((q7 0), .inl (cB, z6.1, .inl (z6.2)))]) [2, 3, 0, 1] (by decide) rfl ?_
  cases h
  exact RET (fun j => [a2, (q7 0)].getD j 0) _ _ _ _ hz5 dJ4_toString_0e30d_8
theorem hm_J4_toString_0e30d {ad adK adV : Nat → Nat} {tS tF : Nat} {tX sK sV : Nat → Nat} (hE : vEok (vE ad adK adV tS tF tX sK sV)) {l : Launch} {D : va_G} {cI cF cC cS cO cB cZ : ClassId} {mc : Nat} {ms : Nat} {f0_3 : Int32} {n1 : Nat} {g1 : Nat → Int32} {a0 : Nat} {a1 : Nat} {r_n1 : Nat} {r_g2 : Nat → Int32} (h : hf_J4_toString_0e30d mc ms f0_3 n1 g1 = some (r_n1, r_g2)) : vG (vE ad adK adV tS tF tX sK sV) l yJ4_toString_0e30d cJ4_toString_0e30d 1 (some (FieldType.object "java/lang/String")) 5 151 mc ms D (vT7 cI cF cC cS cO cB cZ) [.ref a0] [(a0, .inr (1, [.ref a1, .int (0 : Int32), .int (0 : Int32), .int f0_3])), (a1, .inl (cB, n1, .inl (g1)))] (gQr D (fun q => [(a0, .inr (1, [.ref a1, .int (0 : Int32), .int (0 : Int32), .int f0_3])), (a1, .inl (cB, n1, .inl (g1))), ((q 0), .inr (0, [.ref (q 1), .int (0 : Int32), .int (0 : Int32), .int (0 : Int32)])), ((q 1), .inl (cB, r_n1, .inl (r_g2)))]) (fun q => (q 0))) :=
  vG_ofF hE (by decide +kernel) (Nat.le_of_ble_eq_true rfl) (fun p e s m args below meth c A C hr hin => hk_J4_toString_0e30d_e C (fun q kc ks pc lv hk hd => g_retr (WQ := (fun q => [(a0, .inr (1, [.ref a1, .int (0 : Int32), .int (0 : Int32), .int f0_3])), (a1, .inl (cB, n1, .inl (g1))), ((q 0), .inr (0, [.ref (q 1), .int (0 : Int32), .int (0 : Int32), .int (0 : Int32)])), ((q 1), .inl (cB, r_n1, .inl (r_g2)))])) (ra := fun q => (q 0)) C hr (Or.inl ⟨_, rfl⟩) q rfl rfl hk hd) h)
-- ---- J0_init_031fb
def hf_J0_init_031fb (n1 : Nat) (g1 : Nat → Int32) : Option (Unit) := some ()
set_option maxRecDepth 100000 in
set_option maxHeartbeats 4000000 in
theorem hk_J0_init_031fb_e {ad adK adV : Nat → Nat} {tS tF : Nat} {tX sK sV : Nat → Nat} {p : Program} {l : Launch} {e : Env} {s : State} {m : MethodId} {args : Array Value} {below : List Frame} {meth : Method} {c : Code} {A : Nat → Prop} {D : va_G} {cI cF cC cS cO cB cZ : ClassId} {Q : State → Prop} {n1 : Nat} {g1 : Nat → Int32} {a0 : Nat} {a1 : Nat} (C : vC (vE ad adK adV tS tF tX sK sV) p l s m args meth c A D (vT7 cI cF cC cS cO cB cZ) cJ0_init_031fb 3 RJ0) (hin : meth.name = "<init>") (RET : ∀ (q : Nat → Nat) (kc ks : Nat) (pc : Nat) (lv : List (Nat × Value)), True → decode cJ0_init_031fb pc = .ok (.return_, 1) → vV p l e { frames := 1, cells := 0, slots := 0, locals := 60 } s m args below meth c A D 3 0 0 Q [(a0, .inr (0, [.ref a1, .int (0 : Int32), .int (0 : Int32), .int (0 : Int32)])), (a1, .inl (cB, n1, .inl (g1)))] pc lv []) (h : hf_J0_init_031fb n1 g1 = some ()) : vV p l e { frames := 1, cells := 0, slots := 0, locals := 60 } s m args below meth c A D 3 0 0 Q [(a0, .inr (0, [.null, .int (0 : Int32), .int (0 : Int32), .int (0 : Int32)])), (a1, .inl (cB, n1, .inl (g1)))] 0 [(0, .ref a0), (1, .ref a1), (2, .int (0 : Int32))] [] := by
  rw [hf_J0_init_031fb] at h
  refine vi_aload_n C 0 dJ0_init_031fb_0 rfl ?_
  refine vi_objInit C tlJ0_1 ti_objinit tc_objinit dJ0_init_031fb_1 (Nat.le_of_ble_eq_true rfl) (Nat.le_of_ble_eq_true rfl) ?_
  refine vi_aload_n C 0 dJ0_init_031fb_4 rfl ?_
  refine vi_aload_n C 1 dJ0_init_031fb_5 rfl ?_
  refine vi_putF (ref := "java/lang/String") (ty := tyJ0 0) (w2 := [(a0, .inr (0, [.ref a1, .int (0 : Int32), .int (0 : Int32), .int (0 : Int32)])), (a1, .inl (cB, n1, .inl (g1)))]) C 0 0 inJ0w tyJ0 tyJ0_ok nmJ0 rfl rfl (by decide) tfJ0_9 rfl rfl hin rfl (tyJ0_ok 0 (by decide)) rfl rfl (by show 0 < 4; decide) rfl dJ0_init_031fb_6 ?_
  refine vi_aload_n C 0 dJ0_init_031fb_9 rfl ?_
  refine vi_iload_n C 2 dJ0_init_031fb_10 rfl ?_
  refine vi_putF (ref := "java/lang/String") (ty := tyJ0 1) (w2 := [(a0, .inr (0, [.ref a1, .int (0 : Int32), .int (0 : Int32), .int (0 : Int32)])), (a1, .inl (cB, n1, .inl (g1)))]) C 0 1 inJ0w tyJ0 tyJ0_ok nmJ0 rfl rfl (by decide) tfJ0_15 rfl rfl hin rfl (tyJ0_ok 1 (by decide)) rfl rfl (by show 1 < 4; decide) rfl dJ0_init_031fb_11 ?_
  cases h
  exact RET (fun j => [].getD j 0) 0 0 _ _ trivial dJ0_init_031fb_14
theorem hm_J0_init_031fb {ad adK adV : Nat → Nat} {tS tF : Nat} {tX sK sV : Nat → Nat} (hE : vEok (vE ad adK adV tS tF tX sK sV)) {l : Launch} {D : va_G} {cI cF cC cS cO cB cZ : ClassId} {n1 : Nat} {g1 : Nat → Int32} {a0 : Nat} {a1 : Nat} (h : hf_J0_init_031fb n1 g1 = some ()) : vG (vE ad adK adV tS tF tX sK sV) l yJ0_init_031fb cJ0_init_031fb 3 none 1 60 0 0 D (vT7 cI cF cC cS cO cB cZ) [.ref a0, .ref a1, .int (0 : Int32)] [(a0, .inr (0, [.null, .int (0 : Int32), .int (0 : Int32), .int (0 : Int32)])), (a1, .inl (cB, n1, .inl (g1)))] (gQv D (fun q => [(a0, .inr (0, [.ref a1, .int (0 : Int32), .int (0 : Int32), .int (0 : Int32)])), (a1, .inl (cB, n1, .inl (g1)))])) :=
  vG_ofF hE (by decide +kernel) (Nat.le_of_ble_eq_true rfl) (fun p e s m args below meth c A C hr hin => hk_J0_init_031fb_e C hin (fun q kc ks pc lv hk hd => g_retv (WQ := (fun q => [(a0, .inr (0, [.ref a1, .int (0 : Int32), .int (0 : Int32), .int (0 : Int32)])), (a1, .inl (cB, n1, .inl (g1)))])) C hr q rfl ⟨Nat.le_refl 0, Nat.le_refl 0⟩ hd) h)
