def hf_L_told_104 (mc : Nat) (ms : Nat) : Nat → Int32 → Int32 → Nat → (Nat → Int32) → vZ → Nat → Nat → Option (Nat × (Nat → Int32) × vZ)
  | 0, _, _, _, _, _, _, _ => none
  | n + 1, x1, x2, n3, g4, u, kc, ks => obp (fX7_account (3 : Int32) u) fun y2 u1 => (if y2 ≤ x1 then if kc + (2) ≤ mc ∧ ks + (Int32.toNatClampNeg x2 + 4) ≤ ms then (hf_J4_toString_0e30d (2) (Int32.toNatClampNeg x2 + 4) x2 n3 g4).bind fun z5 => bd (kc + (2)) fun kc7 => bd (ks + (Int32.toNatClampNeg x2 + 4)) fun ks8 => some (z5.1, z5.2, u1) else none else obp (fX7_sightOf x1 (0 : Int32) u1) fun y10 u9 => if kc + (gc1 (x2 + (fJ6_stringSize_0f7a4 y10).getD 0) n3) ≤ mc ∧ ks + (gc2 (x2 + (fJ6_stringSize_0f7a4 y10).getD 0) n3) ≤ ms then (hf_J4_append_bf812 (gc1 (x2 + (fJ6_stringSize_0f7a4 y10).getD 0) n3) (gc2 (x2 + (fJ6_stringSize_0f7a4 y10).getD 0) n3) y10 x2 n3 g4).bind fun z12 => bd (kc + (gc1 (x2 + (fJ6_stringSize_0f7a4 y10).getD 0) n3)) fun kc14 => bd (ks + (gc2 (x2 + (fJ6_stringSize_0f7a4 y10).getD 0) n3)) fun ks15 => if kc14 + (gc1 (z12.1 + 1) (z12.2.1)) ≤ mc ∧ ks15 + (gc2 (z12.1 + 1) (z12.2.1)) ≤ ms then (hf_J4_append_cf468 (gc1 (z12.1 + 1) (z12.2.1)) (gc2 (z12.1 + 1) (z12.2.1)) (44 : Int32) (z12.1) (z12.2.1) (z12.2.2)).bind fun z17 => bd (kc14 + (gc1 (z12.1 + 1) (z12.2.1))) fun kc19 => bd (ks15 + (gc2 (z12.1 + 1) (z12.2.1))) fun ks20 => obp (fX7_sightOf x1 (1 : Int32) u9) fun y22 u21 => if kc19 + (gc1 (z17.1 + (fJ6_stringSize_0f7a4 y22).getD 0) (z17.2.1)) ≤ mc ∧ ks20 + (gc2 (z17.1 + (fJ6_stringSize_0f7a4 y22).getD 0) (z17.2.1)) ≤ ms then (hf_J4_append_bf812 (gc1 (z17.1 + (fJ6_stringSize_0f7a4 y22).getD 0) (z17.2.1)) (gc2 (z17.1 + (fJ6_stringSize_0f7a4 y22).getD 0) (z17.2.1)) y22 (z17.1) (z17.2.1) (z17.2.2)).bind fun z24 => bd (kc19 + (gc1 (z17.1 + (fJ6_stringSize_0f7a4 y22).getD 0) (z17.2.1))) fun kc26 => bd (ks20 + (gc2 (z17.1 + (fJ6_stringSize_0f7a4 y22).getD 0) (z17.2.1))) fun ks27 => if kc26 + (gc1 (z24.1 + 1) (z24.2.1)) ≤ mc ∧ ks27 + (gc2 (z24.1 + 1) (z24.2.1)) ≤ ms then (hf_J4_append_cf468 (gc1 (z24.1 + 1) (z24.2.1)) (gc2 (z24.1 + 1) (z24.2.1)) (44 : Int32) (z24.1) (z24.2.1) (z24.2.2)).bind fun z29 => bd (kc26 + (gc1 (z24.1 + 1) (z24.2.1))) fun kc31 => bd (ks27 + (gc2 (z24.1 + 1) (z24.2.1))) fun ks32 => obp (fX7_sightOf x1 (2 : Int32) u21) fun y34 u33 => if kc31 + (gc1 (z29.1 + (fJ6_stringSize_0f7a4 y34).getD 0) (z29.2.1)) ≤ mc ∧ ks32 + (gc2 (z29.1 + (fJ6_stringSize_0f7a4 y34).getD 0) (z29.2.1)) ≤ ms then (hf_J4_append_bf812 (gc1 (z29.1 + (fJ6_stringSize_0f7a4 y34).getD 0) (z29.2.1)) (gc2 (z29.1 + (fJ6_stringSize_0f7a4 y34).getD 0) (z29.2.1)) y34 (z29.1) (z29.2.1) (z29.2.2)).bind fun z36 => bd (kc31 + (gc1 (z29.1 + (fJ6_stringSize_0f7a4 y34).getD 0) (z29.2.1))) fun kc38 => bd (ks32 + (gc2 (z29.1 + (fJ6_stringSize_0f7a4 y34).getD 0) (z29.2.1))) fun ks39 => if kc38 + (gc1 (z36.1 + 1) (z36.2.1)) ≤ mc ∧ ks39 + (gc2 (z36.1 + 1) (z36.2.1)) ≤ ms then (hf_J4_append_cf468 (gc1 (z36.1 + 1) (z36.2.1)) (gc2 (z36.1 + 1) (z36.2.1)) (59 : Int32) (z36.1) (z36.2.1) (z36.2.2)).bind fun z41 => bd (kc38 + (gc1 (z36.1 + 1) (z36.2.1))) fun kc43 => bd (ks39 + (gc2 (z36.1 + 1) (z36.2.1))) fun ks44 => bd ((x1 + 1 : Int32)) fun y45 => hf_L_told_104 mc ms n y45 (z41.1) (z41.2.1) (z41.2.2) u33 kc43 ks44 else none else none else none else none else none else none)
set_option maxRecDepth 100000 in
set_option maxHeartbeats 4000000 in
theorem hk_L_told_104 {ad adK adV : Nat → Nat} {tS tF : Nat} {tX sK sV : Nat → Nat} {p : Program} {l : Launch} {e : Env} {s : State} {m : MethodId} {args : Array Value} {below : List Frame} {meth : Method} {c : Code} {A : Nat → Prop} {D : va_G} {cI cF cC cS cO cB cZ : ClassId} {Q : State → Prop} {q0 qs qo qt qv qr qx ql : Nat → Nat} {qh : Nat → Nat → Nat} {mc : Nat} {ms : Nat} (C : vC (vE ad adK adV tS tF tX sK sV) p l s m args meth c A D (vT7 cI cF cC cS cO cB cZ) cL_told 3 RL) {r_n1 : Nat} {r_g2 : Nat → Int32} {u0 : vZ} (RET : ∀ (q : Nat → Nat) (kc ks : Nat) (pc : Nat) (lv : List (Nat × Value)), (kc ≤ mc ∧ ks ≤ ms) → decode cL_told pc = .ok (.areturn, 1) → vV p l e { frames := 7, cells := mc, slots := ms, locals := 194 } s m args below meth c A D 3 kc ks Q ([((q 0), .inr (0, [.ref (q 1), .int (0 : Int32), .int (0 : Int32), .int (0 : Int32)])), ((q 1), .inl (cB, r_n1, .inl (r_g2)))] ++ wX q0 qs qo qt qv qr qx ql ad qh cI cF cC cS cO u0) pc lv [.ref (q 0)]) : ∀ (n : Nat) (b0 : Nat) (b1 : Nat) (x1 : Int32) (x2 : Int32) (n3 : Nat) (g4 : Nat → Int32) (u : vZ) (kc : Nat) (ks : Nat), (kc ≤ mc ∧ ks ≤ ms) → hf_L_told_104 mc ms n x1 x2 n3 g4 u kc ks = some (r_n1, r_g2, u0) → vV p l e { frames := 7, cells := mc, slots := ms, locals := 194 } s m args below meth c A D 3 kc ks Q ([(b0, .inr (1, [.ref b1, .int (0 : Int32), .int (0 : Int32), .int x2])), (b1, .inl (cB, n3, .inl (g4)))] ++ wX q0 qs qo qt qv qr qx ql ad qh cI cF cC cS cO u) 104 [(0, .ref (q0 0)), (1, .ref b0), (2, .int x1)] [] := by
  intro n
  induction n with
  | zero => intro b0 b1 x1 x2 n3 g4 u kc ks hkc h; rw [hf_L_told_104] at h; cases h
  | succ n ih =>
    intro b0 b1 x1 x2 n3 g4 u kc ks hkc h
    rw [hf_L_told_104] at h
    refine vi_iload_n C 2 dL_told_104 rfl ?_
    refine vi_aload_n C 0 dL_told_105 rfl ?_
    refine vi_iconst (v := 3) C dL_told_106 (by decide) ?_
    obtain ⟨y2, u1, hgu1, h⟩ := ob_p h
    refine cY_i (As := [.int (3 : Int32)]) (rest := [.int x1]) (ud := u1) C 2 (mX7_account C.2.2.2.2.2.2.2.2.1 hgu1) 1 rfl tcX7_account tlL_37 tiX7_account tsX7_account rfl tnX7 tdX7_account ⟨Nat.le_of_ble_eq_true rfl, Nat.le_of_ble_eq_true rfl⟩ hkc rfl rfl (Nat.le_of_ble_eq_true rfl) dL_told_107 ?_
    refine vi_icmp_ge (tgt := 163) C dL_told_110 (by decide) (fun hc3 => ?_) (fun hc3 => ?_)
    · have h := ob_t h hc3
      refine vi_aload_n C 1 dL_told_163 rfl ?_
      obtain ⟨hz4, h⟩ := ob_ok h
      obtain ⟨z5, hgz5, h⟩ := ob_bd h
      refine vi_w C (w' := ([] ++ [(b0, .inr (1, [.ref b1, .int (0 : Int32), .int (0 : Int32), .int x2])), (b1, .inl (cB, n3, .inl (g4)))]) ++ wX q0 qs qo qt qv qr qx ql ad qh cI cF cC cS cO u1) rfl ?_
      refine vi_swp ?_
      refine g_cr C (g_runV (T := TJ4) (N := 4) (ci := 1) (fs := [.ref b1, .int (0 : Int32), .int (0 : Int32), .int x2]) (As := []) (rest := []) (w1 := ([] ++ wX q0 qs qo qt qv qr qx ql ad qh cI cF cC cS cO u1)) (wc := [(b0, .inr (1, [.ref b1, .int (0 : Int32), .int (0 : Int32), .int x2])), (b1, .inl (cB, n3, .inl (g4)))]) C (hm_J4_toString_0e30d (a0 := b0) (a1 := b1) (mc := (2)) (ms := (Int32.toNatClampNeg x2 + 4)) (f0_3 := x2) (n1 := n3) (g1 := g4) (r_n1 := z5.1) (r_g2 := z5.2) C.2.2.2.2.2.2.2.2.1 hgz5) 0 rfl tcJ4_toString_0e30d tlL_86 tiJ4_toString_0e30d tsJ4_toString_0e30d tnJ4 tdJ4_toString_0e30d ⟨Nat.le_of_ble_eq_true rfl, Nat.le_of_ble_eq_true rfl⟩ hz4 (0 + 101 + 0) rfl rfl rfl (Nat.le_of_ble_eq_true rfl) dL_told_164 rfl) rfl (fun q6 => ?_)
      refine vi_swp ?_
      refine vi_w C (w' := ([(b0, .inr (1, [.ref b1, .int (0 : Int32), .int (0 : Int32), .int x2])), (b1, .inl (cB, n3, .inl (g4))), ((q6 0), .inr (0, [.ref (q6 1), .int (0 : Int32), .int (0 : Int32), .int (0 : Int32)])), ((q6 1), .inl (cB, z5.1, .inl (z5.2)))] ++ wX q0 qs qo qt qv qr qx ql ad qh cI cF cC cS cO u1)) rfl ?_
      obtain ⟨kc7, ekc7, h⟩ := ob_nm h
      obtain ⟨ks8, eks8, h⟩ := ob_nm h
      refine vi_kk ekc7.symm eks8.symm ?_
      rw [← ekc7, ← eks8] at hz4
      refine vi_pickX (ex2 := [((q6 0), .inr (0, [.ref (q6 1), .int (0 : Int32), .int (0 : Int32), .int (0 : Int32)])), ((q6 1), .inl (cB, z5.1, .inl (z5.2)))]) [2, 3] (by decide) rfl ?_
      cases h
      exact RET (fun j => [(q6 0), (q6 1)].getD j 0) _ _ _ _ hz4 dL_told_167
    · have h := ob_f h hc3
      refine vi_aload_n C 1 dL_told_113 rfl ?_
      refine vi_aload_n C 0 dL_told_114 rfl ?_
      refine vi_iload_n C 2 dL_told_115 rfl ?_
      refine vi_iconst (v := 0) C dL_told_116 (by decide) ?_
      obtain ⟨y10, u9, hgu9, h⟩ := ob_p h
      refine cY_i (As := [.int x1, .int (0 : Int32)]) (rest := [.ref b0]) (ud := u9) C 2 (mX7_sightOf C.2.2.2.2.2.2.2.2.1 hgu9) 2 rfl tcX7_sightOf tlL_106 tiX7_sightOf tsX7_sightOf rfl tnX7 tdX7_sightOf ⟨Nat.le_of_ble_eq_true rfl, Nat.le_of_ble_eq_true rfl⟩ hkc rfl rfl (Nat.le_of_ble_eq_true rfl) dL_told_117 ?_
      obtain ⟨hz11, h⟩ := ob_ok h
      obtain ⟨z12, hgz12, h⟩ := ob_bd h
      refine vi_w C (w' := ([] ++ [(b0, .inr (1, [.ref b1, .int (0 : Int32), .int (0 : Int32), .int x2])), (b1, .inl (cB, n3, .inl (g4)))]) ++ wX q0 qs qo qt qv qr qx ql ad qh cI cF cC cS cO u9) rfl ?_
      refine vi_swp ?_
      refine g_cr C (g_runV (T := TJ4) (N := 4) (ci := 1) (fs := [.ref b1, .int (0 : Int32), .int (0 : Int32), .int x2]) (As := [.int y10]) (rest := []) (w1 := ([] ++ wX q0 qs qo qt qv qr qx ql ad qh cI cF cC cS cO u9)) (wc := [(b0, .inr (1, [.ref b1, .int (0 : Int32), .int (0 : Int32), .int x2])), (b1, .inl (cB, n3, .inl (g4)))]) C (hm_J4_append_bf812 (a0 := b0) (a1 := b1) (mc := (gc1 (x2 + (fJ6_stringSize_0f7a4 y10).getD 0) n3)) (ms := (gc2 (x2 + (fJ6_stringSize_0f7a4 y10).getD 0) n3)) (x1 := y10) (f0_3 := x2) (n1 := n3) (g1 := g4) (r_o1 := z12.1) (r_n2 := z12.2.1) (r_g3 := z12.2.2) C.2.2.2.2.2.2.2.2.1 hgz12) 1 rfl tcJ4_append_bf812 tlL_90 tiJ4_append_bf812 tsJ4_append_bf812 tnJ4 tdJ4_append_bf812 ⟨Nat.le_of_ble_eq_true rfl, Nat.le_of_ble_eq_true rfl⟩ hz11 (0 + 101 + 0) rfl rfl rfl (Nat.le_of_ble_eq_true rfl) dL_told_120 rfl) rfl (fun q13 => ?_)
      refine vi_swp ?_
      refine vi_w C (w' := ([(b0, .inr (1, [.ref (q13 0), .int (0 : Int32), .int (0 : Int32), .int (z12.1)])), ((q13 0), .inl (cB, z12.2.1, .inl (z12.2.2)))] ++ wX q0 qs qo qt qv qr qx ql ad qh cI cF cC cS cO u9)) rfl ?_
      obtain ⟨kc14, ekc14, h⟩ := ob_nm h
      obtain ⟨ks15, eks15, h⟩ := ob_nm h
      refine vi_kk ekc14.symm eks15.symm ?_
      rw [← ekc14, ← eks15] at hz11
      refine vi_bipush (v := 44) C dL_told_123 (by decide) ?_
      obtain ⟨hz16, h⟩ := ob_ok h
      obtain ⟨z17, hgz17, h⟩ := ob_bd h
      refine vi_w C (w' := ([] ++ [(b0, .inr (1, [.ref (q13 0), .int (0 : Int32), .int (0 : Int32), .int (z12.1)])), ((q13 0), .inl (cB, z12.2.1, .inl (z12.2.2)))]) ++ wX q0 qs qo qt qv qr qx ql ad qh cI cF cC cS cO u9) rfl ?_
      refine vi_swp ?_
      refine g_cr C (g_runV (T := TJ4) (N := 4) (ci := 1) (fs := [.ref (q13 0), .int (0 : Int32), .int (0 : Int32), .int (z12.1)]) (As := [.int (44 : Int32)]) (rest := []) (w1 := ([] ++ wX q0 qs qo qt qv qr qx ql ad qh cI cF cC cS cO u9)) (wc := [(b0, .inr (1, [.ref (q13 0), .int (0 : Int32), .int (0 : Int32), .int (z12.1)])), ((q13 0), .inl (cB, z12.2.1, .inl (z12.2.2)))]) C (hm_J4_append_cf468 (a0 := b0) (a1 := (q13 0)) (mc := (gc1 (z12.1 + 1) (z12.2.1))) (ms := (gc2 (z12.1 + 1) (z12.2.1))) (x1 := (44 : Int32)) (f0_3 := (z12.1)) (n1 := (z12.2.1)) (g1 := (z12.2.2)) (r_o1 := z17.1) (r_n2 := z17.2.1) (r_g3 := z17.2.2) C.2.2.2.2.2.2.2.2.1 hgz17) 1 rfl tcJ4_append_cf468 tlL_83 tiJ4_append_cf468 tsJ4_append_cf468 tnJ4 tdJ4_append_cf468 ⟨Nat.le_of_ble_eq_true rfl, Nat.le_of_ble_eq_true rfl⟩ hz16 (0 + 101 + 0) rfl rfl rfl (Nat.le_of_ble_eq_true rfl) dL_told_125 rfl) rfl (fun q18 => ?_)
      refine vi_swp ?_
      refine vi_w C (w' := ([(b0, .inr (1, [.ref (q18 0), .int (0 : Int32), .int (0 : Int32), .int (z17.1)])), ((q18 0), .inl (cB, z17.2.1, .inl (z17.2.2)))] ++ wX q0 qs qo qt qv qr qx ql ad qh cI cF cC cS cO u9)) rfl ?_
      obtain ⟨kc19, ekc19, h⟩ := ob_nm h
      obtain ⟨ks20, eks20, h⟩ := ob_nm h
      refine vi_kk ekc19.symm eks20.symm ?_
      rw [← ekc19, ← eks20] at hz16
      refine vi_aload_n C 0 dL_told_128 rfl ?_
      refine vi_iload_n C 2 dL_told_129 rfl ?_
      refine vi_iconst (v := 1) C dL_told_130 (by decide) ?_
      obtain ⟨y22, u21, hgu21, h⟩ := ob_p h
      refine cY_i (As := [.int x1, .int (1 : Int32)]) (rest := [.ref b0]) (ud := u21) C 2 (mX7_sightOf C.2.2.2.2.2.2.2.2.1 hgu21) 2 rfl tcX7_sightOf tlL_106 tiX7_sightOf tsX7_sightOf rfl tnX7 tdX7_sightOf ⟨Nat.le_of_ble_eq_true rfl, Nat.le_of_ble_eq_true rfl⟩ hz16 rfl rfl (Nat.le_of_ble_eq_true rfl) dL_told_131 ?_
      obtain ⟨hz23, h⟩ := ob_ok h
      obtain ⟨z24, hgz24, h⟩ := ob_bd h
      refine vi_w C (w' := ([] ++ [(b0, .inr (1, [.ref (q18 0), .int (0 : Int32), .int (0 : Int32), .int (z17.1)])), ((q18 0), .inl (cB, z17.2.1, .inl (z17.2.2)))]) ++ wX q0 qs qo qt qv qr qx ql ad qh cI cF cC cS cO u21) rfl ?_
      refine vi_swp ?_
      refine g_cr C (g_runV (T := TJ4) (N := 4) (ci := 1) (fs := [.ref (q18 0), .int (0 : Int32), .int (0 : Int32), .int (z17.1)]) (As := [.int y22]) (rest := []) (w1 := ([] ++ wX q0 qs qo qt qv qr qx ql ad qh cI cF cC cS cO u21)) (wc := [(b0, .inr (1, [.ref (q18 0), .int (0 : Int32), .int (0 : Int32), .int (z17.1)])), ((q18 0), .inl (cB, z17.2.1, .inl (z17.2.2)))]) C (hm_J4_append_bf812 (a0 := b0) (a1 := (q18 0)) (mc := (gc1 (z17.1 + (fJ6_stringSize_0f7a4 y22).getD 0) (z17.2.1))) (ms := (gc2 (z17.1 + (fJ6_stringSize_0f7a4 y22).getD 0) (z17.2.1))) (x1 := y22) (f0_3 := (z17.1)) (n1 := (z17.2.1)) (g1 := (z17.2.2)) (r_o1 := z24.1) (r_n2 := z24.2.1) (r_g3 := z24.2.2) C.2.2.2.2.2.2.2.2.1 hgz24) 1 rfl tcJ4_append_bf812 tlL_90 tiJ4_append_bf812 tsJ4_append_bf812 tnJ4 tdJ4_append_bf812 ⟨Nat.le_of_ble_eq_true rfl, Nat.le_of_ble_eq_true rfl⟩ hz23 (0 + 101 + 0) rfl rfl rfl (Nat.le_of_ble_eq_true rfl) dL_told_134 rfl) rfl (fun q25 => ?_)
      refine vi_swp ?_
      refine vi_w C (w' := ([(b0, .inr (1, [.ref (q25 0), .int (0 : Int32), .int (0 : Int32), .int (z24.1)])), ((q25 0), .inl (cB, z24.2.1, .inl (z24.2.2)))] ++ wX q0 qs qo qt qv qr qx ql ad qh cI cF cC cS cO u21)) rfl ?_
      obtain ⟨kc26, ekc26, h⟩ := ob_nm h
      obtain ⟨ks27, eks27, h⟩ := ob_nm h
      refine vi_kk ekc26.symm eks27.symm ?_
      rw [← ekc26, ← eks27] at hz23
      refine vi_bipush (v := 44) C dL_told_137 (by decide) ?_
      obtain ⟨hz28, h⟩ := ob_ok h
      obtain ⟨z29, hgz29, h⟩ := ob_bd h
      refine vi_w C (w' := ([] ++ [(b0, .inr (1, [.ref (q25 0), .int (0 : Int32), .int (0 : Int32), .int (z24.1)])), ((q25 0), .inl (cB, z24.2.1, .inl (z24.2.2)))]) ++ wX q0 qs qo qt qv qr qx ql ad qh cI cF cC cS cO u21) rfl ?_
      refine vi_swp ?_
      refine g_cr C (g_runV (T := TJ4) (N := 4) (ci := 1) (fs := [.ref (q25 0), .int (0 : Int32), .int (0 : Int32), .int (z24.1)]) (As := [.int (44 : Int32)]) (rest := []) (w1 := ([] ++ wX q0 qs qo qt qv qr qx ql ad qh cI cF cC cS cO u21)) (wc := [(b0, .inr (1, [.ref (q25 0), .int (0 : Int32), .int (0 : Int32), .int (z24.1)])), ((q25 0), .inl (cB, z24.2.1, .inl (z24.2.2)))]) C (hm_J4_append_cf468 (a0 := b0) (a1 := (q25 0)) (mc := (gc1 (z24.1 + 1) (z24.2.1))) (ms := (gc2 (z24.1 + 1) (z24.2.1))) (x1 := (44 : Int32)) (f0_3 := (z24.1)) (n1 := (z24.2.1)) (g1 := (z24.2.2)) (r_o1 := z29.1) (r_n2 := z29.2.1) (r_g3 := z29.2.2) C.2.2.2.2.2.2.2.2.1 hgz29) 1 rfl tcJ4_append_cf468 tlL_83 tiJ4_append_cf468 tsJ4_append_cf468 tnJ4 tdJ4_append_cf468 ⟨Nat.le_of_ble_eq_true rfl, Nat.le_of_ble_eq_true rfl⟩ hz28 (0 + 101 + 0) rfl rfl rfl (Nat.le_of_ble_eq_true rfl) dL_told_139 rfl) rfl (fun q30 => ?_)
      refine vi_swp ?_
      refine vi_w C (w' := ([(b0, .inr (1, [.ref (q30 0), .int (0 : Int32), .int (0 : Int32), .int (z29.1)])), ((q30 0), .inl (cB, z29.2.1, .inl (z29.2.2)))] ++ wX q0 qs qo qt qv qr qx ql ad qh cI cF cC cS cO u21)) rfl ?_
      obtain ⟨kc31, ekc31, h⟩ := ob_nm h
      obtain ⟨ks32, eks32, h⟩ := ob_nm h
      refine vi_kk ekc31.symm eks32.symm ?_
      rw [← ekc31, ← eks32] at hz28
      refine vi_aload_n C 0 dL_told_142 rfl ?_
      refine vi_iload_n C 2 dL_told_143 rfl ?_
      refine vi_iconst (v := 2) C dL_told_144 (by decide) ?_
      obtain ⟨y34, u33, hgu33, h⟩ := ob_p h
      refine cY_i (As := [.int x1, .int (2 : Int32)]) (rest := [.ref b0]) (ud := u33) C 2 (mX7_sightOf C.2.2.2.2.2.2.2.2.1 hgu33) 2 rfl tcX7_sightOf tlL_106 tiX7_sightOf tsX7_sightOf rfl tnX7 tdX7_sightOf ⟨Nat.le_of_ble_eq_true rfl, Nat.le_of_ble_eq_true rfl⟩ hz28 rfl rfl (Nat.le_of_ble_eq_true rfl) dL_told_145 ?_
      obtain ⟨hz35, h⟩ := ob_ok h
      obtain ⟨z36, hgz36, h⟩ := ob_bd h
      refine vi_w C (w' := ([] ++ [(b0, .inr (1, [.ref (q30 0), .int (0 : Int32), .int (0 : Int32), .int (z29.1)])), ((q30 0), .inl (cB, z29.2.1, .inl (z29.2.2)))]) ++ wX q0 qs qo qt qv qr qx ql ad qh cI cF cC cS cO u33) rfl ?_
      refine vi_swp ?_
      refine g_cr C (g_runV (T := TJ4) (N := 4) (ci := 1) (fs := [.ref (q30 0), .int (0 : Int32), .int (0 : Int32), .int (z29.1)]) (As := [.int y34]) (rest := []) (w1 := ([] ++ wX q0 qs qo qt qv qr qx ql ad qh cI cF cC cS cO u33)) (wc := [(b0, .inr (1, [.ref (q30 0), .int (0 : Int32), .int (0 : Int32), .int (z29.1)])), ((q30 0), .inl (cB, z29.2.1, .inl (z29.2.2)))]) C (hm_J4_append_bf812 (a0 := b0) (a1 := (q30 0)) (mc := (gc1 (z29.1 + (fJ6_stringSize_0f7a4 y34).getD 0) (z29.2.1))) (ms := (gc2 (z29.1 + (fJ6_stringSize_0f7a4 y34).getD 0) (z29.2.1))) (x1 := y34) (f0_3 := (z29.1)) (n1 := (z29.2.1)) (g1 := (z29.2.2)) (r_o1 := z36.1) (r_n2 := z36.2.1) (r_g3 := z36.2.2) C.2.2.2.2.2.2.2.2.1 hgz36) 1 rfl tcJ4_append_bf812 tlL_90 tiJ4_append_bf812 tsJ4_append_bf812 tnJ4 tdJ4_append_bf812 ⟨Nat.le_of_ble_eq_true rfl, Nat.le_of_ble_eq_true rfl⟩ hz35 (0 + 101 + 0) rfl rfl rfl (Nat.le_of_ble_eq_true rfl) dL_told_148 rfl) rfl (fun q37 => ?_)
      refine vi_swp ?_
      refine vi_w C (w' := ([(b0, .inr (1, [.ref (q37 0), .int (0 : Int32), .int (0 : Int32), .int (z36.1)])), ((q37 0), .inl (cB, z36.2.1, .inl (z36.2.2)))] ++ wX q0 qs qo qt qv qr qx ql ad qh cI cF cC cS cO u33)) rfl ?_
      obtain ⟨kc38, ekc38, h⟩ := ob_nm h
      obtain ⟨ks39, eks39, h⟩ := ob_nm h
      refine vi_kk ekc38.symm eks39.symm ?_
      rw [← ekc38, ← eks39] at hz35
      refine vi_bipush (v := 59) C dL_told_151 (by decide) ?_
      obtain ⟨hz40, h⟩ := ob_ok h
      obtain ⟨z41, hgz41, h⟩ := ob_bd h
      refine vi_w C (w' := ([] ++ [(b0, .inr (1, [.ref (q37 0), .int (0 : Int32), .int (0 : Int32), .int (z36.1)])), ((q37 0), .inl (cB, z36.2.1, .inl (z36.2.2)))]) ++ wX q0 qs qo qt qv qr qx ql ad qh cI cF cC cS cO u33) rfl ?_
      refine vi_swp ?_
      refine g_cr C (g_runV (T := TJ4) (N := 4) (ci := 1) (fs := [.ref (q37 0), .int (0 : Int32), .int (0 : Int32), .int (z36.1)]) (As := [.int (59 : Int32)]) (rest := []) (w1 := ([] ++ wX q0 qs qo qt qv qr qx ql ad qh cI cF cC cS cO u33)) (wc := [(b0, .inr (1, [.ref (q37 0), .int (0 : Int32), .int (0 : Int32), .int (z36.1)])), ((q37 0), .inl (cB, z36.2.1, .inl (z36.2.2)))]) C (hm_J4_append_cf468 (a0 := b0) (a1 := (q37 0)) (mc := (gc1 (z36.1 + 1) (z36.2.1))) (ms := (gc2 (z36.1 + 1) (z36.2.1))) (x1 := (59 : Int32)) (f0_3 := (z36.1)) (n1 := (z36.2.1)) (g1 := (z36.2.2)) (r_o1 := z41.1) (r_n2 := z41.2.1) (r_g3 := z41.2.2) C.2.2.2.2.2.2.2.2.1 hgz41) 1 rfl tcJ4_append_cf468 tlL_83 tiJ4_append_cf468 tsJ4_append_cf468 tnJ4 tdJ4_append_cf468 ⟨Nat.le_of_ble_eq_true rfl, Nat.le_of_ble_eq_true rfl⟩ hz40 (0 + 101 + 0) rfl rfl rfl (Nat.le_of_ble_eq_true rfl) dL_told_153 rfl) rfl (fun q42 => ?_)
      refine vi_swp ?_
      refine vi_w C (w' := ([(b0, .inr (1, [.ref (q42 0), .int (0 : Int32), .int (0 : Int32), .int (z41.1)])), ((q42 0), .inl (cB, z41.2.1, .inl (z41.2.2)))] ++ wX q0 qs qo qt qv qr qx ql ad qh cI cF cC cS cO u33)) rfl ?_
      obtain ⟨kc43, ekc43, h⟩ := ob_nm h
      obtain ⟨ks44, eks44, h⟩ := ob_nm h
      refine vi_kk ekc43.symm eks44.symm ?_
      rw [← ekc43, ← eks44] at hz40
      refine vi_pop C dL_told_156 rfl ?_
      obtain ⟨y45, ey45, h⟩ := ob_nm h
      refine vi_iinc (v := y45) (lv' := [(2, .int y45), (0, .ref (q0 0)), (1, .ref b0)]) C 2 dL_told_157 rfl (by rw [ey45]; rfl) (by decide) rfl ?_
      refine vi_goto (tgt := 104) C dL_told_160 (by decide) ?_
      refine vi_sub C [1, 2, 0] rfl ?_
      exact ih _ _ _ _ _ _ _ _ _ hz40 h
def hf_L_told_75 (mc : Nat) (ms : Nat) : Nat → Int32 → Int32 → Nat → (Nat → Int32) → vZ → Nat → Nat → Option (Nat × (Nat → Int32) × vZ)
  | 0, _, _, _, _, _, _, _ => none
  | n + 1, x1, x2, n3, g4, u, kc, ks => (if (4 : Int32) ≤ x1 then hf_L_told_104 mc ms vF (0 : Int32) x2 n3 g4 u kc ks else obp (fX7_watchOf x1 (0 : Int32) u) fun y3 u2 => if kc + (gc1 (x2 + (fJ6_stringSize_0f7a4 y3).getD 0) n3) ≤ mc ∧ ks + (gc2 (x2 + (fJ6_stringSize_0f7a4 y3).getD 0) n3) ≤ ms then (hf_J4_append_bf812 (gc1 (x2 + (fJ6_stringSize_0f7a4 y3).getD 0) n3) (gc2 (x2 + (fJ6_stringSize_0f7a4 y3).getD 0) n3) y3 x2 n3 g4).bind fun z5 => bd (kc + (gc1 (x2 + (fJ6_stringSize_0f7a4 y3).getD 0) n3)) fun kc7 => bd (ks + (gc2 (x2 + (fJ6_stringSize_0f7a4 y3).getD 0) n3)) fun ks8 => if kc7 + (gc1 (z5.1 + 1) (z5.2.1)) ≤ mc ∧ ks8 + (gc2 (z5.1 + 1) (z5.2.1)) ≤ ms then (hf_J4_append_cf468 (gc1 (z5.1 + 1) (z5.2.1)) (gc2 (z5.1 + 1) (z5.2.1)) (44 : Int32) (z5.1) (z5.2.1) (z5.2.2)).bind fun z10 => bd (kc7 + (gc1 (z5.1 + 1) (z5.2.1))) fun kc12 => bd (ks8 + (gc2 (z5.1 + 1) (z5.2.1))) fun ks13 => bd ((x1 + 1 : Int32)) fun y14 => hf_L_told_75 mc ms n y14 (z10.1) (z10.2.1) (z10.2.2) u2 kc12 ks13 else none else none)
set_option maxRecDepth 100000 in
set_option maxHeartbeats 4000000 in
theorem hk_L_told_75 {ad adK adV : Nat → Nat} {tS tF : Nat} {tX sK sV : Nat → Nat} {p : Program} {l : Launch} {e : Env} {s : State} {m : MethodId} {args : Array Value} {below : List Frame} {meth : Method} {c : Code} {A : Nat → Prop} {D : va_G} {cI cF cC cS cO cB cZ : ClassId} {Q : State → Prop} {q0 qs qo qt qv qr qx ql : Nat → Nat} {qh : Nat → Nat → Nat} {mc : Nat} {ms : Nat} (C : vC (vE ad adK adV tS tF tX sK sV) p l s m args meth c A D (vT7 cI cF cC cS cO cB cZ) cL_told 3 RL) {r_n1 : Nat} {r_g2 : Nat → Int32} {u0 : vZ} (RET : ∀ (q : Nat → Nat) (kc ks : Nat) (pc : Nat) (lv : List (Nat × Value)), (kc ≤ mc ∧ ks ≤ ms) → decode cL_told pc = .ok (.areturn, 1) → vV p l e { frames := 7, cells := mc, slots := ms, locals := 194 } s m args below meth c A D 3 kc ks Q ([((q 0), .inr (0, [.ref (q 1), .int (0 : Int32), .int (0 : Int32), .int (0 : Int32)])), ((q 1), .inl (cB, r_n1, .inl (r_g2)))] ++ wX q0 qs qo qt qv qr qx ql ad qh cI cF cC cS cO u0) pc lv [.ref (q 0)]) : ∀ (n : Nat) (b0 : Nat) (b1 : Nat) (x1 : Int32) (x2 : Int32) (n3 : Nat) (g4 : Nat → Int32) (u : vZ) (kc : Nat) (ks : Nat), (kc ≤ mc ∧ ks ≤ ms) → hf_L_told_75 mc ms n x1 x2 n3 g4 u kc ks = some (r_n1, r_g2, u0) → vV p l e { frames := 7, cells := mc, slots := ms, locals := 194 } s m args below meth c A D 3 kc ks Q ([(b0, .inr (1, [.ref b1, .int (0 : Int32), .int (0 : Int32), .int x2])), (b1, .inl (cB, n3, .inl (g4)))] ++ wX q0 qs qo qt qv qr qx ql ad qh cI cF cC cS cO u) 75 [(0, .ref (q0 0)), (1, .ref b0), (2, .int x1)] [] := by
  intro n
  induction n with
  | zero => intro b0 b1 x1 x2 n3 g4 u kc ks hkc h; rw [hf_L_told_75] at h; cases h
  | succ n ih =>
    intro b0 b1 x1 x2 n3 g4 u kc ks hkc h
    rw [hf_L_told_75] at h
    refine vi_iload_n C 2 dL_told_75 rfl ?_
    refine vi_iconst (v := 4) C dL_told_76 (by decide) ?_
    refine vi_icmp_ge (tgt := 102) C dL_told_77 (by decide) (fun hc1 => ?_) (fun hc1 => ?_)
    · have h := ob_t h hc1
      refine vi_iconst (v := 0) C dL_told_102 (by decide) ?_
      refine vi_istore_n (lv' := [(2, .int (0 : Int32)), (0, .ref (q0 0)), (1, .ref b0)]) C dL_told_103 rfl (by decide) rfl ?_
      refine vi_sub C [1, 2, 0] rfl ?_
      exact hk_L_told_104 C RET  vF _ _ _ _ _ _ _ _ _ hkc h
    · have h := ob_f h hc1
      refine vi_aload_n C 1 dL_told_80 rfl ?_
      refine vi_aload_n C 0 dL_told_81 rfl ?_
      refine vi_iload_n C 2 dL_told_82 rfl ?_
      refine vi_iconst (v := 0) C dL_told_83 (by decide) ?_
      obtain ⟨y3, u2, hgu2, h⟩ := ob_p h
      refine cY_i (As := [.int x1, .int (0 : Int32)]) (rest := [.ref b0]) (ud := u2) C 2 (mX7_watchOf C.2.2.2.2.2.2.2.2.1 hgu2) 2 rfl tcX7_watchOf tlL_103 tiX7_watchOf tsX7_watchOf rfl tnX7 tdX7_watchOf ⟨Nat.le_of_ble_eq_true rfl, Nat.le_of_ble_eq_true rfl⟩ hkc rfl rfl (Nat.le_of_ble_eq_true rfl) dL_told_84 ?_
      obtain ⟨hz4, h⟩ := ob_ok h
      obtain ⟨z5, hgz5, h⟩ := ob_bd h
      refine vi_w C (w' := ([] ++ [(b0, .inr (1, [.ref b1, .int (0 : Int32), .int (0 : Int32), .int x2])), (b1, .inl (cB, n3, .inl (g4)))]) ++ wX q0 qs qo qt qv qr qx ql ad qh cI cF cC cS cO u2) rfl ?_
      refine vi_swp ?_
      refine g_cr C (g_runV (T := TJ4) (N := 4) (ci := 1) (fs := [.ref b1, .int (0 : Int32), .int (0 : Int32), .int x2]) (As := [.int y3]) (rest := []) (w1 := ([] ++ wX q0 qs qo qt qv qr qx ql ad qh cI cF cC cS cO u2)) (wc := [(b0, .inr (1, [.ref b1, .int (0 : Int32), .int (0 : Int32), .int x2])), (b1, .inl (cB, n3, .inl (g4)))]) C (hm_J4_append_bf812 (a0 := b0) (a1 := b1) (mc := (gc1 (x2 + (fJ6_stringSize_0f7a4 y3).getD 0) n3)) (ms := (gc2 (x2 + (fJ6_stringSize_0f7a4 y3).getD 0) n3)) (x1 := y3) (f0_3 := x2) (n1 := n3) (g1 := g4) (r_o1 := z5.1) (r_n2 := z5.2.1) (r_g3 := z5.2.2) C.2.2.2.2.2.2.2.2.1 hgz5) 1 rfl tcJ4_append_bf812 tlL_90 tiJ4_append_bf812 tsJ4_append_bf812 tnJ4 tdJ4_append_bf812 ⟨Nat.le_of_ble_eq_true rfl, Nat.le_of_ble_eq_true rfl⟩ hz4 (0 + 101 + 0) rfl rfl rfl (Nat.le_of_ble_eq_true rfl) dL_told_87 rfl) rfl (fun q6 => ?_)
      refine vi_swp ?_
      refine vi_w C (w' := ([(b0, .inr (1, [.ref (q6 0), .int (0 : Int32), .int (0 : Int32), .int (z5.1)])), ((q6 0), .inl (cB, z5.2.1, .inl (z5.2.2)))] ++ wX q0 qs qo qt qv qr qx ql ad qh cI cF cC cS cO u2)) rfl ?_
      obtain ⟨kc7, ekc7, h⟩ := ob_nm h
      obtain ⟨ks8, eks8, h⟩ := ob_nm h
      refine vi_kk ekc7.symm eks8.symm ?_
      rw [← ekc7, ← eks8] at hz4
      refine vi_bipush (v := 44) C dL_told_90 (by decide) ?_
      obtain ⟨hz9, h⟩ := ob_ok h
      obtain ⟨z10, hgz10, h⟩ := ob_bd h
      refine vi_w C (w' := ([] ++ [(b0, .inr (1, [.ref (q6 0), .int (0 : Int32), .int (0 : Int32), .int (z5.1)])), ((q6 0), .inl (cB, z5.2.1, .inl (z5.2.2)))]) ++ wX q0 qs qo qt qv qr qx ql ad qh cI cF cC cS cO u2) rfl ?_
      refine vi_swp ?_
      refine g_cr C (g_runV (T := TJ4) (N := 4) (ci := 1) (fs := [.ref (q6 0), .int (0 : Int32), .int (0 : Int32), .int (z5.1)]) (As := [.int (44 : Int32)]) (rest := []) (w1 := ([] ++ wX q0 qs qo qt qv qr qx ql ad qh cI cF cC cS cO u2)) (wc := [(b0, .inr (1, [.ref (q6 0), .int (0 : Int32), .int (0 : Int32), .int (z5.1)])), ((q6 0), .inl (cB, z5.2.1, .inl (z5.2.2)))]) C (hm_J4_append_cf468 (a0 := b0) (a1 := (q6 0)) (mc := (gc1 (z5.1 + 1) (z5.2.1))) (ms := (gc2 (z5.1 + 1) (z5.2.1))) (x1 := (44 : Int32)) (f0_3 := (z5.1)) (n1 := (z5.2.1)) (g1 := (z5.2.2)) (r_o1 := z10.1) (r_n2 := z10.2.1) (r_g3 := z10.2.2) C.2.2.2.2.2.2.2.2.1 hgz10) 1 rfl tcJ4_append_cf468 tlL_83 tiJ4_append_cf468 tsJ4_append_cf468 tnJ4 tdJ4_append_cf468 ⟨Nat.le_of_ble_eq_true rfl, Nat.le_of_ble_eq_true rfl⟩ hz9 (0 + 101 + 0) rfl rfl rfl (Nat.le_of_ble_eq_true rfl) dL_told_92 rfl) rfl (fun q11 => ?_)
      refine vi_swp ?_
      refine vi_w C (w' := ([(b0, .inr (1, [.ref (q11 0), .int (0 : Int32), .int (0 : Int32), .int (z10.1)])), ((q11 0), .inl (cB, z10.2.1, .inl (z10.2.2)))] ++ wX q0 qs qo qt qv qr qx ql ad qh cI cF cC cS cO u2)) rfl ?_
      obtain ⟨kc12, ekc12, h⟩ := ob_nm h
      obtain ⟨ks13, eks13, h⟩ := ob_nm h
      refine vi_kk ekc12.symm eks13.symm ?_
      rw [← ekc12, ← eks13] at hz9
      refine vi_pop C dL_told_95 rfl ?_
      obtain ⟨y14, ey14, h⟩ := ob_nm h
      refine vi_iinc (v := y14) (lv' := [(2, .int y14), (0, .ref (q0 0)), (1, .ref b0)]) C 2 dL_told_96 rfl (by rw [ey14]; rfl) (by decide) rfl ?_
      refine vi_goto (tgt := 75) C dL_told_99 (by decide) ?_
      refine vi_sub C [1, 2, 0] rfl ?_
      exact ih _ _ _ _ _ _ _ _ _ hz9 h
def hf_L_told_39 (mc : Nat) (ms : Nat) : Nat → Int32 → Int32 → Nat → (Nat → Int32) → vZ → Nat → Nat → Option (Nat × (Nat → Int32) × vZ)
  | 0, _, _, _, _, _, _, _ => none
  | n + 1, x1, x2, n3, g4, u, kc, ks => obp (fX7_account (0 : Int32) u) fun y2 u1 => (if y2 ≤ x1 then hf_L_told_75 mc ms vF (0 : Int32) x2 n3 g4 u1 kc ks else obp (fX7_write x1 u1) fun y5 u4 => if kc + (20) ≤ mc ∧ ks + (600) ≤ ms then (hf_L_line (20) (600) y5 u4).bind fun z7 => bd (kc + (20)) fun kc9 => bd (ks + (600)) fun ks10 => if kc9 + (gc1 (x2 + Int32.ofNat (z7.1)) n3) ≤ mc ∧ ks10 + (gc2 (x2 + Int32.ofNat (z7.1)) n3) ≤ ms then (hf_J4_append_15ec4 (gc1 (x2 + Int32.ofNat (z7.1)) n3) (gc2 (x2 + Int32.ofNat (z7.1)) n3) (z7.1) (z7.2.1) x2 n3 g4).bind fun z12 => bd (kc9 + (gc1 (x2 + Int32.ofNat (z7.1)) n3)) fun kc14 => bd (ks10 + (gc2 (x2 + Int32.ofNat (z7.1)) n3)) fun ks15 => if kc14 + (gc1 (z12.1 + 1) (z12.2.1)) ≤ mc ∧ ks15 + (gc2 (z12.1 + 1) (z12.2.1)) ≤ ms then (hf_J4_append_cf468 (gc1 (z12.1 + 1) (z12.2.1)) (gc2 (z12.1 + 1) (z12.2.1)) (59 : Int32) (z12.1) (z12.2.1) (z12.2.2)).bind fun z17 => bd (kc14 + (gc1 (z12.1 + 1) (z12.2.1))) fun kc19 => bd (ks15 + (gc2 (z12.1 + 1) (z12.2.1))) fun ks20 => bd ((x1 + 1 : Int32)) fun y21 => hf_L_told_39 mc ms n y21 (z17.1) (z17.2.1) (z17.2.2) z7.2.2 kc19 ks20 else none else none else none)
set_option maxRecDepth 100000 in
set_option maxHeartbeats 4000000 in
theorem hk_L_told_39 {ad adK adV : Nat → Nat} {tS tF : Nat} {tX sK sV : Nat → Nat} {p : Program} {l : Launch} {e : Env} {s : State} {m : MethodId} {args : Array Value} {below : List Frame} {meth : Method} {c : Code} {A : Nat → Prop} {D : va_G} {cI cF cC cS cO cB cZ : ClassId} {Q : State → Prop} {q0 qs qo qt qv qr qx ql : Nat → Nat} {qh : Nat → Nat → Nat} {mc : Nat} {ms : Nat} (C : vC (vE ad adK adV tS tF tX sK sV) p l s m args meth c A D (vT7 cI cF cC cS cO cB cZ) cL_told 3 RL) {r_n1 : Nat} {r_g2 : Nat → Int32} {u0 : vZ} (RET : ∀ (q : Nat → Nat) (kc ks : Nat) (pc : Nat) (lv : List (Nat × Value)), (kc ≤ mc ∧ ks ≤ ms) → decode cL_told pc = .ok (.areturn, 1) → vV p l e { frames := 7, cells := mc, slots := ms, locals := 194 } s m args below meth c A D 3 kc ks Q ([((q 0), .inr (0, [.ref (q 1), .int (0 : Int32), .int (0 : Int32), .int (0 : Int32)])), ((q 1), .inl (cB, r_n1, .inl (r_g2)))] ++ wX q0 qs qo qt qv qr qx ql ad qh cI cF cC cS cO u0) pc lv [.ref (q 0)]) : ∀ (n : Nat) (b0 : Nat) (b1 : Nat) (x1 : Int32) (x2 : Int32) (n3 : Nat) (g4 : Nat → Int32) (u : vZ) (kc : Nat) (ks : Nat), (kc ≤ mc ∧ ks ≤ ms) → hf_L_told_39 mc ms n x1 x2 n3 g4 u kc ks = some (r_n1, r_g2, u0) → vV p l e { frames := 7, cells := mc, slots := ms, locals := 194 } s m args below meth c A D 3 kc ks Q ([(b0, .inr (1, [.ref b1, .int (0 : Int32), .int (0 : Int32), .int x2])), (b1, .inl (cB, n3, .inl (g4)))] ++ wX q0 qs qo qt qv qr qx ql ad qh cI cF cC cS cO u) 39 [(0, .ref (q0 0)), (1, .ref b0), (2, .int x1)] [] := by
  intro n
  induction n with
  | zero => intro b0 b1 x1 x2 n3 g4 u kc ks hkc h; rw [hf_L_told_39] at h; cases h
  | succ n ih =>
    intro b0 b1 x1 x2 n3 g4 u kc ks hkc h
    rw [hf_L_told_39] at h
    refine vi_iload_n C 2 dL_told_39 rfl ?_
    refine vi_aload_n C 0 dL_told_40 rfl ?_
    refine vi_iconst (v := 0) C dL_told_41 (by decide) ?_
    obtain ⟨y2, u1, hgu1, h⟩ := ob_p h
    refine cY_i (As := [.int (0 : Int32)]) (rest := [.int x1]) (ud := u1) C 2 (mX7_account C.2.2.2.2.2.2.2.2.1 hgu1) 1 rfl tcX7_account tlL_37 tiX7_account tsX7_account rfl tnX7 tdX7_account ⟨Nat.le_of_ble_eq_true rfl, Nat.le_of_ble_eq_true rfl⟩ hkc rfl rfl (Nat.le_of_ble_eq_true rfl) dL_told_42 ?_
    refine vi_icmp_ge (tgt := 73) C dL_told_45 (by decide) (fun hc3 => ?_) (fun hc3 => ?_)
    · have h := ob_t h hc3
      refine vi_iconst (v := 0) C dL_told_73 (by decide) ?_
      refine vi_istore_n (lv' := [(2, .int (0 : Int32)), (0, .ref (q0 0)), (1, .ref b0)]) C dL_told_74 rfl (by decide) rfl ?_
      refine vi_sub C [1, 2, 0] rfl ?_
      exact hk_L_told_75 C RET  vF _ _ _ _ _ _ _ _ _ hkc h
    · have h := ob_f h hc3
      refine vi_aload_n C 1 dL_told_48 rfl ?_
      refine vi_aload_n C 0 dL_told_49 rfl ?_
      refine vi_aload_n C 0 dL_told_50 rfl ?_
      refine vi_iload_n C 2 dL_told_51 rfl ?_
      obtain ⟨y5, u4, hgu4, h⟩ := ob_p h
      refine cY_i (As := [.int x1]) (rest := [.ref (q0 0), .ref b0]) (ud := u4) C 2 (mX7_write C.2.2.2.2.2.2.2.2.1 hgu4) 1 rfl tcX7_write tlL_93 tiX7_write tsX7_write rfl tnX7 tdX7_write ⟨Nat.le_of_ble_eq_true rfl, Nat.le_of_ble_eq_true rfl⟩ hkc rfl rfl (Nat.le_of_ble_eq_true rfl) dL_told_52 ?_
      obtain ⟨hz6, h⟩ := ob_ok h
      obtain ⟨z7, hgz7, h⟩ := ob_bd h
      refine vi_w C (w' := [(b0, .inr (1, [.ref b1, .int (0 : Int32), .int (0 : Int32), .int x2])), (b1, .inl (cB, n3, .inl (g4)))] ++ ([] ++ wX q0 qs qo qt qv qr qx ql ad qh cI cF cC cS cO u4)) rfl ?_
      refine g_cr C (g_runS (As := [.ref (q0 0), .int y5]) (rest := [.ref b0]) (w1 := [(b0, .inr (1, [.ref b1, .int (0 : Int32), .int (0 : Int32), .int x2])), (b1, .inl (cB, n3, .inl (g4)))]) (wc := ([] ++ wX q0 qs qo qt qv qr qx ql ad qh cI cF cC cS cO u4)) C (hm_L_line  (mc := (20)) (ms := (600)) (x1 := y5) (r_n1 := z7.1) (r_g2 := z7.2.1) (u0 := z7.2.2) C.2.2.2.2.2.2.2.2.1 hgz7) 2 rfl tcL_line tlL_96 ttL_line tnL tdL_line ⟨Nat.le_of_ble_eq_true rfl, Nat.le_of_ble_eq_true rfl⟩ hz6 rfl (Nat.le_of_ble_eq_true rfl) dL_told_55 rfl) rfl (fun q8 => ?_)
      refine vi_w C (w' := ([(b0, .inr (1, [.ref b1, .int (0 : Int32), .int (0 : Int32), .int x2])), (b1, .inl (cB, n3, .inl (g4))), ((q8 0), .inr (0, [.ref (q8 1), .int (0 : Int32), .int (0 : Int32), .int (0 : Int32)])), ((q8 1), .inl (cB, z7.1, .inl (z7.2.1)))] ++ wX q0 qs qo qt qv qr qx ql ad qh cI cF cC cS cO z7.2.2)) rfl ?_
      obtain ⟨kc9, ekc9, h⟩ := ob_nm h
      obtain ⟨ks10, eks10, h⟩ := ob_nm h
      refine vi_kk ekc9.symm eks10.symm ?_
      rw [← ekc9, ← eks10] at hz6
      obtain ⟨hz11, h⟩ := ob_ok h
      obtain ⟨z12, hgz12, h⟩ := ob_bd h
      refine vi_w C (w' := ([] ++ [(b0, .inr (1, [.ref b1, .int (0 : Int32), .int (0 : Int32), .int x2])), (b1, .inl (cB, n3, .inl (g4))), ((q8 0), .inr (0, [.ref (q8 1), .int (0 : Int32), .int (0 : Int32), .int (0 : Int32)])), ((q8 1), .inl (cB, z7.1, .inl (z7.2.1)))]) ++ wX q0 qs qo qt qv qr qx ql ad qh cI cF cC cS cO z7.2.2) rfl ?_
      refine vi_swp ?_
      refine g_cr C (g_runV (T := TJ4) (N := 4) (ci := 1) (fs := [.ref b1, .int (0 : Int32), .int (0 : Int32), .int x2]) (As := [.ref (q8 0)]) (rest := []) (w1 := ([] ++ wX q0 qs qo qt qv qr qx ql ad qh cI cF cC cS cO z7.2.2)) (wc := [(b0, .inr (1, [.ref b1, .int (0 : Int32), .int (0 : Int32), .int x2])), (b1, .inl (cB, n3, .inl (g4))), ((q8 0), .inr (0, [.ref (q8 1), .int (0 : Int32), .int (0 : Int32), .int (0 : Int32)])), ((q8 1), .inl (cB, z7.1, .inl (z7.2.1)))]) C (hm_J4_append_15ec4 (a0 := b0) (a1 := b1) (a2 := (q8 0)) (a3 := (q8 1)) (mc := (gc1 (x2 + Int32.ofNat (z7.1)) n3)) (ms := (gc2 (x2 + Int32.ofNat (z7.1)) n3)) (n3 := (z7.1)) (g3 := (z7.2.1)) (f0_3 := x2) (n1 := n3) (g1 := g4) (r_o1 := z12.1) (r_n2 := z12.2.1) (r_g3 := z12.2.2) C.2.2.2.2.2.2.2.2.1 hgz12) 1 rfl tcJ4_append_15ec4 tlL_100 tiJ4_append_15ec4 tsJ4_append_15ec4 tnJ4 tdJ4_append_15ec4 ⟨Nat.le_of_ble_eq_true rfl, Nat.le_of_ble_eq_true rfl⟩ hz11 (0 + 101 + 0) rfl rfl rfl (Nat.le_of_ble_eq_true rfl) dL_told_58 rfl) rfl (fun q13 => ?_)
      refine vi_swp ?_
      refine vi_w C (w' := ([(b0, .inr (1, [.ref (q13 0), .int (0 : Int32), .int (0 : Int32), .int (z12.1)])), ((q13 0), .inl (cB, z12.2.1, .inl (z12.2.2))), ((q8 0), .inr (0, [.ref (q8 1), .int (0 : Int32), .int (0 : Int32), .int (0 : Int32)])), ((q8 1), .inl (cB, z7.1, .inl (z7.2.1)))] ++ wX q0 qs qo qt qv qr qx ql ad qh cI cF cC cS cO z7.2.2)) rfl ?_
      obtain ⟨kc14, ekc14, h⟩ := ob_nm h
      obtain ⟨ks15, eks15, h⟩ := ob_nm h
      refine vi_kk ekc14.symm eks15.symm ?_
      rw [← ekc14, ← eks15] at hz11
      refine vi_bipush (v := 59) C dL_told_61 (by decide) ?_
      obtain ⟨hz16, h⟩ := ob_ok h
      obtain ⟨z17, hgz17, h⟩ := ob_bd h
      refine vi_pickX (ex2 := [((q8 0), .inr (0, [.ref (q8 1), .int (0 : Int32), .int (0 : Int32), .int (0 : Int32)])), ((q8 1), .inl (cB, z7.1, .inl (z7.2.1))), (b0, .inr (1, [.ref (q13 0), .int (0 : Int32), .int (0 : Int32), .int (z12.1)])), ((q13 0), .inl (cB, z12.2.1, .inl (z12.2.2)))]) [2, 3, 0, 1] (by decide) rfl ?_
      refine vi_w C (w' := ([((q8 0), .inr (0, [.ref (q8 1), .int (0 : Int32), .int (0 : Int32), .int (0 : Int32)])), ((q8 1), .inl (cB, z7.1, .inl (z7.2.1)))] ++ [(b0, .inr (1, [.ref (q13 0), .int (0 : Int32), .int (0 : Int32), .int (z12.1)])), ((q13 0), .inl (cB, z12.2.1, .inl (z12.2.2)))]) ++ wX q0 qs qo qt qv qr qx ql ad qh cI cF cC cS cO z7.2.2) rfl ?_
      refine vi_swp ?_
      refine g_cr C (g_runV (T := TJ4) (N := 4) (ci := 1) (fs := [.ref (q13 0), .int (0 : Int32), .int (0 : Int32), .int (z12.1)]) (As := [.int (59 : Int32)]) (rest := []) (w1 := ([((q8 0), .inr (0, [.ref (q8 1), .int (0 : Int32), .int (0 : Int32), .int (0 : Int32)])), ((q8 1), .inl (cB, z7.1, .inl (z7.2.1)))] ++ wX q0 qs qo qt qv qr qx ql ad qh cI cF cC cS cO z7.2.2)) (wc := [(b0, .inr (1, [.ref (q13 0), .int (0 : Int32), .int (0 : Int32), .int (z12.1)])), ((q13 0), .inl (cB, z12.2.1, .inl (z12.2.2)))]) C (hm_J4_append_cf468 (a0 := b0) (a1 := (q13 0)) (mc := (gc1 (z12.1 + 1) (z12.2.1))) (ms := (gc2 (z12.1 + 1) (z12.2.1))) (x1 := (59 : Int32)) (f0_3 := (z12.1)) (n1 := (z12.2.1)) (g1 := (z12.2.2)) (r_o1 := z17.1) (r_n2 := z17.2.1) (r_g3 := z17.2.2) C.2.2.2.2.2.2.2.2.1 hgz17) 1 rfl tcJ4_append_cf468 tlL_83 tiJ4_append_cf468 tsJ4_append_cf468 tnJ4 tdJ4_append_cf468 ⟨Nat.le_of_ble_eq_true rfl, Nat.le_of_ble_eq_true rfl⟩ hz16 (2 + 101 + 0) rfl rfl rfl (Nat.le_of_ble_eq_true rfl) dL_told_63 rfl) rfl (fun q18 => ?_)
      refine vi_swp ?_
      refine vi_w C (w' := ([((q8 0), .inr (0, [.ref (q8 1), .int (0 : Int32), .int (0 : Int32), .int (0 : Int32)])), ((q8 1), .inl (cB, z7.1, .inl (z7.2.1))), (b0, .inr (1, [.ref (q18 0), .int (0 : Int32), .int (0 : Int32), .int (z17.1)])), ((q18 0), .inl (cB, z17.2.1, .inl (z17.2.2)))] ++ wX q0 qs qo qt qv qr qx ql ad qh cI cF cC cS cO z7.2.2)) rfl ?_
      obtain ⟨kc19, ekc19, h⟩ := ob_nm h
      obtain ⟨ks20, eks20, h⟩ := ob_nm h
      refine vi_kk ekc19.symm eks20.symm ?_
      rw [← ekc19, ← eks20] at hz16
      refine vi_pop C dL_told_66 rfl ?_
      obtain ⟨y21, ey21, h⟩ := ob_nm h
      refine vi_iinc (v := y21) (lv' := [(2, .int y21), (0, .ref (q0 0)), (1, .ref b0)]) C 2 dL_told_67 rfl (by rw [ey21]; rfl) (by decide) rfl ?_
      refine vi_goto (tgt := 39) C dL_told_70 (by decide) ?_
      refine vi_sub C [1, 2, 0] rfl ?_
      refine vi_pickX (ex2 := [(b0, .inr (1, [.ref (q18 0), .int (0 : Int32), .int (0 : Int32), .int (z17.1)])), ((q18 0), .inl (cB, z17.2.1, .inl (z17.2.2)))]) [2, 3] (by decide) rfl ?_
      exact ih _ _ _ _ _ _ _ _ _ hz16 h
def hf_L_told_10 (mc : Nat) (ms : Nat) : Nat → Int32 → Int32 → Nat → (Nat → Int32) → vZ → Nat → Nat → Option (Nat × (Nat → Int32) × vZ)
  | 0, _, _, _, _, _, _, _ => none
  | n + 1, x1, x2, n3, g4, u, kc, ks => (if (9 : Int32) ≤ x1 then hf_L_told_39 mc ms vF (0 : Int32) x2 n3 g4 u kc ks else obp (fX7_account x1 u) fun y3 u2 => if kc + (gc1 (x2 + (fJ6_stringSize_0f7a4 y3).getD 0) n3) ≤ mc ∧ ks + (gc2 (x2 + (fJ6_stringSize_0f7a4 y3).getD 0) n3) ≤ ms then (hf_J4_append_bf812 (gc1 (x2 + (fJ6_stringSize_0f7a4 y3).getD 0) n3) (gc2 (x2 + (fJ6_stringSize_0f7a4 y3).getD 0) n3) y3 x2 n3 g4).bind fun z5 => bd (kc + (gc1 (x2 + (fJ6_stringSize_0f7a4 y3).getD 0) n3)) fun kc7 => bd (ks + (gc2 (x2 + (fJ6_stringSize_0f7a4 y3).getD 0) n3)) fun ks8 => if kc7 + (gc1 (z5.1 + 1) (z5.2.1)) ≤ mc ∧ ks8 + (gc2 (z5.1 + 1) (z5.2.1)) ≤ ms then (hf_J4_append_cf468 (gc1 (z5.1 + 1) (z5.2.1)) (gc2 (z5.1 + 1) (z5.2.1)) (44 : Int32) (z5.1) (z5.2.1) (z5.2.2)).bind fun z10 => bd (kc7 + (gc1 (z5.1 + 1) (z5.2.1))) fun kc12 => bd (ks8 + (gc2 (z5.1 + 1) (z5.2.1))) fun ks13 => bd ((x1 + 1 : Int32)) fun y14 => hf_L_told_10 mc ms n y14 (z10.1) (z10.2.1) (z10.2.2) u2 kc12 ks13 else none else none)
set_option maxRecDepth 100000 in
set_option maxHeartbeats 4000000 in
theorem hk_L_told_10 {ad adK adV : Nat → Nat} {tS tF : Nat} {tX sK sV : Nat → Nat} {p : Program} {l : Launch} {e : Env} {s : State} {m : MethodId} {args : Array Value} {below : List Frame} {meth : Method} {c : Code} {A : Nat → Prop} {D : va_G} {cI cF cC cS cO cB cZ : ClassId} {Q : State → Prop} {q0 qs qo qt qv qr qx ql : Nat → Nat} {qh : Nat → Nat → Nat} {mc : Nat} {ms : Nat} (C : vC (vE ad adK adV tS tF tX sK sV) p l s m args meth c A D (vT7 cI cF cC cS cO cB cZ) cL_told 3 RL) {r_n1 : Nat} {r_g2 : Nat → Int32} {u0 : vZ} (RET : ∀ (q : Nat → Nat) (kc ks : Nat) (pc : Nat) (lv : List (Nat × Value)), (kc ≤ mc ∧ ks ≤ ms) → decode cL_told pc = .ok (.areturn, 1) → vV p l e { frames := 7, cells := mc, slots := ms, locals := 194 } s m args below meth c A D 3 kc ks Q ([((q 0), .inr (0, [.ref (q 1), .int (0 : Int32), .int (0 : Int32), .int (0 : Int32)])), ((q 1), .inl (cB, r_n1, .inl (r_g2)))] ++ wX q0 qs qo qt qv qr qx ql ad qh cI cF cC cS cO u0) pc lv [.ref (q 0)]) : ∀ (n : Nat) (b0 : Nat) (b1 : Nat) (x1 : Int32) (x2 : Int32) (n3 : Nat) (g4 : Nat → Int32) (u : vZ) (kc : Nat) (ks : Nat), (kc ≤ mc ∧ ks ≤ ms) → hf_L_told_10 mc ms n x1 x2 n3 g4 u kc ks = some (r_n1, r_g2, u0) → vV p l e { frames := 7, cells := mc, slots := ms, locals := 194 } s m args below meth c A D 3 kc ks Q ([(b0, .inr (1, [.ref b1, .int (0 : Int32), .int (0 : Int32), .int x2])), (b1, .inl (cB, n3, .inl (g4)))] ++ wX q0 qs qo qt qv qr qx ql ad qh cI cF cC cS cO u) 10 [(0, .ref (q0 0)), (1, .ref b0), (2, .int x1)] [] := by
  intro n
  induction n with
  | zero => intro b0 b1 x1 x2 n3 g4 u kc ks hkc h; rw [hf_L_told_10] at h; cases h
  | succ n ih =>
    intro b0 b1 x1 x2 n3 g4 u kc ks hkc h
    rw [hf_L_told_10] at h
    refine vi_iload_n C 2 dL_told_10 rfl ?_
    refine vi_bipush (v := 9) C dL_told_11 (by decide) ?_
    refine vi_icmp_ge (tgt := 37) C dL_told_13 (by decide) (fun hc1 => ?_) (fun hc1 => ?_)
    · have h := ob_t h hc1
      refine vi_iconst (v := 0) C dL_told_37 (by decide) ?_
      refine vi_istore_n (lv' := [(2, .int (0 : Int32)), (0, .ref (q0 0)), (1, .ref b0)]) C dL_told_38 rfl (by decide) rfl ?_
      refine vi_sub C [1, 2, 0] rfl ?_
      exact hk_L_told_39 C RET  vF _ _ _ _ _ _ _ _ _ hkc h
    · have h := ob_f h hc1
      refine vi_aload_n C 1 dL_told_16 rfl ?_
      refine vi_aload_n C 0 dL_told_17 rfl ?_
      refine vi_iload_n C 2 dL_told_18 rfl ?_
      obtain ⟨y3, u2, hgu2, h⟩ := ob_p h
      refine cY_i (As := [.int x1]) (rest := [.ref b0]) (ud := u2) C 2 (mX7_account C.2.2.2.2.2.2.2.2.1 hgu2) 1 rfl tcX7_account tlL_37 tiX7_account tsX7_account rfl tnX7 tdX7_account ⟨Nat.le_of_ble_eq_true rfl, Nat.le_of_ble_eq_true rfl⟩ hkc rfl rfl (Nat.le_of_ble_eq_true rfl) dL_told_19 ?_
      obtain ⟨hz4, h⟩ := ob_ok h
      obtain ⟨z5, hgz5, h⟩ := ob_bd h
      refine vi_w C (w' := ([] ++ [(b0, .inr (1, [.ref b1, .int (0 : Int32), .int (0 : Int32), .int x2])), (b1, .inl (cB, n3, .inl (g4)))]) ++ wX q0 qs qo qt qv qr qx ql ad qh cI cF cC cS cO u2) rfl ?_
      refine vi_swp ?_
      refine g_cr C (g_runV (T := TJ4) (N := 4) (ci := 1) (fs := [.ref b1, .int (0 : Int32), .int (0 : Int32), .int x2]) (As := [.int y3]) (rest := []) (w1 := ([] ++ wX q0 qs qo qt qv qr qx ql ad qh cI cF cC cS cO u2)) (wc := [(b0, .inr (1, [.ref b1, .int (0 : Int32), .int (0 : Int32), .int x2])), (b1, .inl (cB, n3, .inl (g4)))]) C (hm_J4_append_bf812 (a0 := b0) (a1 := b1) (mc := (gc1 (x2 + (fJ6_stringSize_0f7a4 y3).getD 0) n3)) (ms := (gc2 (x2 + (fJ6_stringSize_0f7a4 y3).getD 0) n3)) (x1 := y3) (f0_3 := x2) (n1 := n3) (g1 := g4) (r_o1 := z5.1) (r_n2 := z5.2.1) (r_g3 := z5.2.2) C.2.2.2.2.2.2.2.2.1 hgz5) 1 rfl tcJ4_append_bf812 tlL_90 tiJ4_append_bf812 tsJ4_append_bf812 tnJ4 tdJ4_append_bf812 ⟨Nat.le_of_ble_eq_true rfl, Nat.le_of_ble_eq_true rfl⟩ hz4 (0 + 101 + 0) rfl rfl rfl (Nat.le_of_ble_eq_true rfl) dL_told_22 rfl) rfl (fun q6 => ?_)
      refine vi_swp ?_
      refine vi_w C (w' := ([(b0, .inr (1, [.ref (q6 0), .int (0 : Int32), .int (0 : Int32), .int (z5.1)])), ((q6 0), .inl (cB, z5.2.1, .inl (z5.2.2)))] ++ wX q0 qs qo qt qv qr qx ql ad qh cI cF cC cS cO u2)) rfl ?_
      obtain ⟨kc7, ekc7, h⟩ := ob_nm h
      obtain ⟨ks8, eks8, h⟩ := ob_nm h
      refine vi_kk ekc7.symm eks8.symm ?_
      rw [← ekc7, ← eks8] at hz4
      refine vi_bipush (v := 44) C dL_told_25 (by decide) ?_
      obtain ⟨hz9, h⟩ := ob_ok h
      obtain ⟨z10, hgz10, h⟩ := ob_bd h
      refine vi_w C (w' := ([] ++ [(b0, .inr (1, [.ref (q6 0), .int (0 : Int32), .int (0 : Int32), .int (z5.1)])), ((q6 0), .inl (cB, z5.2.1, .inl (z5.2.2)))]) ++ wX q0 qs qo qt qv qr qx ql ad qh cI cF cC cS cO u2) rfl ?_
      refine vi_swp ?_
      refine g_cr C (g_runV (T := TJ4) (N := 4) (ci := 1) (fs := [.ref (q6 0), .int (0 : Int32), .int (0 : Int32), .int (z5.1)]) (As := [.int (44 : Int32)]) (rest := []) (w1 := ([] ++ wX q0 qs qo qt qv qr qx ql ad qh cI cF cC cS cO u2)) (wc := [(b0, .inr (1, [.ref (q6 0), .int (0 : Int32), .int (0 : Int32), .int (z5.1)])), ((q6 0), .inl (cB, z5.2.1, .inl (z5.2.2)))]) C (hm_J4_append_cf468 (a0 := b0) (a1 := (q6 0)) (mc := (gc1 (z5.1 + 1) (z5.2.1))) (ms := (gc2 (z5.1 + 1) (z5.2.1))) (x1 := (44 : Int32)) (f0_3 := (z5.1)) (n1 := (z5.2.1)) (g1 := (z5.2.2)) (r_o1 := z10.1) (r_n2 := z10.2.1) (r_g3 := z10.2.2) C.2.2.2.2.2.2.2.2.1 hgz10) 1 rfl tcJ4_append_cf468 tlL_83 tiJ4_append_cf468 tsJ4_append_cf468 tnJ4 tdJ4_append_cf468 ⟨Nat.le_of_ble_eq_true rfl, Nat.le_of_ble_eq_true rfl⟩ hz9 (0 + 101 + 0) rfl rfl rfl (Nat.le_of_ble_eq_true rfl) dL_told_27 rfl) rfl (fun q11 => ?_)
      refine vi_swp ?_
      refine vi_w C (w' := ([(b0, .inr (1, [.ref (q11 0), .int (0 : Int32), .int (0 : Int32), .int (z10.1)])), ((q11 0), .inl (cB, z10.2.1, .inl (z10.2.2)))] ++ wX q0 qs qo qt qv qr qx ql ad qh cI cF cC cS cO u2)) rfl ?_
      obtain ⟨kc12, ekc12, h⟩ := ob_nm h
      obtain ⟨ks13, eks13, h⟩ := ob_nm h
      refine vi_kk ekc12.symm eks13.symm ?_
      rw [← ekc12, ← eks13] at hz9
      refine vi_pop C dL_told_30 rfl ?_
      obtain ⟨y14, ey14, h⟩ := ob_nm h
      refine vi_iinc (v := y14) (lv' := [(2, .int y14), (0, .ref (q0 0)), (1, .ref b0)]) C 2 dL_told_31 rfl (by rw [ey14]; rfl) (by decide) rfl ?_
      refine vi_goto (tgt := 10) C dL_told_34 (by decide) ?_
      refine vi_sub C [1, 2, 0] rfl ?_
      exact ih _ _ _ _ _ _ _ _ _ hz9 h
def hf_L_told (mc : Nat) (ms : Nat) (u : vZ) : Option (Nat × (Nat → Int32) × vZ) := if 0 + 1 ≤ mc ∧ 0 + 4 ≤ ms then bd (0 + 1) fun kc3 => bd (0 + 4) fun ks4 => if kc3 + (1) ≤ mc ∧ ks4 + (16) ≤ ms then (hf_J4_init_da8c8 (1) (16)).bind fun z6 => bd (kc3 + (1)) fun kc8 => bd (ks4 + (16)) fun ks9 => hf_L_told_10 mc ms vF (0 : Int32) (0 : Int32) (z6.1) (z6.2) u kc8 ks9 else none else none
set_option maxRecDepth 100000 in
set_option maxHeartbeats 4000000 in
theorem hk_L_told_e {ad adK adV : Nat → Nat} {tS tF : Nat} {tX sK sV : Nat → Nat} {p : Program} {l : Launch} {e : Env} {s : State} {m : MethodId} {args : Array Value} {below : List Frame} {meth : Method} {c : Code} {A : Nat → Prop} {D : va_G} {cI cF cC cS cO cB cZ : ClassId} {Q : State → Prop} {q0 qs qo qt qv qr qx ql : Nat → Nat} {qh : Nat → Nat → Nat} {mc : Nat} {ms : Nat} (C : vC (vE ad adK adV tS tF tX sK sV) p l s m args meth c A D (vT7 cI cF cC cS cO cB cZ) cL_told 3 RL) {r_n1 : Nat} {r_g2 : Nat → Int32} {u0 : vZ} (RET : ∀ (q : Nat → Nat) (kc ks : Nat) (pc : Nat) (lv : List (Nat × Value)), (kc ≤ mc ∧ ks ≤ ms) → decode cL_told pc = .ok (.areturn, 1) → vV p l e { frames := 7, cells := mc, slots := ms, locals := 194 } s m args below meth c A D 3 kc ks Q ([((q 0), .inr (0, [.ref (q 1), .int (0 : Int32), .int (0 : Int32), .int (0 : Int32)])), ((q 1), .inl (cB, r_n1, .inl (r_g2)))] ++ wX q0 qs qo qt qv qr qx ql ad qh cI cF cC cS cO u0) pc lv [.ref (q 0)]) {u : vZ} (h : hf_L_told mc ms u = some (r_n1, r_g2, u0)) : vV p l e { frames := 7, cells := mc, slots := ms, locals := 194 } s m args below meth c A D 3 (0) (0) Q ([] ++ wX q0 qs qo qt qv qr qx ql ad qh cI cF cC cS cO u) 0 [(0, .ref (q0 0))] [] := by
  rw [hf_L_told] at h
  obtain ⟨hz1, h⟩ := ob_ok h
  refine vi_new (ci := 1) (fs := [.null, .int (0 : Int32), .int (0 : Int32), .int (0 : Int32)]) C inJ4w tyJ4 tyJ4_ok tlcL_77 tinst_J4 tnJ4 rfl (by decide +kernel) hz1.1 hz1.2 dL_told_0 (fun a2 => ?_)
  refine vi_swp ?_
  refine vi_w C (w' := ([(a2, .inr (1, [.null, .int (0 : Int32), .int (0 : Int32), .int (0 : Int32)]))] ++ wX q0 qs qo qt qv qr qx ql ad qh cI cF cC cS cO u)) rfl ?_
  obtain ⟨kc3, ekc3, h⟩ := ob_nm h
  obtain ⟨ks4, eks4, h⟩ := ob_nm h
  refine vi_kk ekc3.symm eks4.symm ?_
  rw [← ekc3, ← eks4] at hz1
  refine vi_dup C dL_told_3 rfl ?_
  obtain ⟨hz5, h⟩ := ob_ok h
  obtain ⟨z6, hgz6, h⟩ := ob_bd h
  refine vi_w C (w' := ([] ++ [(a2, .inr (1, [.null, .int (0 : Int32), .int (0 : Int32), .int (0 : Int32)]))]) ++ wX q0 qs qo qt qv qr qx ql ad qh cI cF cC cS cO u) rfl ?_
  refine vi_swp ?_
  refine g_cv C (g_runI (As := []) (rest := [.ref a2]) (w1 := ([] ++ wX q0 qs qo qt qv qr qx ql ad qh cI cF cC cS cO u)) (wc := [(a2, .inr (1, [.null, .int (0 : Int32), .int (0 : Int32), .int (0 : Int32)]))]) C (hm_J4_init_da8c8 (a0 := a2) (mc := (1)) (ms := (16)) (r_n1 := z6.1) (r_g2 := z6.2) C.2.2.2.2.2.2.2.2.1 hgz6) 0 rfl tcJ4_init_da8c8 tlL_79 tiJ4_init_da8c8 rfl tnJ4 tdJ4_init_da8c8 ⟨Nat.le_of_ble_eq_true rfl, Nat.le_of_ble_eq_true rfl⟩ hz5 rfl (Nat.le_of_ble_eq_true rfl) dL_told_4 rfl) rfl (fun q7 => ?_)
  refine vi_swp ?_
  refine vi_w C (w' := ([(a2, .inr (1, [.ref (q7 0), .int (0 : Int32), .int (0 : Int32), .int (0 : Int32)])), ((q7 0), .inl (cB, z6.1, .inl (z6.2)))] ++ wX q0 qs qo qt qv qr qx ql ad qh cI cF cC cS cO u)) rfl ?_
  obtain ⟨kc8, ekc8, h⟩ := ob_nm h
  obtain ⟨ks9, eks9, h⟩ := ob_nm h
  refine vi_kk ekc8.symm eks9.symm ?_
  rw [← ekc8, ← eks9] at hz5
  refine vi_astore_n (lv' := [(1, .ref a2), (0, .ref (q0 0))]) C dL_told_7 rfl (by decide) rfl ?_
  refine vi_iconst (v := 0) C dL_told_8 (by decide) ?_
  refine vi_istore_n (lv' := [(2, .int (0 : Int32)), (1, .ref a2), (0, .ref (q0 0))]) C dL_told_9 rfl (by decide) rfl ?_
  refine vi_sub C [2, 1, 0] rfl ?_
  exact hk_L_told_10 C RET  vF _ _ _ _ _ _ _ _ _ hz5 h
theorem hm_L_told {ad adK adV : Nat → Nat} {tS tF : Nat} {tX sK sV : Nat → Nat} (hE : vEok (vE ad adK adV tS tF tX sK sV)) {l : Launch} {D : va_G} {cI cF cC cS cO cB cZ : ClassId} {q0 qs qo qt qv qr qx ql : Nat → Nat} {qh : Nat → Nat → Nat} {mc : Nat} {ms : Nat} {r_n1 : Nat} {r_g2 : Nat → Int32} {u0 : vZ} {u : vZ} (h : hf_L_told mc ms u = some (r_n1, r_g2, u0)) : vG (vE ad adK adV tS tF tX sK sV) l yL_told cL_told 3 (some (FieldType.object "java/lang/String")) 7 194 mc ms D (vT7 cI cF cC cS cO cB cZ) [.ref (q0 0)] ([] ++ wX q0 qs qo qt qv qr qx ql ad qh cI cF cC cS cO u) (gQr D (fun q => ([((q 0), .inr (0, [.ref (q 1), .int (0 : Int32), .int (0 : Int32), .int (0 : Int32)])), ((q 1), .inl (cB, r_n1, .inl (r_g2)))] ++ wX q0 qs qo qt qv qr qx ql ad qh cI cF cC cS cO u0)) (fun q => (q 0))) :=
  vG_of hE (by decide +kernel) (Nat.le_of_ble_eq_true rfl) (fun p e s m args below meth c A C hr hin => hk_L_told_e C (fun q kc ks pc lv hk hd => g_retr (WQ := (fun q => ([((q 0), .inr (0, [.ref (q 1), .int (0 : Int32), .int (0 : Int32), .int (0 : Int32)])), ((q 1), .inl (cB, r_n1, .inl (r_g2)))] ++ wX q0 qs qo qt qv qr qx ql ad qh cI cF cC cS cO u0))) (ra := fun q => (q 0)) C hr (Or.inl ⟨_, rfl⟩) q rfl rfl hk hd) h)
