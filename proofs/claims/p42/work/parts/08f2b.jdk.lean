-- ---- J4_append_cf468
def hf_J4_append_cf468 (mc : Nat) (ms : Nat) (x1 : Int32) (f0_3 : Int32) (n1 : Nat) (g1 : Nat → Int32) : Option (Int32 × Nat × (Nat → Int32)) := if 0 + (gc1 (f0_3 + 1) n1) ≤ mc ∧ 0 + (gc2 (f0_3 + 1) n1) ≤ ms then (hf_J5_append_3fe6f (gc1 (f0_3 + 1) n1) (gc2 (f0_3 + 1) n1) x1 f0_3 n1 g1).bind fun z2 => bd (0 + (gc1 (f0_3 + 1) n1)) fun kc4 => bd (0 + (gc2 (f0_3 + 1) n1)) fun ks5 => some (z2.1, z2.2.1, z2.2.2) else none
set_option maxRecDepth 100000 in
set_option maxHeartbeats 4000000 in
theorem hk_J4_append_cf468_e {ad adK adV : Nat → Nat} {tS tF : Nat} {tX sK sV : Nat → Nat} {p : Program} {l : Launch} {e : Env} {s : State} {m : MethodId} {args : Array Value} {below : List Frame} {meth : Method} {c : Code} {A : Nat → Prop} {D : va_G} {cI cF cC cS cO cB cZ : ClassId} {Q : State → Prop} {mc : Nat} {ms : Nat} {a0 : Nat} {a1 : Nat} (C : vC (vE ad adK adV tS tF tX sK sV) p l s m args meth c A D (vT7 cI cF cC cS cO cB cZ) cJ4_append_cf468 2 RJ4) {r_o1 : Int32} {r_n2 : Nat} {r_g3 : Nat → Int32} (RET : ∀ (q : Nat → Nat) (kc ks : Nat) (pc : Nat) (lv : List (Nat × Value)), (kc ≤ mc ∧ ks ≤ ms) → decode cJ4_append_cf468 pc = .ok (.areturn, 1) → vV p l e { frames := 5, cells := mc, slots := ms, locals := 125 } s m args below meth c A D 2 kc ks Q [(a0, .inr (1, [.ref (q 0), .int (0 : Int32), .int (0 : Int32), .int r_o1])), ((q 0), .inl (cB, r_n2, .inl (r_g3)))] pc lv [.ref a0]) {x1 : Int32} {f0_3 : Int32} {n1 : Nat} {g1 : Nat → Int32} (h : hf_J4_append_cf468 mc ms x1 f0_3 n1 g1 = some (r_o1, r_n2, r_g3)) : vV p l e { frames := 5, cells := mc, slots := ms, locals := 125 } s m args below meth c A D 2 (0) (0) Q [(a0, .inr (1, [.ref a1, .int (0 : Int32), .int (0 : Int32), .int f0_3])), (a1, .inl (cB, n1, .inl (g1)))] 0 [(0, .ref a0), (1, .int x1)] [] := by
  rw [hf_J4_append_cf468] at h
  refine vi_aload_n C 0 dJ4_append_cf468_0 rfl ?_
  refine vi_iload_n C 1 dJ4_append_cf468_1 rfl ?_
  obtain ⟨hz1, h⟩ := ob_ok h
  obtain ⟨z2, hgz2, h⟩ := ob_bd h
  refine vi_w C (w' := [] ++ [(a0, .inr (1, [.ref a1, .int (0 : Int32), .int (0 : Int32), .int f0_3])), (a1, .inl (cB, n1, .inl (g1)))]) rfl ?_
  refine g_cr C (g_runSU (T := TJ4) (N := 4) (As := [.int x1]) (rest := []) (w1 := []) (wc := [(a0, .inr (1, [.ref a1, .int (0 : Int32), .int (0 : Int32), .int f0_3])), (a1, .inl (cB, n1, .inl (g1)))]) C (hm_J5_append_3fe6f (a0 := a0) (a1 := a1) (mc := (gc1 (f0_3 + 1) n1)) (ms := (gc2 (f0_3 + 1) n1)) (x1 := x1) (f0_3 := f0_3) (n1 := n1) (g1 := g1) (r_o1 := z2.1) (r_n2 := z2.2.1) (r_g3 := z2.2.2) C.2.2.2.2.2.2.2.2.1 hgz2) 1 rfl tcJ5_append_3fe6f tlJ4_50 tiJ5_append_3fe6f tsmJ5_append_3fe6f tsuJ4 tnJ5 (by decide) tdJ5_append_3fe6f.2.2 ⟨Nat.le_of_ble_eq_true rfl, Nat.le_of_ble_eq_true rfl⟩ hz1 0 rfl rfl rfl rfl (Nat.le_of_ble_eq_true rfl) dJ4_append_cf468_2 rfl) rfl (fun q3 => ?_)
  refine vi_w C (w' := [(a0, .inr (1, [.ref (q3 0), .int (0 : Int32), .int (0 : Int32), .int (z2.1)])), ((q3 0), .inl (cB, z2.2.1, .inl (z2.2.2)))]) rfl ?_
  obtain ⟨kc4, ekc4, h⟩ := ob_nm h
  obtain ⟨ks5, eks5, h⟩ := ob_nm h
  refine vi_kk ekc4.symm eks5.symm ?_
  rw [← ekc4, ← eks5] at hz1
  refine vi_pop C dJ4_append_cf468_5 rfl ?_
  refine vi_aload_n C 0 dJ4_append_cf468_6 rfl ?_
  cases h
  exact RET (fun j => [(q3 0)].getD j 0) _ _ _ _ hz1 dJ4_append_cf468_7
theorem hm_J4_append_cf468 {ad adK adV : Nat → Nat} {tS tF : Nat} {tX sK sV : Nat → Nat} (hE : vEok (vE ad adK adV tS tF tX sK sV)) {l : Launch} {D : va_G} {cI cF cC cS cO cB cZ : ClassId} {mc : Nat} {ms : Nat} {a0 : Nat} {a1 : Nat} {r_o1 : Int32} {r_n2 : Nat} {r_g3 : Nat → Int32} {x1 : Int32} {f0_3 : Int32} {n1 : Nat} {g1 : Nat → Int32} (h : hf_J4_append_cf468 mc ms x1 f0_3 n1 g1 = some (r_o1, r_n2, r_g3)) : vG (vE ad adK adV tS tF tX sK sV) l yJ4_append_cf468 cJ4_append_cf468 2 (some (FieldType.object "java/lang/StringBuilder")) 5 125 mc ms D (vT7 cI cF cC cS cO cB cZ) [.ref a0, .int x1] [(a0, .inr (1, [.ref a1, .int (0 : Int32), .int (0 : Int32), .int f0_3])), (a1, .inl (cB, n1, .inl (g1)))] (gQr D (fun q => [(a0, .inr (1, [.ref (q 0), .int (0 : Int32), .int (0 : Int32), .int r_o1])), ((q 0), .inl (cB, r_n2, .inl (r_g3)))]) (fun q => a0)) :=
  vG_ofF hE (by decide +kernel) (Nat.le_of_ble_eq_true rfl) (fun p e s m args below meth c A C hr hin => hk_J4_append_cf468_e C (fun q kc ks pc lv hk hd => g_retr (WQ := (fun q => [(a0, .inr (1, [.ref (q 0), .int (0 : Int32), .int (0 : Int32), .int r_o1])), ((q 0), .inl (cB, r_n2, .inl (r_g3)))])) (ra := fun q => a0) C hr (Or.inl ⟨_, rfl⟩) q rfl rfl hk hd) h)
-- ---- J6_getChars_ba4f3
def hf_J6_getChars_ba4f3_104 (x1 : Int32) (x2 : Int32) (n3 : Nat) (g4 : Nat → Int32) : Option (Int32 × Nat × (Nat → Int32)) := (if x2 = 0 then some (x1, n3, g4) else bd ((x1 + (-1) : Int32)) fun y2 => if y2 < 0 ∨ n3 ≤ Int32.toNatClampNeg y2 then none else bd ((upd g4 (Int32.toNatClampNeg y2) (vp_nar .byte (45 : Int32)) : Nat → Int32)) fun g4 => some (y2, n3, g4))
set_option maxRecDepth 100000 in
set_option maxHeartbeats 4000000 in
theorem hk_J6_getChars_ba4f3_104 {ad adK adV : Nat → Nat} {tS tF : Nat} {tX sK sV : Nat → Nat} {p : Program} {l : Launch} {e : Env} {s : State} {m : MethodId} {args : Array Value} {below : List Frame} {meth : Method} {c : Code} {A : Nat → Prop} {D : va_G} {cI cF cC cS cO cB cZ : ClassId} {Q : State → Prop} {a0 : Nat} (C : vC (vE ad adK adV tS tF tX sK sV) p l s m args meth c A D (vT7 cI cF cC cS cO cB cZ) cJ6_getChars_ba4f3 7 RJ6) {r0 : Int32} {r_n1 : Nat} {r_g2 : Nat → Int32} (RET : ∀ (q : Nat → Nat) (kc ks : Nat) (pc : Nat) (lv : List (Nat × Value)), True → decode cJ6_getChars_ba4f3 pc = .ok (.ireturn, 1) → vV p l e { frames := 0, cells := 0, slots := 0, locals := 0 } s m args below meth c A D 7 0 0 Q [(a0, .inl (cB, r_n1, .inl (r_g2)))] pc lv [.int r0]) : ∀ (x1 : Int32) (x2 : Int32) (n3 : Nat) (g4 : Nat → Int32), True → hf_J6_getChars_ba4f3_104 x1 x2 n3 g4 = some (r0, r_n1, r_g2) → vV p l e { frames := 0, cells := 0, slots := 0, locals := 0 } s m args below meth c A D 7 0 0 Q [(a0, .inl (cB, n3, .inl (g4)))] 104 [(2, .ref a0), (5, .int x1), (6, .int x2)] [] := by
  intro x1 x2 n3 g4 hkc h
  rw [hf_J6_getChars_ba4f3_104] at h
  refine vi_iload C 2 dJ6_getChars_ba4f3_104 rfl ?_
  refine vi_if_eq (tgt := 118) C dJ6_getChars_ba4f3_106 (by decide) (fun hc1 => ?_) (fun hc1 => ?_)
  · have h := ob_t h hc1
    refine vi_iload C 1 dJ6_getChars_ba4f3_118 rfl ?_
    cases h
    exact RET (fun j => [].getD j 0) 0 0 _ _ hkc dJ6_getChars_ba4f3_120
  · have h := ob_f h hc1
    refine vi_aload_n C 0 dJ6_getChars_ba4f3_109 rfl ?_
    obtain ⟨y2, ey2, h⟩ := ob_nm h
    refine vi_iinc (v := y2) (lv' := [(5, .int y2), (2, .ref a0), (6, .int x2)]) C 1 dJ6_getChars_ba4f3_110 rfl (by rw [ey2]; rfl) (by decide) rfl ?_
    refine vi_iload C 0 dJ6_getChars_ba4f3_113 rfl ?_
    refine vi_bipush (v := 45) C dJ6_getChars_ba4f3_115 (by decide) ?_
    obtain ⟨hz3, h⟩ := ob_if h
    obtain ⟨g4, eg4, h⟩ := ob_nm h
    refine vi_bast (w2 := [(a0, .inl (cB, n3, .inl (g4)))]) C 0 5 rfl rfl hz3 (by rw [eg4]; rfl) dJ6_getChars_ba4f3_117 ?_
    refine vi_iload C 0 dJ6_getChars_ba4f3_118 rfl ?_
    cases h
    exact RET (fun j => [].getD j 0) 0 0 _ _ hkc dJ6_getChars_ba4f3_120
def hf_J6_getChars_ba4f3_22 : Nat → Int32 → Int32 → Int32 → Nat → (Nat → Int32) → Option (Int32 × Nat × (Nat → Int32))
  | 0, _, _, _, _, _ => none
  | n + 1, x1, x2, x3, n4, g5 => (if (-100 : Int32) < x1 then bd ((x2 + (-1) : Int32)) fun y2 => if -x1 < 0 ∨ 100 ≤ Int32.toNatClampNeg (-x1) then none else if y2 < 0 ∨ n4 ≤ Int32.toNatClampNeg y2 then none else bd ((upd g5 (Int32.toNatClampNeg y2) (vp_nar .byte (nI (48 + (Int32.toNatClampNeg (-x1)) % 10))) : Nat → Int32)) fun g5 => (if (-9 : Int32) ≤ x1 then hf_J6_getChars_ba4f3_104 y2 x3 n4 g5 else bd ((y2 + (-1) : Int32)) fun y7 => if -x1 < 0 ∨ 100 ≤ Int32.toNatClampNeg (-x1) then none else if y7 < 0 ∨ n4 ≤ Int32.toNatClampNeg y7 then none else bd ((upd g5 (Int32.toNatClampNeg y7) (vp_nar .byte (nI (48 + (Int32.toNatClampNeg (-x1)) / 10))) : Nat → Int32)) fun g10 => hf_J6_getChars_ba4f3_104 y7 x3 n4 g10) else bd ((x1 / (100 : Int32) : Int32)) fun y11 => bd (((y11 * (100 : Int32)) - x1 : Int32)) fun y12 => bd ((x2 + (-1) : Int32)) fun y13 => if y12 < 0 ∨ 100 ≤ Int32.toNatClampNeg y12 then none else if y13 < 0 ∨ n4 ≤ Int32.toNatClampNeg y13 then none else bd ((upd g5 (Int32.toNatClampNeg y13) (vp_nar .byte (nI (48 + (Int32.toNatClampNeg y12) % 10))) : Nat → Int32)) fun g16 => bd ((y13 + (-1) : Int32)) fun y17 => if y12 < 0 ∨ 100 ≤ Int32.toNatClampNeg y12 then none else if y17 < 0 ∨ n4 ≤ Int32.toNatClampNeg y17 then none else bd ((upd g16 (Int32.toNatClampNeg y17) (vp_nar .byte (nI (48 + (Int32.toNatClampNeg y12) / 10))) : Nat → Int32)) fun g20 => hf_J6_getChars_ba4f3_22 n y11 y17 x3 n4 g20)
set_option maxRecDepth 100000 in
set_option maxHeartbeats 4000000 in
theorem hk_J6_getChars_ba4f3_22 {ad adK adV : Nat → Nat} {tS tF : Nat} {tX sK sV : Nat → Nat} {p : Program} {l : Launch} {e : Env} {s : State} {m : MethodId} {args : Array Value} {below : List Frame} {meth : Method} {c : Code} {A : Nat → Prop} {D : va_G} {cI cF cC cS cO cB cZ : ClassId} {Q : State → Prop} {a0 : Nat} (C : vC (vE ad adK adV tS tF tX sK sV) p l s m args meth c A D (vT7 cI cF cC cS cO cB cZ) cJ6_getChars_ba4f3 7 RJ6) {r0 : Int32} {r_n1 : Nat} {r_g2 : Nat → Int32} (RET : ∀ (q : Nat → Nat) (kc ks : Nat) (pc : Nat) (lv : List (Nat × Value)), True → decode cJ6_getChars_ba4f3 pc = .ok (.ireturn, 1) → vV p l e { frames := 0, cells := 0, slots := 0, locals := 0 } s m args below meth c A D 7 0 0 Q [(a0, .inl (cB, r_n1, .inl (r_g2)))] pc lv [.int r0]) : ∀ (n : Nat) (x1 : Int32) (x2 : Int32) (x3 : Int32) (n4 : Nat) (g5 : Nat → Int32), True → hf_J6_getChars_ba4f3_22 n x1 x2 x3 n4 g5 = some (r0, r_n1, r_g2) → vV p l e { frames := 0, cells := 0, slots := 0, locals := 0 } s m args below meth c A D 7 0 0 Q [(a0, .inl (cB, n4, .inl (g5)))] 22 [(0, .int x1), (2, .ref a0), (5, .int x2), (6, .int x3)] [] := by
  intro n
  induction n with
  | zero => intro x1 x2 x3 n4 g5 hkc h; rw [hf_J6_getChars_ba4f3_22] at h; cases h
  | succ n ih =>
    intro x1 x2 x3 n4 g5 hkc h
    rw [hf_J6_getChars_ba4f3_22] at h
    refine vi_iload_n C 0 dJ6_getChars_ba4f3_22 rfl ?_
    refine vi_bipush (v := (-100)) C dJ6_getChars_ba4f3_23 (by decide) ?_
    refine vi_icmp_gt (tgt := 72) C dJ6_getChars_ba4f3_25 (by decide) (fun hc1 => ?_) (fun hc1 => ?_)
    · have h := ob_t h hc1
      refine vi_aload_n C 1 dJ6_getChars_ba4f3_72 rfl ?_
      obtain ⟨y2, ey2, h⟩ := ob_nm h
      refine vi_iinc (v := y2) (lv' := [(5, .int y2), (0, .int x1), (2, .ref a0), (6, .int x3)]) C 2 dJ6_getChars_ba4f3_73 rfl (by rw [ey2]; rfl) (by decide) rfl ?_
      refine vi_iload C 0 dJ6_getChars_ba4f3_76 rfl ?_
      refine vi_get_ones C tfJ6_83 dJ6_getChars_ba4f3_78 ?_
      refine vi_iload_n C 1 dJ6_getChars_ba4f3_81 rfl ?_
      refine vi_ineg C dJ6_getChars_ba4f3_82 ?_
      obtain ⟨hz3, h⟩ := ob_if h
      refine vi_ld_ones C hz3 dJ6_getChars_ba4f3_83 ?_
      obtain ⟨hz4, h⟩ := ob_if h
      obtain ⟨g5, eg5, h⟩ := ob_nm h
      refine vi_bast (w2 := [(a0, .inl (cB, n4, .inl (g5)))]) C 0 5 rfl rfl hz4 (by rw [eg5]; rfl) dJ6_getChars_ba4f3_84 ?_
      refine vi_iload_n C 1 dJ6_getChars_ba4f3_85 rfl ?_
      refine vi_bipush (v := (-9)) C dJ6_getChars_ba4f3_86 (by decide) ?_
      refine vi_icmp_ge (tgt := 104) C dJ6_getChars_ba4f3_88 (by decide) (fun hc6 => ?_) (fun hc6 => ?_)
      · have h := ob_t h hc6
        refine vi_sub C [2, 0, 3] rfl ?_
        exact hk_J6_getChars_ba4f3_104 C RET   _ _ _ _ hkc h
      · have h := ob_f h hc6
        refine vi_aload_n C 2 dJ6_getChars_ba4f3_91 rfl ?_
        obtain ⟨y7, ey7, h⟩ := ob_nm h
        refine vi_iinc (v := y7) (lv' := [(5, .int y7), (0, .int x1), (2, .ref a0), (6, .int x3)]) C 0 dJ6_getChars_ba4f3_92 rfl (by rw [ey7]; rfl) (by decide) rfl ?_
        refine vi_iload C 0 dJ6_getChars_ba4f3_95 rfl ?_
        refine vi_get_tens C tfJ6_87 dJ6_getChars_ba4f3_97 ?_
        refine vi_iload_n C 1 dJ6_getChars_ba4f3_100 rfl ?_
        refine vi_ineg C dJ6_getChars_ba4f3_101 ?_
        obtain ⟨hz8, h⟩ := ob_if h
        refine vi_ld_tens C hz8 dJ6_getChars_ba4f3_102 ?_
        obtain ⟨hz9, h⟩ := ob_if h
        obtain ⟨g10, eg10, h⟩ := ob_nm h
        refine vi_bast (w2 := [(a0, .inl (cB, n4, .inl (g10)))]) C 0 5 rfl rfl hz9 (by rw [eg10]; rfl) dJ6_getChars_ba4f3_103 ?_
        refine vi_sub C [2, 0, 3] rfl ?_
        exact hk_J6_getChars_ba4f3_104 C RET   _ _ _ _ hkc h
    · have h := ob_f h hc1
      refine vi_iload_n C 0 dJ6_getChars_ba4f3_28 rfl ?_
      refine vi_bipush (v := 100) C dJ6_getChars_ba4f3_29 (by decide) ?_
      refine vi_idiv C dJ6_getChars_ba4f3_31 (by decide) ?_
      obtain ⟨y11, ey11, h⟩ := ob_nm h
      refine vi_nmi ey11 ?_
      refine vi_istore_n (lv' := [(3, .int y11), (0, .int x1), (2, .ref a0), (5, .int x2), (6, .int x3)]) C dJ6_getChars_ba4f3_32 rfl (by decide) rfl ?_
      refine vi_iload_n C 0 dJ6_getChars_ba4f3_33 rfl ?_
      refine vi_bipush (v := 100) C dJ6_getChars_ba4f3_34 (by decide) ?_
      refine vi_imul C dJ6_getChars_ba4f3_36 ?_
      refine vi_iload_n C 1 dJ6_getChars_ba4f3_37 rfl ?_
      refine vi_isub C dJ6_getChars_ba4f3_38 ?_
      obtain ⟨y12, ey12, h⟩ := ob_nm h
      refine vi_nmi ey12 ?_
      refine vi_istore (lv' := [(4, .int y12), (3, .int y11), (0, .int x1), (2, .ref a0), (5, .int x2), (6, .int x3)]) C dJ6_getChars_ba4f3_39 (by decide) rfl ?_
      refine vi_iload_n C 1 dJ6_getChars_ba4f3_41 rfl ?_
      refine vi_istore_n (lv' := [(0, .int y11), (4, .int y12), (3, .int y11), (2, .ref a0), (5, .int x2), (6, .int x3)]) C dJ6_getChars_ba4f3_42 rfl (by decide) rfl ?_
      refine vi_aload_n C 3 dJ6_getChars_ba4f3_43 rfl ?_
      obtain ⟨y13, ey13, h⟩ := ob_nm h
      refine vi_iinc (v := y13) (lv' := [(5, .int y13), (0, .int y11), (4, .int y12), (3, .int y11), (2, .ref a0), (6, .int x3)]) C 4 dJ6_getChars_ba4f3_44 rfl (by rw [ey13]; rfl) (by decide) rfl ?_
      refine vi_iload C 0 dJ6_getChars_ba4f3_47 rfl ?_
      refine vi_get_ones C tfJ6_83 dJ6_getChars_ba4f3_49 ?_
      refine vi_iload C 2 dJ6_getChars_ba4f3_52 rfl ?_
      obtain ⟨hz14, h⟩ := ob_if h
      refine vi_ld_ones C hz14 dJ6_getChars_ba4f3_54 ?_
      obtain ⟨hz15, h⟩ := ob_if h
      obtain ⟨g16, eg16, h⟩ := ob_nm h
      refine vi_bast (w2 := [(a0, .inl (cB, n4, .inl (g16)))]) C 0 5 rfl rfl hz15 (by rw [eg16]; rfl) dJ6_getChars_ba4f3_55 ?_
      refine vi_aload_n C 4 dJ6_getChars_ba4f3_56 rfl ?_
      obtain ⟨y17, ey17, h⟩ := ob_nm h
      refine vi_iinc (v := y17) (lv' := [(5, .int y17), (0, .int y11), (4, .int y12), (3, .int y11), (2, .ref a0), (6, .int x3)]) C 0 dJ6_getChars_ba4f3_57 rfl (by rw [ey17]; rfl) (by decide) rfl ?_
      refine vi_iload C 0 dJ6_getChars_ba4f3_60 rfl ?_
      refine vi_get_tens C tfJ6_87 dJ6_getChars_ba4f3_62 ?_
      refine vi_iload C 2 dJ6_getChars_ba4f3_65 rfl ?_
      obtain ⟨hz18, h⟩ := ob_if h
      refine vi_ld_tens C hz18 dJ6_getChars_ba4f3_67 ?_
      obtain ⟨hz19, h⟩ := ob_if h
      obtain ⟨g20, eg20, h⟩ := ob_nm h
      refine vi_bast (w2 := [(a0, .inl (cB, n4, .inl (g20)))]) C 0 5 rfl rfl hz19 (by rw [eg20]; rfl) dJ6_getChars_ba4f3_68 ?_
      refine vi_goto (tgt := 22) C dJ6_getChars_ba4f3_69 (by decide) ?_
      refine vi_sub C [1, 4, 0, 5] rfl ?_
      exact ih _ _ _ _ _ hkc h
def hf_J6_getChars_ba4f3 (x0 : Int32) (x1 : Int32) (n0 : Nat) (g0 : Nat → Int32) : Option (Int32 × Nat × (Nat → Int32)) := (if 0 ≤ x0 then bd ((-x0 : Int32)) fun y2 => hf_J6_getChars_ba4f3_22 vF y2 x1 (0 : Int32) n0 g0 else hf_J6_getChars_ba4f3_22 vF x0 x1 (1 : Int32) n0 g0)
set_option maxRecDepth 100000 in
set_option maxHeartbeats 4000000 in
theorem hk_J6_getChars_ba4f3_e {ad adK adV : Nat → Nat} {tS tF : Nat} {tX sK sV : Nat → Nat} {p : Program} {l : Launch} {e : Env} {s : State} {m : MethodId} {args : Array Value} {below : List Frame} {meth : Method} {c : Code} {A : Nat → Prop} {D : va_G} {cI cF cC cS cO cB cZ : ClassId} {Q : State → Prop} {a0 : Nat} (C : vC (vE ad adK adV tS tF tX sK sV) p l s m args meth c A D (vT7 cI cF cC cS cO cB cZ) cJ6_getChars_ba4f3 7 RJ6) {r0 : Int32} {r_n1 : Nat} {r_g2 : Nat → Int32} (RET : ∀ (q : Nat → Nat) (kc ks : Nat) (pc : Nat) (lv : List (Nat × Value)), True → decode cJ6_getChars_ba4f3 pc = .ok (.ireturn, 1) → vV p l e { frames := 0, cells := 0, slots := 0, locals := 0 } s m args below meth c A D 7 0 0 Q [(a0, .inl (cB, r_n1, .inl (r_g2)))] pc lv [.int r0]) {x0 : Int32} {x1 : Int32} {n0 : Nat} {g0 : Nat → Int32} (h : hf_J6_getChars_ba4f3 x0 x1 n0 g0 = some (r0, r_n1, r_g2)) : vV p l e { frames := 0, cells := 0, slots := 0, locals := 0 } s m args below meth c A D 7 0 0 Q [(a0, .inl (cB, n0, .inl (g0)))] 0 [(0, .int x0), (1, .int x1), (2, .ref a0)] [] := by
  rw [hf_J6_getChars_ba4f3] at h
  refine vi_iload_n C 1 dJ6_getChars_ba4f3_0 rfl ?_
  refine vi_istore (lv' := [(5, .int x1), (0, .int x0), (1, .int x1), (2, .ref a0)]) C dJ6_getChars_ba4f3_1 (by decide) rfl ?_
  refine vi_iload_n C 1 dJ6_getChars_ba4f3_3 rfl ?_
  refine vi_if_ge (tgt := 11) C dJ6_getChars_ba4f3_4 (by decide) (fun hc1 => ?_) (fun hc1 => ?_)
  · have h := ob_t h hc1
    refine vi_iconst (v := 0) C dJ6_getChars_ba4f3_11 (by decide) ?_
    refine vi_istore (lv' := [(6, .int (0 : Int32)), (5, .int x1), (0, .int x0), (1, .int x1), (2, .ref a0)]) C dJ6_getChars_ba4f3_12 (by decide) rfl ?_
    refine vi_iload C 0 dJ6_getChars_ba4f3_14 rfl ?_
    refine vi_if_ne (tgt := 22) C dJ6_getChars_ba4f3_16 (by decide) (fun hc => absurd (by decide) hc) (fun _ => ?_)
    refine vi_iload_n C 2 dJ6_getChars_ba4f3_19 rfl ?_
    refine vi_ineg C dJ6_getChars_ba4f3_20 ?_
    obtain ⟨y2, ey2, h⟩ := ob_nm h
    refine vi_nmi ey2 ?_
    refine vi_istore_n (lv' := [(0, .int y2), (6, .int (0 : Int32)), (5, .int x1), (1, .int x1), (2, .ref a0)]) C dJ6_getChars_ba4f3_21 rfl (by decide) rfl ?_
    refine vi_sub C [0, 4, 2, 1] rfl ?_
    exact hk_J6_getChars_ba4f3_22 C RET  vF _ _ _ _ _ trivial h
  · have h := ob_f h hc1
    refine vi_iconst (v := 1) C dJ6_getChars_ba4f3_7 (by decide) ?_
    refine vi_goto (tgt := 12) C dJ6_getChars_ba4f3_8 (by decide) ?_
    refine vi_istore (lv' := [(6, .int (1 : Int32)), (5, .int x1), (0, .int x0), (1, .int x1), (2, .ref a0)]) C dJ6_getChars_ba4f3_12 (by decide) rfl ?_
    refine vi_iload C 0 dJ6_getChars_ba4f3_14 rfl ?_
    refine vi_if_ne (tgt := 22) C dJ6_getChars_ba4f3_16 (by decide) (fun _ => ?_) (fun hc => absurd hc (by decide))
    refine vi_sub C [2, 4, 1, 0] rfl ?_
    exact hk_J6_getChars_ba4f3_22 C RET  vF _ _ _ _ _ trivial h
theorem hm_J6_getChars_ba4f3 {ad adK adV : Nat → Nat} {tS tF : Nat} {tX sK sV : Nat → Nat} (hE : vEok (vE ad adK adV tS tF tX sK sV)) {l : Launch} {D : va_G} {cI cF cC cS cO cB cZ : ClassId} {a0 : Nat} {r0 : Int32} {r_n1 : Nat} {r_g2 : Nat → Int32} {x0 : Int32} {x1 : Int32} {n0 : Nat} {g0 : Nat → Int32} (h : hf_J6_getChars_ba4f3 x0 x1 n0 g0 = some (r0, r_n1, r_g2)) : vG (vE ad adK adV tS tF tX sK sV) l yJ6_getChars_ba4f3 cJ6_getChars_ba4f3 7 (some .int) 0 0 0 0 D (vT7 cI cF cC cS cO cB cZ) [.int x0, .int x1, .ref a0] [(a0, .inl (cB, n0, .inl (g0)))] (gQi D (fun q => [(a0, .inl (cB, r_n1, .inl (r_g2)))]) r0) :=
  vG_ofF hE (by decide +kernel) (Nat.le_of_ble_eq_true rfl) (fun p e s m args below meth c A C hr hin => hk_J6_getChars_ba4f3_e C (fun q kc ks pc lv hk hd => g_reti (WQ := (fun q => [(a0, .inl (cB, r_n1, .inl (r_g2)))])) C hr rfl q rfl ⟨Nat.le_refl 0, Nat.le_refl 0⟩ hd) h)
-- ---- J5_append_c97b9
def hf_J5_append_c97b9 (mc : Nat) (ms : Nat) (x1 : Int32) (f0_3 : Int32) (n1 : Nat) (g1 : Nat → Int32) : Option (Int32 × Nat × (Nat → Int32)) := (fJ6_stringSize_0f7a4 x1).bind fun y1 => bd ((f0_3 + y1 : Int32)) fun y2 => if 0 + (gc1 y2 n1) ≤ mc ∧ 0 + (gc2 y2 n1) ≤ ms then (hf_J5_ensureCapacityInternal_d00df (gc1 y2 n1) (gc2 y2 n1) y2 f0_3 n1 g1).bind fun z4 => bd (0 + (gc1 y2 n1)) fun kc6 => bd (0 + (gc2 y2 n1)) fun ks7 => (hf_J5_isLatin1_aae02 (z4.1) (z4.2.1) (z4.2.2)).bind fun z8 => (hf_J6_getChars_ba4f3 x1 y2 (z4.2.1) (z4.2.2)).bind fun z10 => some (y2, z10.2.1, z10.2.2) else none
set_option maxRecDepth 100000 in
set_option maxHeartbeats 4000000 in
theorem hk_J5_append_c97b9_e {ad adK adV : Nat → Nat} {tS tF : Nat} {tX sK sV : Nat → Nat} {p : Program} {l : Launch} {e : Env} {s : State} {m : MethodId} {args : Array Value} {below : List Frame} {meth : Method} {c : Code} {A : Nat → Prop} {D : va_G} {cI cF cC cS cO cB cZ : ClassId} {Q : State → Prop} {mc : Nat} {ms : Nat} {a0 : Nat} {a1 : Nat} (C : vC (vE ad adK adV tS tF tX sK sV) p l s m args meth c A D (vT7 cI cF cC cS cO cB cZ) cJ5_append_c97b9 4 RJ5) {r_o1 : Int32} {r_n2 : Nat} {r_g3 : Nat → Int32} (RET : ∀ (q : Nat → Nat) (kc ks : Nat) (pc : Nat) (lv : List (Nat × Value)), (kc ≤ mc ∧ ks ≤ ms) → decode cJ5_append_c97b9 pc = .ok (.areturn, 1) → vV p l e { frames := 4, cells := mc, slots := ms, locals := 104 } s m args below meth c A D 4 kc ks Q [(a0, .inr (1, [.ref (q 0), .int (0 : Int32), .int (0 : Int32), .int r_o1])), ((q 0), .inl (cB, r_n2, .inl (r_g3)))] pc lv [.ref a0]) {x1 : Int32} {f0_3 : Int32} {n1 : Nat} {g1 : Nat → Int32} (h : hf_J5_append_c97b9 mc ms x1 f0_3 n1 g1 = some (r_o1, r_n2, r_g3)) : vV p l e { frames := 4, cells := mc, slots := ms, locals := 104 } s m args below meth c A D 4 (0) (0) Q [(a0, .inr (1, [.ref a1, .int (0 : Int32), .int (0 : Int32), .int f0_3])), (a1, .inl (cB, n1, .inl (g1)))] 0 [(0, .ref a0), (1, .int x1)] [] := by
  rw [hf_J5_append_c97b9] at h
  refine vi_aload_n C 0 dJ5_append_c97b9_0 rfl ?_
  refine vi_get (ref := "java/lang/AbstractStringBuilder") (v := .int f0_3) C 0 3 inJ4w rfl rfl (by decide) tfJ5_79 rfl rfl dJ5_append_c97b9_1 ?_
  refine vi_istore_n (lv' := [(2, .int f0_3), (0, .ref a0), (1, .int x1)]) C dJ5_append_c97b9_4 rfl (by decide) rfl ?_
  refine vi_iload_n C 0 dJ5_append_c97b9_5 rfl ?_
  refine vi_iload_n C 2 dJ5_append_c97b9_6 rfl ?_
  obtain ⟨y1, hgy1, h⟩ := ob_bd h
  refine vi_callS1i (As := [.int x1]) (rest := [.int f0_3]) C (mJ6_stringSize_0f7a4 C.2.2.2.2.2.2.2.2.1 hgy1) 1 rfl tcJ6_stringSize_0f7a4 tlJ5_245 ttJ6_stringSize_0f7a4 tnJ6 tdJ6_stringSize_0f7a4 ⟨Nat.le_of_ble_eq_true rfl, Nat.le_of_ble_eq_true rfl⟩ ⟨Nat.zero_le _, Nat.zero_le _⟩ rfl (Nat.le_of_ble_eq_true rfl) dJ5_append_c97b9_7 ?_
  refine vi_iadd C dJ5_append_c97b9_10 ?_
  obtain ⟨y2, ey2, h⟩ := ob_nm h
  refine vi_nmi ey2 ?_
  refine vi_istore_n (lv' := [(3, .int y2), (2, .int f0_3), (0, .ref a0), (1, .int x1)]) C dJ5_append_c97b9_11 rfl (by decide) rfl ?_
  refine vi_aload_n C 2 dJ5_append_c97b9_12 rfl ?_
  refine vi_iload_n C 0 dJ5_append_c97b9_13 rfl ?_
  obtain ⟨hz3, h⟩ := ob_ok h
  obtain ⟨z4, hgz4, h⟩ := ob_bd h
  refine vi_w C (w' := [] ++ [(a0, .inr (1, [.ref a1, .int (0 : Int32), .int (0 : Int32), .int f0_3])), (a1, .inl (cB, n1, .inl (g1)))]) rfl ?_
  refine g_cv C (g_runU (x := yJ5_ensureCapacityInternal_d00df) (owner := RJ5) (Cn := RJ4) (T := TJ4) (N := 4) (ci := 1) (fs := [.ref a1, .int (0 : Int32), .int (0 : Int32), .int f0_3]) (As := [.int y2]) (rest := []) (w1 := []) (wc := [(a0, .inr (1, [.ref a1, .int (0 : Int32), .int (0 : Int32), .int f0_3])), (a1, .inl (cB, n1, .inl (g1)))]) C (hm_J5_ensureCapacityInternal_d00df (a0 := a0) (a1 := a1) (mc := (gc1 y2 n1)) (ms := (gc2 y2 n1)) (x1 := y2) (f0_3 := f0_3) (n1 := n1) (g1 := g1) (r_o1 := z4.1) (r_n2 := z4.2.1) (r_g3 := z4.2.2) C.2.2.2.2.2.2.2.2.1 hgz4) 1 rfl tcJ5_ensureCapacityInternal_d00df tlJ5_100 tiJ5_ensureCapacityInternal_d00df tsmJ5_ensureCapacityInternal_d00df (va_Decl.of (C.2.2.2.2.1 _ tiJ5_ensureCapacityInternal_d00df) (C.2.2.2.2.1 _ tcJ5_ensureCapacityInternal_d00df)) (g_selPriv (by decide) (C.2.2.2.2.1 _ tinst_J4) (va_Nw.use rfl ((vE_x C).2.2.2.2.2 _ (List.mem_of_getElem? (i := 1) rfl))) (C.2.2.2.2.1 _ tiJ5_ensureCapacityInternal_d00df) (C.2.2.2.2.1 _ tsmJ5_ensureCapacityInternal_d00df)) tnJ5 (by decide) tdJ5_ensureCapacityInternal_d00df.2.2 ⟨Nat.le_of_ble_eq_true rfl, Nat.le_of_ble_eq_true rfl⟩ hz3 0 rfl rfl rfl (Nat.le_of_ble_eq_true rfl) dJ5_append_c97b9_14 rfl) rfl (fun q5 => ?_)
  refine vi_w C (w' := [(a0, .inr (1, [.ref (q5 0), .int (0 : Int32), .int (0 : Int32), .int (z4.1)])), ((q5 0), .inl (cB, z4.2.1, .inl (z4.2.2)))]) rfl ?_
  obtain ⟨kc6, ekc6, h⟩ := ob_nm h
  obtain ⟨ks7, eks7, h⟩ := ob_nm h
  refine vi_kk ekc6.symm eks7.symm ?_
  rw [← ekc6, ← eks7] at hz3
  refine vi_aload_n C 2 dJ5_append_c97b9_17 rfl ?_
  obtain ⟨z8, hgz8, h⟩ := ob_bd h
  refine vi_w C (w' := [] ++ [(a0, .inr (1, [.ref (q5 0), .int (0 : Int32), .int (0 : Int32), .int (z4.1)])), ((q5 0), .inl (cB, z4.2.1, .inl (z4.2.2)))]) rfl ?_
  refine g_ci C (g_runU (x := yJ5_isLatin1_aae02) (owner := RJ5) (Cn := RJ4) (T := TJ4) (N := 4) (ci := 1) (fs := [.ref (q5 0), .int (0 : Int32), .int (0 : Int32), .int (z4.1)]) (As := []) (rest := []) (w1 := []) (wc := [(a0, .inr (1, [.ref (q5 0), .int (0 : Int32), .int (0 : Int32), .int (z4.1)])), ((q5 0), .inl (cB, z4.2.1, .inl (z4.2.2)))]) C (hm_J5_isLatin1_aae02 (a0 := a0) (a1 := (q5 0)) (f0_3 := (z4.1)) (n1 := (z4.2.1)) (g1 := (z4.2.2))  C.2.2.2.2.2.2.2.2.1 hgz8) 0 rfl tcJ5_isLatin1_aae02 tlJ5_83 tiJ5_isLatin1_aae02 tsmJ5_isLatin1_aae02 (va_Decl.of (C.2.2.2.2.1 _ tiJ5_isLatin1_aae02) (C.2.2.2.2.1 _ tcJ5_isLatin1_aae02)) (C.2.2.2.2.1 _ tslJ5_isLatin1_aae02) tnJ5 (by decide) tdJ5_isLatin1_aae02.2.2 ⟨Nat.le_of_ble_eq_true rfl, Nat.le_of_ble_eq_true rfl⟩ hz3 0 rfl rfl rfl (Nat.le_of_ble_eq_true rfl) dJ5_append_c97b9_18 rfl) rfl (fun q9 => ?_)
  refine vi_w C (w' := [(a0, .inr (1, [.ref (q5 0), .int (0 : Int32), .int (0 : Int32), .int (z4.1)])), ((q5 0), .inl (cB, z4.2.1, .inl (z4.2.2)))]) rfl ?_
  refine vi_kk (kc1 := kc6) (ks1 := ks7) rfl rfl ?_
  refine vi_if_eq (tgt := 37) C dJ5_append_c97b9_21 (by decide) (fun hc => absurd hc (by decide)) (fun _ => ?_)
  refine vi_iload_n C 3 dJ5_append_c97b9_24 rfl ?_
  refine vi_iload_n C 0 dJ5_append_c97b9_25 rfl ?_
  refine vi_aload_n C 2 dJ5_append_c97b9_26 rfl ?_
  refine vi_get (ref := "java/lang/AbstractStringBuilder") (v := .ref (q5 0)) C 0 0 inJ4w rfl rfl (by decide) tfJ5_15 rfl rfl dJ5_append_c97b9_27 ?_
  obtain ⟨z10, hgz10, h⟩ := ob_bd h
  refine vi_w C (w' := [(a0, .inr (1, [.ref (q5 0), .int (0 : Int32), .int (0 : Int32), .int (z4.1)]))] ++ [((q5 0), .inl (cB, z4.2.1, .inl (z4.2.2)))]) rfl ?_
  refine g_ci C (g_runS (As := [.int x1, .int y2, .ref (q5 0)]) (rest := []) (w1 := [(a0, .inr (1, [.ref (q5 0), .int (0 : Int32), .int (0 : Int32), .int (z4.1)]))]) (wc := [((q5 0), .inl (cB, z4.2.1, .inl (z4.2.2)))]) C (hm_J6_getChars_ba4f3 (a0 := (q5 0)) (x0 := x1) (x1 := y2) (n0 := (z4.2.1)) (g0 := (z4.2.2)) (r0 := z10.1) (r_n1 := z10.2.1) (r_g2 := z10.2.2) C.2.2.2.2.2.2.2.2.1 hgz10) 3 rfl tcJ6_getChars_ba4f3 tlJ5_248 ttJ6_getChars_ba4f3 tnJ6 tdJ6_getChars_ba4f3 ⟨Nat.le_of_ble_eq_true rfl, Nat.le_of_ble_eq_true rfl⟩ hz3 rfl (Nat.le_of_ble_eq_true rfl) dJ5_append_c97b9_30 rfl) rfl (fun q11 => ?_)
  refine vi_w C (w' := [(a0, .inr (1, [.ref (q5 0), .int (0 : Int32), .int (0 : Int32), .int (z4.1)])), ((q5 0), .inl (cB, z10.2.1, .inl (z10.2.2)))]) rfl ?_
  refine vi_kk (kc1 := kc6) (ks1 := ks7) rfl rfl ?_
  refine vi_pop C dJ5_append_c97b9_33 rfl ?_
  refine vi_goto (tgt := 48) C dJ5_append_c97b9_34 (by decide) ?_
  refine vi_aload_n C 2 dJ5_append_c97b9_48 rfl ?_
  refine vi_iload_n C 0 dJ5_append_c97b9_49 rfl ?_
  refine vi_put (ref := "java/lang/AbstractStringBuilder") (ty := tyJ4 3) (w' := [(a0, .inr (1, [.ref (q5 0), .int (0 : Int32), .int (0 : Int32), .int y2])), ((q5 0), .inl (cB, z10.2.1, .inl (z10.2.2)))]) C 0 3 inJ4w tyJ4 tyJ4_ok nmJ4 rfl rfl (by decide) tfJ5_79 rfl rfl (tyJ4_ok 3 (by decide)) rfl rfl (by show 3 < 4; decide) rfl dJ5_append_c97b9_50 ?_
  refine vi_aload_n C 2 dJ5_append_c97b9_53 rfl ?_
  cases h
  exact RET (fun j => [(q5 0)].getD j 0) _ _ _ _ hz3 dJ5_append_c97b9_54
theorem hm_J5_append_c97b9 {ad adK adV : Nat → Nat} {tS tF : Nat} {tX sK sV : Nat → Nat} (hE : vEok (vE ad adK adV tS tF tX sK sV)) {l : Launch} {D : va_G} {cI cF cC cS cO cB cZ : ClassId} {mc : Nat} {ms : Nat} {a0 : Nat} {a1 : Nat} {r_o1 : Int32} {r_n2 : Nat} {r_g3 : Nat → Int32} {x1 : Int32} {f0_3 : Int32} {n1 : Nat} {g1 : Nat → Int32} (h : hf_J5_append_c97b9 mc ms x1 f0_3 n1 g1 = some (r_o1, r_n2, r_g3)) : vG (vE ad adK adV tS tF tX sK sV) l yJ5_append_c97b9 cJ5_append_c97b9 4 (some (FieldType.object "java/lang/AbstractStringBuilder")) 4 104 mc ms D (vT7 cI cF cC cS cO cB cZ) [.ref a0, .int x1] [(a0, .inr (1, [.ref a1, .int (0 : Int32), .int (0 : Int32), .int f0_3])), (a1, .inl (cB, n1, .inl (g1)))] (gQr D (fun q => [(a0, .inr (1, [.ref (q 0), .int (0 : Int32), .int (0 : Int32), .int r_o1])), ((q 0), .inl (cB, r_n2, .inl (r_g3)))]) (fun q => a0)) :=
  vG_ofF hE (by decide +kernel) (Nat.le_of_ble_eq_true rfl) (fun p e s m args below meth c A C hr hin => hk_J5_append_c97b9_e C (fun q kc ks pc lv hk hd => g_retr (WQ := (fun q => [(a0, .inr (1, [.ref (q 0), .int (0 : Int32), .int (0 : Int32), .int r_o1])), ((q 0), .inl (cB, r_n2, .inl (r_g3)))])) (ra := fun q => a0) C hr (Or.inl ⟨_, rfl⟩) q rfl rfl hk hd) h)
-- ---- J4_append_bf812
def hf_J4_append_bf812 (mc : Nat) (ms : Nat) (x1 : Int32) (f0_3 : Int32) (n1 : Nat) (g1 : Nat → Int32) : Option (Int32 × Nat × (Nat → Int32)) := if 0 + (gc1 (f0_3 + (fJ6_stringSize_0f7a4 x1).getD 0) n1) ≤ mc ∧ 0 + (gc2 (f0_3 + (fJ6_stringSize_0f7a4 x1).getD 0) n1) ≤ ms then (hf_J5_append_c97b9 (gc1 (f0_3 + (fJ6_stringSize_0f7a4 x1).getD 0) n1) (gc2 (f0_3 + (fJ6_stringSize_0f7a4 x1).getD 0) n1) x1 f0_3 n1 g1).bind fun z2 => bd (0 + (gc1 (f0_3 + (fJ6_stringSize_0f7a4 x1).getD 0) n1)) fun kc4 => bd (0 + (gc2 (f0_3 + (fJ6_stringSize_0f7a4 x1).getD 0) n1)) fun ks5 => some (z2.1, z2.2.1, z2.2.2) else none
set_option maxRecDepth 100000 in
set_option maxHeartbeats 4000000 in
theorem hk_J4_append_bf812_e {ad adK adV : Nat → Nat} {tS tF : Nat} {tX sK sV : Nat → Nat} {p : Program} {l : Launch} {e : Env} {s : State} {m : MethodId} {args : Array Value} {below : List Frame} {meth : Method} {c : Code} {A : Nat → Prop} {D : va_G} {cI cF cC cS cO cB cZ : ClassId} {Q : State → Prop} {mc : Nat} {ms : Nat} {a0 : Nat} {a1 : Nat} (C : vC (vE ad adK adV tS tF tX sK sV) p l s m args meth c A D (vT7 cI cF cC cS cO cB cZ) cJ4_append_bf812 2 RJ4) {r_o1 : Int32} {r_n2 : Nat} {r_g3 : Nat → Int32} (RET : ∀ (q : Nat → Nat) (kc ks : Nat) (pc : Nat) (lv : List (Nat × Value)), (kc ≤ mc ∧ ks ≤ ms) → decode cJ4_append_bf812 pc = .ok (.areturn, 1) → vV p l e { frames := 5, cells := mc, slots := ms, locals := 127 } s m args below meth c A D 2 kc ks Q [(a0, .inr (1, [.ref (q 0), .int (0 : Int32), .int (0 : Int32), .int r_o1])), ((q 0), .inl (cB, r_n2, .inl (r_g3)))] pc lv [.ref a0]) {x1 : Int32} {f0_3 : Int32} {n1 : Nat} {g1 : Nat → Int32} (h : hf_J4_append_bf812 mc ms x1 f0_3 n1 g1 = some (r_o1, r_n2, r_g3)) : vV p l e { frames := 5, cells := mc, slots := ms, locals := 127 } s m args below meth c A D 2 (0) (0) Q [(a0, .inr (1, [.ref a1, .int (0 : Int32), .int (0 : Int32), .int f0_3])), (a1, .inl (cB, n1, .inl (g1)))] 0 [(0, .ref a0), (1, .int x1)] [] := by
  rw [hf_J4_append_bf812] at h
  refine vi_aload_n C 0 dJ4_append_bf812_0 rfl ?_
  refine vi_iload_n C 1 dJ4_append_bf812_1 rfl ?_
  obtain ⟨hz1, h⟩ := ob_ok h
  obtain ⟨z2, hgz2, h⟩ := ob_bd h
  refine vi_w C (w' := [] ++ [(a0, .inr (1, [.ref a1, .int (0 : Int32), .int (0 : Int32), .int f0_3])), (a1, .inl (cB, n1, .inl (g1)))]) rfl ?_
  refine g_cr C (g_runSU (T := TJ4) (N := 4) (As := [.int x1]) (rest := []) (w1 := []) (wc := [(a0, .inr (1, [.ref a1, .int (0 : Int32), .int (0 : Int32), .int f0_3])), (a1, .inl (cB, n1, .inl (g1)))]) C (hm_J5_append_c97b9 (a0 := a0) (a1 := a1) (mc := (gc1 (f0_3 + (fJ6_stringSize_0f7a4 x1).getD 0) n1)) (ms := (gc2 (f0_3 + (fJ6_stringSize_0f7a4 x1).getD 0) n1)) (x1 := x1) (f0_3 := f0_3) (n1 := n1) (g1 := g1) (r_o1 := z2.1) (r_n2 := z2.2.1) (r_g3 := z2.2.2) C.2.2.2.2.2.2.2.2.1 hgz2) 1 rfl tcJ5_append_c97b9 tlJ4_53 tiJ5_append_c97b9 tsmJ5_append_c97b9 tsuJ4 tnJ5 (by decide) tdJ5_append_c97b9.2.2 ⟨Nat.le_of_ble_eq_true rfl, Nat.le_of_ble_eq_true rfl⟩ hz1 0 rfl rfl rfl rfl (Nat.le_of_ble_eq_true rfl) dJ4_append_bf812_2 rfl) rfl (fun q3 => ?_)
  refine vi_w C (w' := [(a0, .inr (1, [.ref (q3 0), .int (0 : Int32), .int (0 : Int32), .int (z2.1)])), ((q3 0), .inl (cB, z2.2.1, .inl (z2.2.2)))]) rfl ?_
  obtain ⟨kc4, ekc4, h⟩ := ob_nm h
  obtain ⟨ks5, eks5, h⟩ := ob_nm h
  refine vi_kk ekc4.symm eks5.symm ?_
  rw [← ekc4, ← eks5] at hz1
  refine vi_pop C dJ4_append_bf812_5 rfl ?_
  refine vi_aload_n C 0 dJ4_append_bf812_6 rfl ?_
  cases h
  exact RET (fun j => [(q3 0)].getD j 0) _ _ _ _ hz1 dJ4_append_bf812_7
theorem hm_J4_append_bf812 {ad adK adV : Nat → Nat} {tS tF : Nat} {tX sK sV : Nat → Nat} (hE : vEok (vE ad adK adV tS tF tX sK sV)) {l : Launch} {D : va_G} {cI cF cC cS cO cB cZ : ClassId} {mc : Nat} {ms : Nat} {a0 : Nat} {a1 : Nat} {r_o1 : Int32} {r_n2 : Nat} {r_g3 : Nat → Int32} {x1 : Int32} {f0_3 : Int32} {n1 : Nat} {g1 : Nat → Int32} (h : hf_J4_append_bf812 mc ms x1 f0_3 n1 g1 = some (r_o1, r_n2, r_g3)) : vG (vE ad adK adV tS tF tX sK sV) l yJ4_append_bf812 cJ4_append_bf812 2 (some (FieldType.object "java/lang/StringBuilder")) 5 127 mc ms D (vT7 cI cF cC cS cO cB cZ) [.ref a0, .int x1] [(a0, .inr (1, [.ref a1, .int (0 : Int32), .int (0 : Int32), .int f0_3])), (a1, .inl (cB, n1, .inl (g1)))] (gQr D (fun q => [(a0, .inr (1, [.ref (q 0), .int (0 : Int32), .int (0 : Int32), .int r_o1])), ((q 0), .inl (cB, r_n2, .inl (r_g3)))]) (fun q => a0)) :=
  vG_ofF hE (by decide +kernel) (Nat.le_of_ble_eq_true rfl) (fun p e s m args below meth c A C hr hin => hk_J4_append_bf812_e C (fun q kc ks pc lv hk hd => g_retr (WQ := (fun q => [(a0, .inr (1, [.ref (q 0), .int (0 : Int32), .int (0 : Int32), .int r_o1])), ((q 0), .inl (cB, r_n2, .inl (r_g3)))])) (ra := fun q => a0) C hr (Or.inl ⟨_, rfl⟩) q rfl rfl hk hd) h)
-- ---- J0_coder_7d493
def hf_J0_coder_7d493 (n1 : Nat) (g1 : Nat → Int32) : Option (Unit) := some ()
set_option maxRecDepth 100000 in
set_option maxHeartbeats 4000000 in
theorem hk_J0_coder_7d493_e {ad adK adV : Nat → Nat} {tS tF : Nat} {tX sK sV : Nat → Nat} {p : Program} {l : Launch} {e : Env} {s : State} {m : MethodId} {args : Array Value} {below : List Frame} {meth : Method} {c : Code} {A : Nat → Prop} {D : va_G} {cI cF cC cS cO cB cZ : ClassId} {Q : State → Prop} {n1 : Nat} {g1 : Nat → Int32} {a0 : Nat} {a1 : Nat} (C : vC (vE ad adK adV tS tF tX sK sV) p l s m args meth c A D (vT7 cI cF cC cS cO cB cZ) cJ0_coder_7d493 1 RJ0) (RET : ∀ (q : Nat → Nat) (kc ks : Nat) (pc : Nat) (lv : List (Nat × Value)), True → decode cJ0_coder_7d493 pc = .ok (.ireturn, 1) → vV p l e { frames := 0, cells := 0, slots := 0, locals := 0 } s m args below meth c A D 1 0 0 Q [(a0, .inr (0, [.ref a1, .int (0 : Int32), .int (0 : Int32), .int (0 : Int32)])), (a1, .inl (cB, n1, .inl (g1)))] pc lv [.int (0 : Int32)]) (h : hf_J0_coder_7d493 n1 g1 = some ()) : vV p l e { frames := 0, cells := 0, slots := 0, locals := 0 } s m args below meth c A D 1 0 0 Q [(a0, .inr (0, [.ref a1, .int (0 : Int32), .int (0 : Int32), .int (0 : Int32)])), (a1, .inl (cB, n1, .inl (g1)))] 0 [(0, .ref a0)] [] := by
  rw [hf_J0_coder_7d493] at h
  refine vi_getCo C tfJ0_38 dJ0_coder_7d493_0 ?_
  refine vi_if_eq (tgt := 13) C dJ0_coder_7d493_3 (by decide) (fun hc => absurd hc (by decide)) (fun _ => ?_)
  refine vi_aload_n C 0 dJ0_coder_7d493_6 rfl ?_
  refine vi_get (ref := "java/lang/String") (v := .int (0 : Int32)) C 0 1 inJ0w rfl rfl (by decide) tfJ0_15 rfl rfl dJ0_coder_7d493_7 ?_
  refine vi_goto (tgt := 14) C dJ0_coder_7d493_10 (by decide) ?_
  cases h
  exact RET (fun j => [].getD j 0) 0 0 _ _ trivial dJ0_coder_7d493_14
theorem hm_J0_coder_7d493 {ad adK adV : Nat → Nat} {tS tF : Nat} {tX sK sV : Nat → Nat} (hE : vEok (vE ad adK adV tS tF tX sK sV)) {l : Launch} {D : va_G} {cI cF cC cS cO cB cZ : ClassId} {n1 : Nat} {g1 : Nat → Int32} {a0 : Nat} {a1 : Nat} (h : hf_J0_coder_7d493 n1 g1 = some ()) : vG (vE ad adK adV tS tF tX sK sV) l yJ0_coder_7d493 cJ0_coder_7d493 1 (some .byte) 0 0 0 0 D (vT7 cI cF cC cS cO cB cZ) [.ref a0] [(a0, .inr (0, [.ref a1, .int (0 : Int32), .int (0 : Int32), .int (0 : Int32)])), (a1, .inl (cB, n1, .inl (g1)))] (gQi D (fun q => [(a0, .inr (0, [.ref a1, .int (0 : Int32), .int (0 : Int32), .int (0 : Int32)])), (a1, .inl (cB, n1, .inl (g1)))]) (0 : Int32)) :=
  vG_ofF hE (by decide +kernel) (Nat.le_of_ble_eq_true rfl) (fun p e s m args below meth c A C hr hin => hk_J0_coder_7d493_e C (fun q kc ks pc lv hk hd => g_reti (WQ := (fun q => [(a0, .inr (0, [.ref a1, .int (0 : Int32), .int (0 : Int32), .int (0 : Int32)])), (a1, .inl (cB, n1, .inl (g1)))])) C hr rfl q rfl ⟨Nat.le_refl 0, Nat.le_refl 0⟩ hd) h)
-- ---- J0_coder_7d493_K
def hf_J0_coder_7d493_K (ki : Nat) : Option (Unit) := if ki < 3 then some () else none
set_option maxRecDepth 100000 in
set_option maxHeartbeats 4000000 in
theorem hk_J0_coder_7d493_K_e {ad adK adV : Nat → Nat} {tS tF : Nat} {tX sK sV : Nat → Nat} {p : Program} {l : Launch} {e : Env} {s : State} {m : MethodId} {args : Array Value} {below : List Frame} {meth : Method} {c : Code} {A : Nat → Prop} {D : va_G} {cI cF cC cS cO cB cZ : ClassId} {Q : State → Prop} {ki : Nat} (C : vC (vE ad adK adV tS tF tX sK sV) p l s m args meth c A D (vT7 cI cF cC cS cO cB cZ) cJ0_coder_7d493 1 RJ0) (RET : ∀ (q : Nat → Nat) (kc ks : Nat) (pc : Nat) (lv : List (Nat × Value)), True → decode cJ0_coder_7d493 pc = .ok (.ireturn, 1) → vV p l e { frames := 0, cells := 0, slots := 0, locals := 0 } s m args below meth c A D 1 0 0 Q [] pc lv [.int (0 : Int32)]) (h : hf_J0_coder_7d493_K ki = some ()) : vV p l e { frames := 0, cells := 0, slots := 0, locals := 0 } s m args below meth c A D 1 0 0 Q [] 0 [(0, .ref (sK ki))] [] := by
  rw [hf_J0_coder_7d493_K] at h
  refine vi_getCo C tfJ0_38 dJ0_coder_7d493_0 ?_
  refine vi_if_eq (tgt := 13) C dJ0_coder_7d493_3 (by decide) (fun hc => absurd hc (by decide)) (fun _ => ?_)
  refine vi_aload_n C 0 dJ0_coder_7d493_6 rfl ?_
  obtain ⟨hz1, h⟩ := ob_ok h
  refine vi_getCoderS C hz1 tfJ0_15 dJ0_coder_7d493_7 ?_
  refine vi_goto (tgt := 14) C dJ0_coder_7d493_10 (by decide) ?_
  cases h
  exact RET (fun j => [].getD j 0) 0 0 _ _ trivial dJ0_coder_7d493_14
theorem hm_J0_coder_7d493_K {ad adK adV : Nat → Nat} {tS tF : Nat} {tX sK sV : Nat → Nat} (hE : vEok (vE ad adK adV tS tF tX sK sV)) {l : Launch} {D : va_G} {cI cF cC cS cO cB cZ : ClassId} {ki : Nat} (h : hf_J0_coder_7d493_K ki = some ()) : vG (vE ad adK adV tS tF tX sK sV) l yJ0_coder_7d493 cJ0_coder_7d493 1 (some .byte) 0 0 0 0 D (vT7 cI cF cC cS cO cB cZ) [.ref (sK ki)] [] (gQi D (fun q => []) (0 : Int32)) :=
  vG_ofF hE (by decide +kernel) (Nat.le_of_ble_eq_true rfl) (fun p e s m args below meth c A C hr hin => hk_J0_coder_7d493_K_e C (fun q kc ks pc lv hk hd => g_reti (WQ := (fun q => [])) C hr rfl q rfl ⟨Nat.le_refl 0, Nat.le_refl 0⟩ hd) h)
