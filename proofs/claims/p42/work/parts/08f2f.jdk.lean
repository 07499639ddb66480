-- ---- J1_equals_b5fdf
def hf_J1_equals_b5fdf_9 (n0 : Nat) (g0 : Nat → Int32) (n1 : Nat) (g1 : Nat → Int32) : Nat → Int32 → Option (Int32)
  | 0, _ => none
  | n + 1, x1 => (if Int32.ofNat n0 ≤ x1 then some ((1 : Int32)) else if x1 < 0 ∨ n0 ≤ Int32.toNatClampNeg x1 then none else if x1 < 0 ∨ n1 ≤ Int32.toNatClampNeg x1 then none else (if g0 (Int32.toNatClampNeg x1) = g1 (Int32.toNatClampNeg x1) then bd ((x1 + 1 : Int32)) fun y5 => hf_J1_equals_b5fdf_9 n0 g0 n1 g1 n y5 else some ((0 : Int32))))
set_option maxRecDepth 100000 in
set_option maxHeartbeats 4000000 in
theorem hk_J1_equals_b5fdf_9 {ad adK adV : Nat → Nat} {tS tF : Nat} {tX sK sV : Nat → Nat} {p : Program} {l : Launch} {e : Env} {s : State} {m : MethodId} {args : Array Value} {below : List Frame} {meth : Method} {c : Code} {A : Nat → Prop} {D : va_G} {cI cF cC cS cO cB cZ : ClassId} {Q : State → Prop} {n0 : Nat} {g0 : Nat → Int32} {n1 : Nat} {g1 : Nat → Int32} {a0 : Nat} {a1 : Nat} (C : vC (vE ad adK adV tS tF tX sK sV) p l s m args meth c A D (vT7 cI cF cC cS cO cB cZ) cJ1_equals_b5fdf 3 RJ1) {r0 : Int32} (RET : ∀ (q : Nat → Nat) (kc ks : Nat) (pc : Nat) (lv : List (Nat × Value)), True → decode cJ1_equals_b5fdf pc = .ok (.ireturn, 1) → (r0 = 0 ∨ r0 = 1) → vV p l e { frames := 0, cells := 0, slots := 0, locals := 0 } s m args below meth c A D 3 0 0 Q [(a0, .inl (cB, n0, .inl (g0))), (a1, .inl (cB, n1, .inl (g1)))] pc lv [.int r0]) : ∀ (n : Nat) (x1 : Int32), True → hf_J1_equals_b5fdf_9 n0 g0 n1 g1 n x1 = some (r0) → vV p l e { frames := 0, cells := 0, slots := 0, locals := 0 } s m args below meth c A D 3 0 0 Q [(a0, .inl (cB, n0, .inl (g0))), (a1, .inl (cB, n1, .inl (g1)))] 9 [(0, .ref a0), (1, .ref a1), (2, .int x1)] [] := by
  intro n
  induction n with
  | zero => intro x1 hkc h; rw [hf_J1_equals_b5fdf_9] at h; cases h
  | succ n ih =>
    intro x1 hkc h
    rw [hf_J1_equals_b5fdf_9] at h
    refine vi_iload_n C 2 dJ1_equals_b5fdf_9 rfl ?_
    refine vi_aload_n C 0 dJ1_equals_b5fdf_10 rfl ?_
    refine vi_alen (v := Int32.ofNat n0) C 0 5 rfl rfl rfl dJ1_equals_b5fdf_11 ?_
    refine vi_icmp_ge (tgt := 32) C dJ1_equals_b5fdf_12 (by decide) (fun hc1 => ?_) (fun hc1 => ?_)
    · have h := ob_t h hc1
      refine vi_iconst (v := 1) C dJ1_equals_b5fdf_32 (by decide) ?_
      cases h
      exact RET (fun j => [].getD j 0) 0 0 _ _ hkc dJ1_equals_b5fdf_33 (by decide)
    · have h := ob_f h hc1
      refine vi_aload_n C 0 dJ1_equals_b5fdf_15 rfl ?_
      refine vi_iload_n C 2 dJ1_equals_b5fdf_16 rfl ?_
      obtain ⟨hz2, h⟩ := ob_if h
      refine vi_bald C 0 5 rfl rfl hz2 dJ1_equals_b5fdf_17 ?_
      refine vi_aload_n C 1 dJ1_equals_b5fdf_18 rfl ?_
      refine vi_iload_n C 2 dJ1_equals_b5fdf_19 rfl ?_
      obtain ⟨hz3, h⟩ := ob_if h
      refine vi_bald C 1 5 rfl rfl hz3 dJ1_equals_b5fdf_20 ?_
      refine vi_icmp_eq (tgt := 26) C dJ1_equals_b5fdf_21 (by decide) (fun hc4 => ?_) (fun hc4 => ?_)
      · have h := ob_t h hc4
        obtain ⟨y5, ey5, h⟩ := ob_nm h
        refine vi_iinc (v := y5) (lv' := [(2, .int y5), (0, .ref a0), (1, .ref a1)]) C 2 dJ1_equals_b5fdf_26 rfl (by rw [ey5]; rfl) (by decide) rfl ?_
        refine vi_goto (tgt := 9) C dJ1_equals_b5fdf_29 (by decide) ?_
        refine vi_sub C [1, 2, 0] rfl ?_
        exact ih _ hkc h
      · have h := ob_f h hc4
        refine vi_iconst (v := 0) C dJ1_equals_b5fdf_24 (by decide) ?_
        cases h
        exact RET (fun j => [].getD j 0) 0 0 _ _ hkc dJ1_equals_b5fdf_25 (by decide)
def hf_J1_equals_b5fdf (n0 : Nat) (g0 : Nat → Int32) (n1 : Nat) (g1 : Nat → Int32) : Option (Int32) := (if Int32.ofNat n0 = Int32.ofNat n1 then hf_J1_equals_b5fdf_9 n0 g0 n1 g1 vF (0 : Int32) else some ((0 : Int32)))
set_option maxRecDepth 100000 in
set_option maxHeartbeats 4000000 in
theorem hk_J1_equals_b5fdf_e {ad adK adV : Nat → Nat} {tS tF : Nat} {tX sK sV : Nat → Nat} {p : Program} {l : Launch} {e : Env} {s : State} {m : MethodId} {args : Array Value} {below : List Frame} {meth : Method} {c : Code} {A : Nat → Prop} {D : va_G} {cI cF cC cS cO cB cZ : ClassId} {Q : State → Prop} {n0 : Nat} {g0 : Nat → Int32} {n1 : Nat} {g1 : Nat → Int32} {a0 : Nat} {a1 : Nat} (C : vC (vE ad adK adV tS tF tX sK sV) p l s m args meth c A D (vT7 cI cF cC cS cO cB cZ) cJ1_equals_b5fdf 3 RJ1) {r0 : Int32} (RET : ∀ (q : Nat → Nat) (kc ks : Nat) (pc : Nat) (lv : List (Nat × Value)), True → decode cJ1_equals_b5fdf pc = .ok (.ireturn, 1) → (r0 = 0 ∨ r0 = 1) → vV p l e { frames := 0, cells := 0, slots := 0, locals := 0 } s m args below meth c A D 3 0 0 Q [(a0, .inl (cB, n0, .inl (g0))), (a1, .inl (cB, n1, .inl (g1)))] pc lv [.int r0]) (h : hf_J1_equals_b5fdf n0 g0 n1 g1 = some (r0)) : vV p l e { frames := 0, cells := 0, slots := 0, locals := 0 } s m args below meth c A D 3 0 0 Q [(a0, .inl (cB, n0, .inl (g0))), (a1, .inl (cB, n1, .inl (g1)))] 0 [(0, .ref a0), (1, .ref a1)] [] := by
  rw [hf_J1_equals_b5fdf] at h
  refine vi_aload_n C 0 dJ1_equals_b5fdf_0 rfl ?_
  refine vi_alen (v := Int32.ofNat n0) C 0 5 rfl rfl rfl dJ1_equals_b5fdf_1 ?_
  refine vi_aload_n C 1 dJ1_equals_b5fdf_2 rfl ?_
  refine vi_alen (v := Int32.ofNat n1) C 1 5 rfl rfl rfl dJ1_equals_b5fdf_3 ?_
  refine vi_icmp_ne (tgt := 34) C dJ1_equals_b5fdf_4 (by decide) (fun hc1 => ?_) (fun hc1 => ?_)
  · have h := ob_f h hc1
    refine vi_iconst (v := 0) C dJ1_equals_b5fdf_34 (by decide) ?_
    cases h
    exact RET (fun j => [].getD j 0) 0 0 _ _ trivial dJ1_equals_b5fdf_35 (by decide)
  · have h := ob_t h hc1
    refine vi_iconst (v := 0) C dJ1_equals_b5fdf_7 (by decide) ?_
    refine vi_istore_n (lv' := [(2, .int (0 : Int32)), (0, .ref a0), (1, .ref a1)]) C dJ1_equals_b5fdf_8 rfl (by decide) rfl ?_
    refine vi_sub C [1, 2, 0] rfl ?_
    exact hk_J1_equals_b5fdf_9 C RET  vF _ trivial h
theorem hm_J1_equals_b5fdf {ad adK adV : Nat → Nat} {tS tF : Nat} {tX sK sV : Nat → Nat} (hE : vEok (vE ad adK adV tS tF tX sK sV)) {l : Launch} {D : va_G} {cI cF cC cS cO cB cZ : ClassId} {n0 : Nat} {g0 : Nat → Int32} {n1 : Nat} {g1 : Nat → Int32} {a0 : Nat} {a1 : Nat} {r0 : Int32} (h : hf_J1_equals_b5fdf n0 g0 n1 g1 = some (r0)) : vG (vE ad adK adV tS tF tX sK sV) l yJ1_equals_b5fdf cJ1_equals_b5fdf 3 (some .boolean) 0 0 0 0 D (vT7 cI cF cC cS cO cB cZ) [.ref a0, .ref a1] [(a0, .inl (cB, n0, .inl (g0))), (a1, .inl (cB, n1, .inl (g1)))] (gQi D (fun q => [(a0, .inl (cB, n0, .inl (g0))), (a1, .inl (cB, n1, .inl (g1)))]) r0) :=
  vG_ofF hE (by decide +kernel) (Nat.le_of_ble_eq_true rfl) (fun p e s m args below meth c A C hr hin => hk_J1_equals_b5fdf_e C (fun q kc ks pc lv hk hd hz => g_reti (WQ := (fun q => [(a0, .inl (cB, n0, .inl (g0))), (a1, .inl (cB, n1, .inl (g1)))])) C hr (by rcases hz with rfl | rfl <;> rfl) q rfl ⟨Nat.le_refl 0, Nat.le_refl 0⟩ hd) h)
-- ---- J0_equals_9ea2d
def hf_J0_equals_9ea2d_36 (n1 : Nat) (g1 : Nat → Int32) (n3 : Nat) (g3 : Nat → Int32) : Option (Int32) := (hf_J1_equals_b5fdf n1 g1 n3 g3).bind fun z1 => (if z1 = 0 then some ((0 : Int32)) else some ((1 : Int32)))
set_option maxRecDepth 100000 in
set_option maxHeartbeats 4000000 in
theorem hk_J0_equals_9ea2d_36 {ad adK adV : Nat → Nat} {tS tF : Nat} {tX sK sV : Nat → Nat} {p : Program} {l : Launch} {e : Env} {s : State} {m : MethodId} {args : Array Value} {below : List Frame} {meth : Method} {c : Code} {A : Nat → Prop} {D : va_G} {cI cF cC cS cO cB cZ : ClassId} {Q : State → Prop} {n1 : Nat} {g1 : Nat → Int32} {n3 : Nat} {g3 : Nat → Int32} {a0 : Nat} {a1 : Nat} {a2 : Nat} {a3 : Nat} (C : vC (vE ad adK adV tS tF tX sK sV) p l s m args meth c A D (vT7 cI cF cC cS cO cB cZ) cJ0_equals_9ea2d 3 RJ0) {r0 : Int32} (RET : ∀ (q : Nat → Nat) (kc ks : Nat) (pc : Nat) (lv : List (Nat × Value)), True → decode cJ0_equals_9ea2d pc = .ok (.ireturn, 1) → (r0 = 0 ∨ r0 = 1) → vV p l e { frames := 1, cells := 0, slots := 0, locals := 22 } s m args below meth c A D 3 0 0 Q [(a0, .inr (0, [.ref a1, .int (0 : Int32), .int (0 : Int32), .int (0 : Int32)])), (a1, .inl (cB, n1, .inl (g1))), (a2, .inr (0, [.ref a3, .int (0 : Int32), .int (0 : Int32), .int (0 : Int32)])), (a3, .inl (cB, n3, .inl (g3)))] pc lv [.int r0]) : True → hf_J0_equals_9ea2d_36 n1 g1 n3 g3 = some (r0) → vV p l e { frames := 1, cells := 0, slots := 0, locals := 22 } s m args below meth c A D 3 0 0 Q [(a0, .inr (0, [.ref a1, .int (0 : Int32), .int (0 : Int32), .int (0 : Int32)])), (a1, .inl (cB, n1, .inl (g1))), (a2, .inr (0, [.ref a3, .int (0 : Int32), .int (0 : Int32), .int (0 : Int32)])), (a3, .inl (cB, n3, .inl (g3)))] 36 [(0, .ref a0), (2, .ref a2)] [] := by
  intro hkc h
  rw [hf_J0_equals_9ea2d_36] at h
  refine vi_aload_n C 0 dJ0_equals_9ea2d_36 rfl ?_
  refine vi_get (ref := "java/lang/String") (v := .ref a1) C 0 0 inJ0w rfl rfl (by decide) tfJ0_9 rfl rfl dJ0_equals_9ea2d_37 ?_
  refine vi_aload_n C 1 dJ0_equals_9ea2d_40 rfl ?_
  refine vi_get (ref := "java/lang/String") (v := .ref a3) C 2 0 inJ0w rfl rfl (by decide) tfJ0_9 rfl rfl dJ0_equals_9ea2d_41 ?_
  obtain ⟨z1, hgz1, h⟩ := ob_bd h
  refine vi_pick (w' := [(a0, .inr (0, [.ref a1, .int (0 : Int32), .int (0 : Int32), .int (0 : Int32)])), (a2, .inr (0, [.ref a3, .int (0 : Int32), .int (0 : Int32), .int (0 : Int32)])), (a1, .inl (cB, n1, .inl (g1))), (a3, .inl (cB, n3, .inl (g3)))]) [0, 2, 1, 3] (by decide) rfl ?_
  refine vi_w C (w' := [(a0, .inr (0, [.ref a1, .int (0 : Int32), .int (0 : Int32), .int (0 : Int32)])), (a2, .inr (0, [.ref a3, .int (0 : Int32), .int (0 : Int32), .int (0 : Int32)]))] ++ [(a1, .inl (cB, n1, .inl (g1))), (a3, .inl (cB, n3, .inl (g3)))]) rfl ?_
  refine g_ci C (g_runS (As := [.ref a1, .ref a3]) (rest := []) (w1 := [(a0, .inr (0, [.ref a1, .int (0 : Int32), .int (0 : Int32), .int (0 : Int32)])), (a2, .inr (0, [.ref a3, .int (0 : Int32), .int (0 : Int32), .int (0 : Int32)]))]) (wc := [(a1, .inl (cB, n1, .inl (g1))), (a3, .inl (cB, n3, .inl (g3)))]) C (hm_J1_equals_b5fdf (a0 := a1) (a1 := a3) (n0 := n1) (g0 := g1) (n1 := n3) (g1 := g3) (r0 := z1) C.2.2.2.2.2.2.2.2.1 hgz1) 2 rfl tcJ1_equals_b5fdf tlJ0_541 ttJ1_equals_b5fdf tnJ1 tdJ1_equals_b5fdf ⟨Nat.le_of_ble_eq_true rfl, Nat.le_of_ble_eq_true rfl⟩ ⟨Nat.le_refl 0, Nat.le_refl 0⟩ rfl (Nat.le_of_ble_eq_true rfl) dJ0_equals_9ea2d_44 rfl) rfl (fun q2 => ?_)
  refine vi_w C (w' := [(a0, .inr (0, [.ref a1, .int (0 : Int32), .int (0 : Int32), .int (0 : Int32)])), (a2, .inr (0, [.ref a3, .int (0 : Int32), .int (0 : Int32), .int (0 : Int32)])), (a1, .inl (cB, n1, .inl (g1))), (a3, .inl (cB, n3, .inl (g3)))]) rfl ?_
  refine vi_kk (kc1 := 0) (ks1 := 0) rfl rfl ?_
  refine vi_if_eq (tgt := 54) C dJ0_equals_9ea2d_47 (by decide) (fun hc3 => ?_) (fun hc3 => ?_)
  · have h := ob_t h hc3
    refine vi_iconst (v := 0) C dJ0_equals_9ea2d_54 (by decide) ?_
    refine vi_pick (w' := [(a0, .inr (0, [.ref a1, .int (0 : Int32), .int (0 : Int32), .int (0 : Int32)])), (a1, .inl (cB, n1, .inl (g1))), (a2, .inr (0, [.ref a3, .int (0 : Int32), .int (0 : Int32), .int (0 : Int32)])), (a3, .inl (cB, n3, .inl (g3)))]) [0, 2, 1, 3] (by decide) rfl ?_
    cases h
    exact RET (fun j => [].getD j 0) 0 0 _ _ hkc dJ0_equals_9ea2d_55 (by decide)
  · have h := ob_f h hc3
    refine vi_iconst (v := 1) C dJ0_equals_9ea2d_50 (by decide) ?_
    refine vi_goto (tgt := 55) C dJ0_equals_9ea2d_51 (by decide) ?_
    refine vi_pick (w' := [(a0, .inr (0, [.ref a1, .int (0 : Int32), .int (0 : Int32), .int (0 : Int32)])), (a1, .inl (cB, n1, .inl (g1))), (a2, .inr (0, [.ref a3, .int (0 : Int32), .int (0 : Int32), .int (0 : Int32)])), (a3, .inl (cB, n3, .inl (g3)))]) [0, 2, 1, 3] (by decide) rfl ?_
    cases h
    exact RET (fun j => [].getD j 0) 0 0 _ _ hkc dJ0_equals_9ea2d_55 (by decide)
def hf_J0_equals_9ea2d (n1 : Nat) (g1 : Nat → Int32) (n3 : Nat) (g3 : Nat → Int32) : Option (Int32) := hf_J0_equals_9ea2d_36 n1 g1 n3 g3
set_option maxRecDepth 100000 in
set_option maxHeartbeats 4000000 in
theorem hk_J0_equals_9ea2d_e {ad adK adV : Nat → Nat} {tS tF : Nat} {tX sK sV : Nat → Nat} {p : Program} {l : Launch} {e : Env} {s : State} {m : MethodId} {args : Array Value} {below : List Frame} {meth : Method} {c : Code} {A : Nat → Prop} {D : va_G} {cI cF cC cS cO cB cZ : ClassId} {Q : State → Prop} {n1 : Nat} {g1 : Nat → Int32} {n3 : Nat} {g3 : Nat → Int32} {a0 : Nat} {a1 : Nat} {a2 : Nat} {a3 : Nat} (C : vC (vE ad adK adV tS tF tX sK sV) p l s m args meth c A D (vT7 cI cF cC cS cO cB cZ) cJ0_equals_9ea2d 3 RJ0) {r0 : Int32} (RET : ∀ (q : Nat → Nat) (kc ks : Nat) (pc : Nat) (lv : List (Nat × Value)), True → decode cJ0_equals_9ea2d pc = .ok (.ireturn, 1) → (r0 = 0 ∨ r0 = 1) → vV p l e { frames := 1, cells := 0, slots := 0, locals := 22 } s m args below meth c A D 3 0 0 Q [(a0, .inr (0, [.ref a1, .int (0 : Int32), .int (0 : Int32), .int (0 : Int32)])), (a1, .inl (cB, n1, .inl (g1))), (a2, .inr (0, [.ref a3, .int (0 : Int32), .int (0 : Int32), .int (0 : Int32)])), (a3, .inl (cB, n3, .inl (g3)))] pc lv [.int r0]) (h : hf_J0_equals_9ea2d n1 g1 n3 g3 = some (r0)) : vV p l e { frames := 1, cells := 0, slots := 0, locals := 22 } s m args below meth c A D 3 0 0 Q [(a0, .inr (0, [.ref a1, .int (0 : Int32), .int (0 : Int32), .int (0 : Int32)])), (a1, .inl (cB, n1, .inl (g1))), (a2, .inr (0, [.ref a3, .int (0 : Int32), .int (0 : Int32), .int (0 : Int32)])), (a3, .inl (cB, n3, .inl (g3)))] 0 [(0, .ref a0), (1, .ref a2)] [] := by
  rw [hf_J0_equals_9ea2d] at h
  refine vi_aload_n C 0 dJ0_equals_9ea2d_0 rfl ?_
  refine vi_aload_n C 1 dJ0_equals_9ea2d_1 rfl ?_
  refine vi_acmpO (tgt := 7) C 0 2 (by decide) rfl rfl dJ0_equals_9ea2d_2 (by decide) ?_
  refine vi_aload_n C 1 dJ0_equals_9ea2d_7 rfl ?_
  refine vi_instS (T := TJ0) (N := 4) C 2 tlcJ0_10 rfl rfl dJ0_equals_9ea2d_8 ?_
  refine vi_if_eq (tgt := 54) C dJ0_equals_9ea2d_11 (by decide) (fun hc => absurd hc (by decide)) (fun _ => ?_)
  refine vi_aload_n C 1 dJ0_equals_9ea2d_14 rfl ?_
  refine vi_castS (T := TJ0) (N := 4) C 2 tlcJ0_10 rfl rfl dJ0_equals_9ea2d_15 ?_
  refine vi_astore_n (lv' := [(2, .ref a2), (0, .ref a0), (1, .ref a2)]) C dJ0_equals_9ea2d_18 rfl (by decide) rfl ?_
  refine vi_getCo C tfJ0_38 dJ0_equals_9ea2d_19 ?_
  refine vi_if_eq (tgt := 36) C dJ0_equals_9ea2d_22 (by decide) (fun hc => absurd hc (by decide)) (fun _ => ?_)
  refine vi_aload_n C 1 dJ0_equals_9ea2d_25 rfl ?_
  refine vi_get (ref := "java/lang/String") (v := .int (0 : Int32)) C 0 1 inJ0w rfl rfl (by decide) tfJ0_15 rfl rfl dJ0_equals_9ea2d_26 ?_
  refine vi_aload_n C 0 dJ0_equals_9ea2d_29 rfl ?_
  refine vi_get (ref := "java/lang/String") (v := .int (0 : Int32)) C 2 1 inJ0w rfl rfl (by decide) tfJ0_15 rfl rfl dJ0_equals_9ea2d_30 ?_
  refine vi_icmp_ne (tgt := 54) C dJ0_equals_9ea2d_33 (by decide) (fun hc => absurd (by decide) hc) (fun _ => ?_)
  refine vi_sub C [1, 0] rfl ?_
  exact hk_J0_equals_9ea2d_36 C RET    trivial h
theorem hm_J0_equals_9ea2d {ad adK adV : Nat → Nat} {tS tF : Nat} {tX sK sV : Nat → Nat} (hE : vEok (vE ad adK adV tS tF tX sK sV)) {l : Launch} {D : va_G} {cI cF cC cS cO cB cZ : ClassId} {n1 : Nat} {g1 : Nat → Int32} {n3 : Nat} {g3 : Nat → Int32} {a0 : Nat} {a1 : Nat} {a2 : Nat} {a3 : Nat} {r0 : Int32} (h : hf_J0_equals_9ea2d n1 g1 n3 g3 = some (r0)) : vG (vE ad adK adV tS tF tX sK sV) l yJ0_equals_9ea2d cJ0_equals_9ea2d 3 (some .boolean) 1 22 0 0 D (vT7 cI cF cC cS cO cB cZ) [.ref a0, .ref a2] [(a0, .inr (0, [.ref a1, .int (0 : Int32), .int (0 : Int32), .int (0 : Int32)])), (a1, .inl (cB, n1, .inl (g1))), (a2, .inr (0, [.ref a3, .int (0 : Int32), .int (0 : Int32), .int (0 : Int32)])), (a3, .inl (cB, n3, .inl (g3)))] (gQi D (fun q => [(a0, .inr (0, [.ref a1, .int (0 : Int32), .int (0 : Int32), .int (0 : Int32)])), (a1, .inl (cB, n1, .inl (g1))), (a2, .inr (0, [.ref a3, .int (0 : Int32), .int (0 : Int32), .int (0 : Int32)])), (a3, .inl (cB, n3, .inl (g3)))]) r0) :=
  vG_ofF hE (by decide +kernel) (Nat.le_of_ble_eq_true rfl) (fun p e s m args below meth c A C hr hin => hk_J0_equals_9ea2d_e C (fun q kc ks pc lv hk hd hz => g_reti (WQ := (fun q => [(a0, .inr (0, [.ref a1, .int (0 : Int32), .int (0 : Int32), .int (0 : Int32)])), (a1, .inl (cB, n1, .inl (g1))), (a2, .inr (0, [.ref a3, .int (0 : Int32), .int (0 : Int32), .int (0 : Int32)])), (a3, .inl (cB, n3, .inl (g3)))])) C hr (by rcases hz with rfl | rfl <;> rfl) q rfl ⟨Nat.le_refl 0, Nat.le_refl 0⟩ hd) h)
-- ---- J1_newString_b4f7a
def hf_J1_newString_b4f7a (mc : Nat) (ms : Nat) (n0 : Nat) (g0 : Nat → Int32) (x1 : Int32) (x2 : Int32) : Option (Nat × (Nat → Int32)) := (if x2 = 0 then none else if 0 + 1 ≤ mc ∧ 0 + 4 ≤ ms then bd (0 + 1) fun kc4 => bd (0 + 4) fun ks5 => if kc4 + (1) ≤ mc ∧ ks5 + (Int32.toNatClampNeg ((x1 + x2) - x1)) ≤ ms then (hf_J7_copyOfRange_39247 (1) (Int32.toNatClampNeg ((x1 + x2) - x1)) n0 g0 x1 (x1 + x2)).bind fun z7 => bd (kc4 + (1)) fun kc9 => bd (ks5 + (Int32.toNatClampNeg ((x1 + x2) - x1))) fun ks10 => (hf_J0_init_031fb (z7.1) (z7.2)).bind fun z11 => some (z7.1, z7.2) else none else none)
set_option maxRecDepth 100000 in
set_option maxHeartbeats 4000000 in
theorem hk_J1_newString_b4f7a_e {ad adK adV : Nat → Nat} {tS tF : Nat} {tX sK sV : Nat → Nat} {p : Program} {l : Launch} {e : Env} {s : State} {m : MethodId} {args : Array Value} {below : List Frame} {meth : Method} {c : Code} {A : Nat → Prop} {D : va_G} {cI cF cC cS cO cB cZ : ClassId} {Q : State → Prop} {mc : Nat} {ms : Nat} {n0 : Nat} {g0 : Nat → Int32} {a0 : Nat} (C : vC (vE ad adK adV tS tF tX sK sV) p l s m args meth c A D (vT7 cI cF cC cS cO cB cZ) cJ1_newString_b4f7a 3 RJ1) {r_n1 : Nat} {r_g2 : Nat → Int32} (RET : ∀ (q : Nat → Nat) (kc ks : Nat) (pc : Nat) (lv : List (Nat × Value)), (kc ≤ mc ∧ ks ≤ ms) → decode cJ1_newString_b4f7a pc = .ok (.areturn, 1) → vV p l e { frames := 3, cells := mc, slots := ms, locals := 106 } s m args below meth c A D 3 kc ks Q [(a0, .inl (cB, n0, .inl (g0))), ((q 0), .inr (0, [.ref (q 1), .int (0 : Int32), .int (0 : Int32), .int (0 : Int32)])), ((q 1), .inl (cB, r_n1, .inl (r_g2)))] pc lv [.ref (q 0)]) {x1 : Int32} {x2 : Int32} (h : hf_J1_newString_b4f7a mc ms n0 g0 x1 x2 = some (r_n1, r_g2)) : vV p l e { frames := 3, cells := mc, slots := ms, locals := 106 } s m args below meth c A D 3 (0) (0) Q [(a0, .inl (cB, n0, .inl (g0)))] 0 [(0, .ref a0), (1, .int x1), (2, .int x2)] [] := by
  rw [hf_J1_newString_b4f7a] at h
  refine vi_iload_n C 2 dJ1_newString_b4f7a_0 rfl ?_
  refine vi_if_ne (tgt := 7) C dJ1_newString_b4f7a_1 (by decide) (fun hc1 => ?_) (fun hc1 => ?_)
  · have h := ob_f h hc1
    obtain ⟨hz2, h⟩ := ob_ok h
    refine vi_new (ci := 0) (fs := [.null, .int (0 : Int32), .int (0 : Int32), .int (0 : Int32)]) C inJ0w tyJ0 tyJ0_ok tlcJ1_1 tinst_J0 tnJ0 rfl (by decide +kernel) hz2.1 hz2.2 dJ1_newString_b4f7a_7 (fun a3 => ?_)
    refine vi_w C (w' := [(a0, .inl (cB, n0, .inl (g0))), (a3, .inr (0, [.null, .int (0 : Int32), .int (0 : Int32), .int (0 : Int32)]))]) rfl ?_
    obtain ⟨kc4, ekc4, h⟩ := ob_nm h
    obtain ⟨ks5, eks5, h⟩ := ob_nm h
    refine vi_kk ekc4.symm eks5.symm ?_
    rw [← ekc4, ← eks5] at hz2
    refine vi_dup C dJ1_newString_b4f7a_10 rfl ?_
    refine vi_aload_n C 0 dJ1_newString_b4f7a_11 rfl ?_
    refine vi_iload_n C 1 dJ1_newString_b4f7a_12 rfl ?_
    refine vi_iload_n C 1 dJ1_newString_b4f7a_13 rfl ?_
    refine vi_iload_n C 2 dJ1_newString_b4f7a_14 rfl ?_
    refine vi_iadd C dJ1_newString_b4f7a_15 ?_
    obtain ⟨hz6, h⟩ := ob_ok h
    obtain ⟨z7, hgz7, h⟩ := ob_bd h
    refine vi_pick (w' := [(a3, .inr (0, [.null, .int (0 : Int32), .int (0 : Int32), .int (0 : Int32)])), (a0, .inl (cB, n0, .inl (g0)))]) [1, 0] (by decide) rfl ?_
    refine vi_w C (w' := [(a3, .inr (0, [.null, .int (0 : Int32), .int (0 : Int32), .int (0 : Int32)]))] ++ [(a0, .inl (cB, n0, .inl (g0)))]) rfl ?_
    refine g_cr C (g_runS (As := [.ref a0, .int x1, .int (x1 + x2)]) (rest := [.ref a3, .ref a3]) (w1 := [(a3, .inr (0, [.null, .int (0 : Int32), .int (0 : Int32), .int (0 : Int32)]))]) (wc := [(a0, .inl (cB, n0, .inl (g0)))]) C (hm_J7_copyOfRange_39247 (a0 := a0) (mc := (1)) (ms := (Int32.toNatClampNeg ((x1 + x2) - x1))) (n0 := n0) (g0 := g0) (x1 := x1) (x2 := (x1 + x2)) (r_n1 := z7.1) (r_g2 := z7.2) C.2.2.2.2.2.2.2.2.1 hgz7) 3 rfl tcJ7_copyOfRange_39247 tlJ1_232 ttJ7_copyOfRange_39247 tnJ7 tdJ7_copyOfRange_39247 ⟨Nat.le_of_ble_eq_true rfl, Nat.le_of_ble_eq_true rfl⟩ hz6 rfl (Nat.le_of_ble_eq_true rfl) dJ1_newString_b4f7a_16 rfl) rfl (fun q8 => ?_)
    refine vi_w C (w' := [(a3, .inr (0, [.null, .int (0 : Int32), .int (0 : Int32), .int (0 : Int32)])), (a0, .inl (cB, n0, .inl (g0))), ((q8 0), .inl (cB, z7.1, .inl (z7.2)))]) rfl ?_
    obtain ⟨kc9, ekc9, h⟩ := ob_nm h
    obtain ⟨ks10, eks10, h⟩ := ob_nm h
    refine vi_kk ekc9.symm eks10.symm ?_
    rw [← ekc9, ← eks10] at hz6
    refine vi_iconst (v := 0) C dJ1_newString_b4f7a_19 (by decide) ?_
    obtain ⟨z11, hgz11, h⟩ := ob_bd h
    refine vi_pick (w' := [(a0, .inl (cB, n0, .inl (g0))), (a3, .inr (0, [.null, .int (0 : Int32), .int (0 : Int32), .int (0 : Int32)])), ((q8 0), .inl (cB, z7.1, .inl (z7.2)))]) [1, 0, 2] (by decide) rfl ?_
    refine vi_w C (w' := [(a0, .inl (cB, n0, .inl (g0)))] ++ [(a3, .inr (0, [.null, .int (0 : Int32), .int (0 : Int32), .int (0 : Int32)])), ((q8 0), .inl (cB, z7.1, .inl (z7.2)))]) rfl ?_
    refine g_cv C (g_runI (As := [.ref (q8 0), .int (0 : Int32)]) (rest := [.ref a3]) (w1 := [(a0, .inl (cB, n0, .inl (g0)))]) (wc := [(a3, .inr (0, [.null, .int (0 : Int32), .int (0 : Int32), .int (0 : Int32)])), ((q8 0), .inl (cB, z7.1, .inl (z7.2)))]) C (hm_J0_init_031fb (a0 := a3) (a1 := (q8 0)) (n1 := (z7.1)) (g1 := (z7.2))  C.2.2.2.2.2.2.2.2.1 hgz11) 2 rfl tcJ0_init_031fb tlJ1_112 tiJ0_init_031fb rfl tnJ0 tdJ0_init_031fb ⟨Nat.le_of_ble_eq_true rfl, Nat.le_of_ble_eq_true rfl⟩ hz6 rfl (Nat.le_of_ble_eq_true rfl) dJ1_newString_b4f7a_20 rfl) rfl (fun q12 => ?_)
    refine vi_w C (w' := [(a0, .inl (cB, n0, .inl (g0))), (a3, .inr (0, [.ref (q8 0), .int (0 : Int32), .int (0 : Int32), .int (0 : Int32)])), ((q8 0), .inl (cB, z7.1, .inl (z7.2)))]) rfl ?_
    refine vi_kk (kc1 := kc9) (ks1 := ks10) rfl rfl ?_
    cases h
    exact RET (fun j => [a3, (q8 0)].getD j 0) _ _ _ _ hz6 dJ1_newString_b4f7a_23
  · have h := ob_t h hc1
    cases h
theorem hm_J1_newString_b4f7a {ad adK adV : Nat → Nat} {tS tF : Nat} {tX sK sV : Nat → Nat} (hE : vEok (vE ad adK adV tS tF tX sK sV)) {l : Launch} {D : va_G} {cI cF cC cS cO cB cZ : ClassId} {mc : Nat} {ms : Nat} {n0 : Nat} {g0 : Nat → Int32} {a0 : Nat} {r_n1 : Nat} {r_g2 : Nat → Int32} {x1 : Int32} {x2 : Int32} (h : hf_J1_newString_b4f7a mc ms n0 g0 x1 x2 = some (r_n1, r_g2)) : vG (vE ad adK adV tS tF tX sK sV) l yJ1_newString_b4f7a cJ1_newString_b4f7a 3 (some (FieldType.object "java/lang/String")) 3 106 mc ms D (vT7 cI cF cC cS cO cB cZ) [.ref a0, .int x1, .int x2] [(a0, .inl (cB, n0, .inl (g0)))] (gQr D (fun q => [(a0, .inl (cB, n0, .inl (g0))), ((q 0), .inr (0, [.ref (q 1), .int (0 : Int32), .int (0 : Int32), .int (0 : Int32)])), ((q 1), .inl (cB, r_n1, .inl (r_g2)))]) (fun q => (q 0))) :=
  vG_ofF hE (by decide +kernel) (Nat.le_of_ble_eq_true rfl) (fun p e s m args below meth c A C hr hin => hk_J1_newString_b4f7a_e C (fun q kc ks pc lv hk hd => g_retr (WQ := (fun q => [(a0, .inl (cB, n0, .inl (g0))), ((q 0), .inr (0, [.ref (q 1), .int (0 : Int32), .int (0 : Int32), .int (0 : Int32)])), ((q 1), .inl (cB, r_n1, .inl (r_g2)))])) (ra := fun q => (q 0)) C hr (Or.inl ⟨_, rfl⟩) q rfl rfl hk hd) h)
-- ---- J0_substring_37a41
def hf_J0_substring_37a41_22 (mc : Nat) (ms : Nat) (n1 : Nat) (g1 : Nat → Int32) (x1 : Int32) (x2 : Int32) (kc : Nat) (ks : Nat) : Option (Nat × (Nat → Int32)) := bd ((x2 - x1 : Int32)) fun y1 => (hf_J0_isLatin1_aae02 n1 g1).bind fun z2 => if kc + (2) ≤ mc ∧ ks + (Int32.toNatClampNeg y1 + 4) ≤ ms then (hf_J1_newString_b4f7a (2) (Int32.toNatClampNeg y1 + 4) n1 g1 x1 y1).bind fun z5 => bd (kc + (2)) fun kc7 => bd (ks + (Int32.toNatClampNeg y1 + 4)) fun ks8 => some (z5.1, z5.2) else none
set_option maxRecDepth 100000 in
set_option maxHeartbeats 4000000 in
theorem hk_J0_substring_37a41_22 {ad adK adV : Nat → Nat} {tS tF : Nat} {tX sK sV : Nat → Nat} {p : Program} {l : Launch} {e : Env} {s : State} {m : MethodId} {args : Array Value} {below : List Frame} {meth : Method} {c : Code} {A : Nat → Prop} {D : va_G} {cI cF cC cS cO cB cZ : ClassId} {Q : State → Prop} {mc : Nat} {ms : Nat} {n1 : Nat} {g1 : Nat → Int32} {a0 : Nat} {a1 : Nat} (C : vC (vE ad adK adV tS tF tX sK sV) p l s m args meth c A D (vT7 cI cF cC cS cO cB cZ) cJ0_substring_37a41 5 RJ0) {r_n1 : Nat} {r_g2 : Nat → Int32} (RET : ∀ (q : Nat → Nat) (kc ks : Nat) (pc : Nat) (lv : List (Nat × Value)), (kc ≤ mc ∧ ks ≤ ms) → decode cJ0_substring_37a41 pc = .ok (.areturn, 1) → vV p l e { frames := 4, cells := mc, slots := ms, locals := 128 } s m args below meth c A D 5 kc ks Q [(a0, .inr (0, [.ref a1, .int (0 : Int32), .int (0 : Int32), .int (0 : Int32)])), (a1, .inl (cB, n1, .inl (g1))), ((q 0), .inr (0, [.ref (q 1), .int (0 : Int32), .int (0 : Int32), .int (0 : Int32)])), ((q 1), .inl (cB, r_n1, .inl (r_g2)))] pc lv [.ref (q 0)]) : ∀ (x1 : Int32) (x2 : Int32) (kc : Nat) (ks : Nat), (kc ≤ mc ∧ ks ≤ ms) → hf_J0_substring_37a41_22 mc ms n1 g1 x1 x2 kc ks = some (r_n1, r_g2) → vV p l e { frames := 4, cells := mc, slots := ms, locals := 128 } s m args below meth c A D 5 kc ks Q [(a0, .inr (0, [.ref a1, .int (0 : Int32), .int (0 : Int32), .int (0 : Int32)])), (a1, .inl (cB, n1, .inl (g1)))] 22 [(0, .ref a0), (1, .int x1), (2, .int x2)] [] := by
  intro x1 x2 kc ks hkc h
  rw [hf_J0_substring_37a41_22] at h
  refine vi_iload_n C 2 dJ0_substring_37a41_22 rfl ?_
  refine vi_iload_n C 1 dJ0_substring_37a41_23 rfl ?_
  refine vi_isub C dJ0_substring_37a41_24 ?_
  obtain ⟨y1, ey1, h⟩ := ob_nm h
  refine vi_nmi ey1 ?_
  refine vi_istore (lv' := [(4, .int y1), (0, .ref a0), (1, .int x1), (2, .int x2)]) C dJ0_substring_37a41_25 (by decide) rfl ?_
  refine vi_aload_n C 1 dJ0_substring_37a41_27 rfl ?_
  obtain ⟨z2, hgz2, h⟩ := ob_bd h
  refine vi_w C (w' := [] ++ [(a0, .inr (0, [.ref a1, .int (0 : Int32), .int (0 : Int32), .int (0 : Int32)])), (a1, .inl (cB, n1, .inl (g1)))]) rfl ?_
  refine g_ci C (g_runV (T := TJ0) (N := 4) (ci := 0) (fs := [.ref a1, .int (0 : Int32), .int (0 : Int32), .int (0 : Int32)]) (As := []) (rest := []) (w1 := []) (wc := [(a0, .inr (0, [.ref a1, .int (0 : Int32), .int (0 : Int32), .int (0 : Int32)])), (a1, .inl (cB, n1, .inl (g1)))]) C (hm_J0_isLatin1_aae02 (a0 := a0) (a1 := a1) (n1 := n1) (g1 := g1)  C.2.2.2.2.2.2.2.2.1 hgz2) 0 rfl tcJ0_isLatin1_aae02 tlJ0_492 tiJ0_isLatin1_aae02 tsJ0_isLatin1_aae02 tnJ0 tdJ0_isLatin1_aae02 ⟨Nat.le_of_ble_eq_true rfl, Nat.le_of_ble_eq_true rfl⟩ hkc 0 rfl rfl rfl (Nat.le_of_ble_eq_true rfl) dJ0_substring_37a41_28 rfl) rfl (fun q3 => ?_)
  refine vi_w C (w' := [(a0, .inr (0, [.ref a1, .int (0 : Int32), .int (0 : Int32), .int (0 : Int32)])), (a1, .inl (cB, n1, .inl (g1)))]) rfl ?_
  refine vi_kk (kc1 := kc) (ks1 := ks) rfl rfl ?_
  refine vi_if_eq (tgt := 47) C dJ0_substring_37a41_31 (by decide) (fun hc => absurd hc (by decide)) (fun _ => ?_)
  refine vi_aload_n C 1 dJ0_substring_37a41_34 rfl ?_
  refine vi_get (ref := "java/lang/String") (v := .ref a1) C 0 0 inJ0w rfl rfl (by decide) tfJ0_9 rfl rfl dJ0_substring_37a41_35 ?_
  refine vi_iload_n C 2 dJ0_substring_37a41_38 rfl ?_
  refine vi_iload C 0 dJ0_substring_37a41_39 rfl ?_
  obtain ⟨hz4, h⟩ := ob_ok h
  obtain ⟨z5, hgz5, h⟩ := ob_bd h
  refine vi_w C (w' := [(a0, .inr (0, [.ref a1, .int (0 : Int32), .int (0 : Int32), .int (0 : Int32)]))] ++ [(a1, .inl (cB, n1, .inl (g1)))]) rfl ?_
  refine g_cr C (g_runS (As := [.ref a1, .int x1, .int y1]) (rest := []) (w1 := [(a0, .inr (0, [.ref a1, .int (0 : Int32), .int (0 : Int32), .int (0 : Int32)]))]) (wc := [(a1, .inl (cB, n1, .inl (g1)))]) C (hm_J1_newString_b4f7a (a0 := a1) (mc := (2)) (ms := (Int32.toNatClampNeg y1 + 4)) (n0 := n1) (g0 := g1) (x1 := x1) (x2 := y1) (r_n1 := z5.1) (r_g2 := z5.2) C.2.2.2.2.2.2.2.2.1 hgz5) 3 rfl tcJ1_newString_b4f7a tlJ0_685 ttJ1_newString_b4f7a tnJ1 tdJ1_newString_b4f7a ⟨Nat.le_of_ble_eq_true rfl, Nat.le_of_ble_eq_true rfl⟩ hz4 rfl (Nat.le_of_ble_eq_true rfl) dJ0_substring_37a41_41 rfl) rfl (fun q6 => ?_)
  refine vi_w C (w' := [(a0, .inr (0, [.ref a1, .int (0 : Int32), .int (0 : Int32), .int (0 : Int32)])), (a1, .inl (cB, n1, .inl (g1))), ((q6 0), .inr (0, [.ref (q6 1), .int (0 : Int32), .int (0 : Int32), .int (0 : Int32)])), ((q6 1), .inl (cB, z5.1, .inl (z5.2)))]) rfl ?_
  obtain ⟨kc7, ekc7, h⟩ := ob_nm h
  obtain ⟨ks8, eks8, h⟩ := ob_nm h
  refine vi_kk ekc7.symm eks8.symm ?_
  rw [← ekc7, ← eks8] at hz4
  refine vi_goto (tgt := 57) C dJ0_substring_37a41_44 (by decide) ?_
  cases h
  exact RET (fun j => [(q6 0), (q6 1)].getD j 0) _ _ _ _ hz4 dJ0_substring_37a41_57
def hf_J0_substring_37a41 (mc : Nat) (ms : Nat) (n1 : Nat) (g1 : Nat → Int32) (x1 : Int32) (x2 : Int32) : Option (Nat × (Nat → Int32)) := (hf_J0_length_8abf5 n1 g1).bind fun z1 => (fJ0_checkBoundsBeginEnd_23922 x1 x2 z1).bind fun y3 => (if x1 = 0 then (if x2 = z1 then none else hf_J0_substring_37a41_22 mc ms n1 g1 x1 x2 (0) (0)) else hf_J0_substring_37a41_22 mc ms n1 g1 x1 x2 (0) (0))
set_option maxRecDepth 100000 in
set_option maxHeartbeats 4000000 in
theorem hk_J0_substring_37a41_e {ad adK adV : Nat → Nat} {tS tF : Nat} {tX sK sV : Nat → Nat} {p : Program} {l : Launch} {e : Env} {s : State} {m : MethodId} {args : Array Value} {below : List Frame} {meth : Method} {c : Code} {A : Nat → Prop} {D : va_G} {cI cF cC cS cO cB cZ : ClassId} {Q : State → Prop} {mc : Nat} {ms : Nat} {n1 : Nat} {g1 : Nat → Int32} {a0 : Nat} {a1 : Nat} (C : vC (vE ad adK adV tS tF tX sK sV) p l s m args meth c A D (vT7 cI cF cC cS cO cB cZ) cJ0_substring_37a41 5 RJ0) {r_n1 : Nat} {r_g2 : Nat → Int32} (RET : ∀ (q : Nat → Nat) (kc ks : Nat) (pc : Nat) (lv : List (Nat × Value)), (kc ≤ mc ∧ ks ≤ ms) → decode cJ0_substring_37a41 pc = .ok (.areturn, 1) → vV p l e { frames := 4, cells := mc, slots := ms, locals := 128 } s m args below meth c A D 5 kc ks Q [(a0, .inr (0, [.ref a1, .int (0 : Int32), .int (0 : Int32), .int (0 : Int32)])), (a1, .inl (cB, n1, .inl (g1))), ((q 0), .inr (0, [.ref (q 1), .int (0 : Int32), .int (0 : Int32), .int (0 : Int32)])), ((q 1), .inl (cB, r_n1, .inl (r_g2)))] pc lv [.ref (q 0)]) {x1 : Int32} {x2 : Int32} (h : hf_J0_substring_37a41 mc ms n1 g1 x1 x2 = some (r_n1, r_g2)) : vV p l e { frames := 4, cells := mc, slots := ms, locals := 128 } s m args below meth c A D 5 (0) (0) Q [(a0, .inr (0, [.ref a1, .int (0 : Int32), .int (0 : Int32), .int (0 : Int32)])), (a1, .inl (cB, n1, .inl (g1)))] 0 [(0, .ref a0), (1, .int x1), (2, .int x2)] [] := by
  rw [hf_J0_substring_37a41] at h
  refine vi_aload_n C 0 dJ0_substring_37a41_0 rfl ?_
  obtain ⟨z1, hgz1, h⟩ := ob_bd h
  refine vi_w C (w' := [] ++ [(a0, .inr (0, [.ref a1, .int (0 : Int32), .int (0 : Int32), .int (0 : Int32)])), (a1, .inl (cB, n1, .inl (g1)))]) rfl ?_
  refine g_ci C (g_runV (T := TJ0) (N := 4) (ci := 0) (fs := [.ref a1, .int (0 : Int32), .int (0 : Int32), .int (0 : Int32)]) (As := []) (rest := []) (w1 := []) (wc := [(a0, .inr (0, [.ref a1, .int (0 : Int32), .int (0 : Int32), .int (0 : Int32)])), (a1, .inl (cB, n1, .inl (g1)))]) C (hm_J0_length_8abf5 (a0 := a0) (a1 := a1) (n1 := n1) (g1 := g1) (r0 := z1) C.2.2.2.2.2.2.2.2.1 hgz1) 0 rfl tcJ0_length_8abf5 tlJ0_505 tiJ0_length_8abf5 tsJ0_length_8abf5 tnJ0 tdJ0_length_8abf5 ⟨Nat.le_of_ble_eq_true rfl, Nat.le_of_ble_eq_true rfl⟩ ⟨Nat.zero_le _, Nat.zero_le _⟩ 0 rfl rfl rfl (Nat.le_of_ble_eq_true rfl) dJ0_substring_37a41_1 rfl) rfl (fun q2 => ?_)
  refine vi_w C (w' := [(a0, .inr (0, [.ref a1, .int (0 : Int32), .int (0 : Int32), .int (0 : Int32)])), (a1, .inl (cB, n1, .inl (g1)))]) rfl ?_
  refine vi_kk (kc1 := (0)) (ks1 := (0)) rfl rfl ?_
  refine vi_istore_n (lv' := [(3, .int z1), (0, .ref a0), (1, .int x1), (2, .int x2)]) C dJ0_substring_37a41_4 rfl (by decide) rfl ?_
  refine vi_iload_n C 2 dJ0_substring_37a41_5 rfl ?_
  refine vi_iload_n C 3 dJ0_substring_37a41_6 rfl ?_
  refine vi_iload_n C 0 dJ0_substring_37a41_7 rfl ?_
  obtain ⟨y3, hgy3, h⟩ := ob_bd h
  refine vi_callS1v (As := [.int x1, .int x2, .int z1]) (rest := []) C (mJ0_checkBoundsBeginEnd_23922 C.2.2.2.2.2.2.2.2.1 hgy3) 3 rfl tcJ0_checkBoundsBeginEnd_23922 tlJ0_521 ttJ0_checkBoundsBeginEnd_23922 tnJ0 tdJ0_checkBoundsBeginEnd_23922 ⟨Nat.le_of_ble_eq_true rfl, Nat.le_of_ble_eq_true rfl⟩ ⟨Nat.zero_le _, Nat.zero_le _⟩ rfl (Nat.le_of_ble_eq_true rfl) dJ0_substring_37a41_8 ?_
  refine vi_iload_n C 2 dJ0_substring_37a41_11 rfl ?_
  refine vi_if_ne (tgt := 22) C dJ0_substring_37a41_12 (by decide) (fun hc4 => ?_) (fun hc4 => ?_)
  · have h := ob_f h hc4
    refine vi_sub C [1, 2, 3] rfl ?_
    exact hk_J0_substring_37a41_22 C RET   _ _ _ _ ⟨Nat.zero_le _, Nat.zero_le _⟩ h
  · have h := ob_t h hc4
    refine vi_iload_n C 3 dJ0_substring_37a41_15 rfl ?_
    refine vi_iload_n C 0 dJ0_substring_37a41_16 rfl ?_
    refine vi_icmp_ne (tgt := 22) C dJ0_substring_37a41_17 (by decide) (fun hc5 => ?_) (fun hc5 => ?_)
    · have h := ob_f h hc5
      refine vi_sub C [1, 2, 3] rfl ?_
      exact hk_J0_substring_37a41_22 C RET   _ _ _ _ ⟨Nat.zero_le _, Nat.zero_le _⟩ h
    · have h := ob_t h hc5
      refine vi_aload_n C 1 dJ0_substring_37a41_20 rfl ?_
      cases h
theorem hm_J0_substring_37a41 {ad adK adV : Nat → Nat} {tS tF : Nat} {tX sK sV : Nat → Nat} (hE : vEok (vE ad adK adV tS tF tX sK sV)) {l : Launch} {D : va_G} {cI cF cC cS cO cB cZ : ClassId} {mc : Nat} {ms : Nat} {n1 : Nat} {g1 : Nat → Int32} {a0 : Nat} {a1 : Nat} {r_n1 : Nat} {r_g2 : Nat → Int32} {x1 : Int32} {x2 : Int32} (h : hf_J0_substring_37a41 mc ms n1 g1 x1 x2 = some (r_n1, r_g2)) : vG (vE ad adK adV tS tF tX sK sV) l yJ0_substring_37a41 cJ0_substring_37a41 5 (some (FieldType.object "java/lang/String")) 4 128 mc ms D (vT7 cI cF cC cS cO cB cZ) [.ref a0, .int x1, .int x2] [(a0, .inr (0, [.ref a1, .int (0 : Int32), .int (0 : Int32), .int (0 : Int32)])), (a1, .inl (cB, n1, .inl (g1)))] (gQr D (fun q => [(a0, .inr (0, [.ref a1, .int (0 : Int32), .int (0 : Int32), .int (0 : Int32)])), (a1, .inl (cB, n1, .inl (g1))), ((q 0), .inr (0, [.ref (q 1), .int (0 : Int32), .int (0 : Int32), .int (0 : Int32)])), ((q 1), .inl (cB, r_n1, .inl (r_g2)))]) (fun q => (q 0))) :=
  vG_ofF hE (by decide +kernel) (Nat.le_of_ble_eq_true rfl) (fun p e s m args below meth c A C hr hin => hk_J0_substring_37a41_e C (fun q kc ks pc lv hk hd => g_retr (WQ := (fun q => [(a0, .inr (0, [.ref a1, .int (0 : Int32), .int (0 : Int32), .int (0 : Int32)])), (a1, .inl (cB, n1, .inl (g1))), ((q 0), .inr (0, [.ref (q 1), .int (0 : Int32), .int (0 : Int32), .int (0 : Int32)])), ((q 1), .inl (cB, r_n1, .inl (r_g2)))])) (ra := fun q => (q 0)) C hr (Or.inl ⟨_, rfl⟩) q rfl rfl hk hd) h)
-- ---- J0_substring_b52d3
def hf_J0_substring_b52d3 (mc : Nat) (ms : Nat) (n1 : Nat) (g1 : Nat → Int32) (x1 : Int32) : Option (Nat × (Nat → Int32)) := (hf_J0_length_8abf5 n1 g1).bind fun z1 => if 0 + (2) ≤ mc ∧ 0 + (Int32.toNatClampNeg (z1 - x1) + 4) ≤ ms then (hf_J0_substring_37a41 (2) (Int32.toNatClampNeg (z1 - x1) + 4) n1 g1 x1 z1).bind fun z4 => bd (0 + (2)) fun kc6 => bd (0 + (Int32.toNatClampNeg (z1 - x1) + 4)) fun ks7 => some (z4.1, z4.2) else none
set_option maxRecDepth 100000 in
set_option maxHeartbeats 4000000 in
theorem hk_J0_substring_b52d3_e {ad adK adV : Nat → Nat} {tS tF : Nat} {tX sK sV : Nat → Nat} {p : Program} {l : Launch} {e : Env} {s : State} {m : MethodId} {args : Array Value} {below : List Frame} {meth : Method} {c : Code} {A : Nat → Prop} {D : va_G} {cI cF cC cS cO cB cZ : ClassId} {Q : State → Prop} {mc : Nat} {ms : Nat} {n1 : Nat} {g1 : Nat → Int32} {a0 : Nat} {a1 : Nat} (C : vC (vE ad adK adV tS tF tX sK sV) p l s m args meth c A D (vT7 cI cF cC cS cO cB cZ) cJ0_substring_b52d3 2 RJ0) {r_n1 : Nat} {r_g2 : Nat → Int32} (RET : ∀ (q : Nat → Nat) (kc ks : Nat) (pc : Nat) (lv : List (Nat × Value)), (kc ≤ mc ∧ ks ≤ ms) → decode cJ0_substring_b52d3 pc = .ok (.areturn, 1) → vV p l e { frames := 5, cells := mc, slots := ms, locals := 152 } s m args below meth c A D 2 kc ks Q [(a0, .inr (0, [.ref a1, .int (0 : Int32), .int (0 : Int32), .int (0 : Int32)])), (a1, .inl (cB, n1, .inl (g1))), ((q 0), .inr (0, [.ref (q 1), .int (0 : Int32), .int (0 : Int32), .int (0 : Int32)])), ((q 1), .inl (cB, r_n1, .inl (r_g2)))] pc lv [.ref (q 0)]) {x1 : Int32} (h : hf_J0_substring_b52d3 mc ms n1 g1 x1 = some (r_n1, r_g2)) : vV p l e { frames := 5, cells := mc, slots := ms, locals := 152 } s m args below meth c A D 2 (0) (0) Q [(a0, .inr (0, [.ref a1, .int (0 : Int32), .int (0 : Int32), .int (0 : Int32)])), (a1, .inl (cB, n1, .inl (g1)))] 0 [(0, .ref a0), (1, .int x1)] [] := by
  rw [hf_J0_substring_b52d3] at h
  refine vi_aload_n C 0 dJ0_substring_b52d3_0 rfl ?_
  refine vi_iload_n C 1 dJ0_substring_b52d3_1 rfl ?_
  refine vi_aload_n C 0 dJ0_substring_b52d3_2 rfl ?_
  obtain ⟨z1, hgz1, h⟩ := ob_bd h
  refine vi_w C (w' := [] ++ [(a0, .inr (0, [.ref a1, .int (0 : Int32), .int (0 : Int32), .int (0 : Int32)])), (a1, .inl (cB, n1, .inl (g1)))]) rfl ?_
  refine g_ci C (g_runV (T := TJ0) (N := 4) (ci := 0) (fs := [.ref a1, .int (0 : Int32), .int (0 : Int32), .int (0 : Int32)]) (As := []) (rest := [.int x1, .ref a0]) (w1 := []) (wc := [(a0, .inr (0, [.ref a1, .int (0 : Int32), .int (0 : Int32), .int (0 : Int32)])), (a1, .inl (cB, n1, .inl (g1)))]) C (hm_J0_length_8abf5 (a0 := a0) (a1 := a1) (n1 := n1) (g1 := g1) (r0 := z1) C.2.2.2.2.2.2.2.2.1 hgz1) 0 rfl tcJ0_length_8abf5 tlJ0_505 tiJ0_length_8abf5 tsJ0_length_8abf5 tnJ0 tdJ0_length_8abf5 ⟨Nat.le_of_ble_eq_true rfl, Nat.le_of_ble_eq_true rfl⟩ ⟨Nat.zero_le _, Nat.zero_le _⟩ 0 rfl rfl rfl (Nat.le_of_ble_eq_true rfl) dJ0_substring_b52d3_3 rfl) rfl (fun q2 => ?_)
  refine vi_w C (w' := [(a0, .inr (0, [.ref a1, .int (0 : Int32), .int (0 : Int32), .int (0 : Int32)])), (a1, .inl (cB, n1, .inl (g1)))]) rfl ?_
  refine vi_kk (kc1 := (0)) (ks1 := (0)) rfl rfl ?_
  obtain ⟨hz3, h⟩ := ob_ok h
  obtain ⟨z4, hgz4, h⟩ := ob_bd h
  refine vi_w C (w' := [] ++ [(a0, .inr (0, [.ref a1, .int (0 : Int32), .int (0 : Int32), .int (0 : Int32)])), (a1, .inl (cB, n1, .inl (g1)))]) rfl ?_
  refine g_cr C (g_runV (T := TJ0) (N := 4) (ci := 0) (fs := [.ref a1, .int (0 : Int32), .int (0 : Int32), .int (0 : Int32)]) (As := [.int x1, .int z1]) (rest := []) (w1 := []) (wc := [(a0, .inr (0, [.ref a1, .int (0 : Int32), .int (0 : Int32), .int (0 : Int32)])), (a1, .inl (cB, n1, .inl (g1)))]) C (hm_J0_substring_37a41 (a0 := a0) (a1 := a1) (mc := (2)) (ms := (Int32.toNatClampNeg (z1 - x1) + 4)) (n1 := n1) (g1 := g1) (x1 := x1) (x2 := z1) (r_n1 := z4.1) (r_g2 := z4.2) C.2.2.2.2.2.2.2.2.1 hgz4) 2 rfl tcJ0_substring_37a41 tlJ0_681 tiJ0_substring_37a41 tsJ0_substring_37a41 tnJ0 tdJ0_substring_37a41 ⟨Nat.le_of_ble_eq_true rfl, Nat.le_of_ble_eq_true rfl⟩ hz3 0 rfl rfl rfl (Nat.le_of_ble_eq_true rfl) dJ0_substring_b52d3_6 rfl) rfl (fun q5 => ?_)
  refine vi_w C (w' := [(a0, .inr (0, [.ref a1, .int (0 : Int32), .int (0 : Int32), .int (0 : Int32)])), (a1, .inl (cB, n1, .inl (g1))), ((q5 0), .inr (0, [.ref (q5 1), .int (0 : Int32), .int (0 : Int32), .int (0 : Int32)])), ((q5 1), .inl (cB, z4.1, .inl (z4.2)))]) rfl ?_
  obtain ⟨kc6, ekc6, h⟩ := ob_nm h
  obtain ⟨ks7, eks7, h⟩ := ob_nm h
  refine vi_kk ekc6.symm eks7.symm ?_
  rw [← ekc6, ← eks7] at hz3
  cases h
  exact RET (fun j => [(q5 0), (q5 1)].getD j 0) _ _ _ _ hz3 dJ0_substring_b52d3_9
theorem hm_J0_substring_b52d3 {ad adK adV : Nat → Nat} {tS tF : Nat} {tX sK sV : Nat → Nat} (hE : vEok (vE ad adK adV tS tF tX sK sV)) {l : Launch} {D : va_G} {cI cF cC cS cO cB cZ : ClassId} {mc : Nat} {ms : Nat} {n1 : Nat} {g1 : Nat → Int32} {a0 : Nat} {a1 : Nat} {r_n1 : Nat} {r_g2 : Nat → Int32} {x1 : Int32} (h : hf_J0_substring_b52d3 mc ms n1 g1 x1 = some (r_n1, r_g2)) : vG (vE ad adK adV tS tF tX sK sV) l yJ0_substring_b52d3 cJ0_substring_b52d3 2 (some (FieldType.object "java/lang/String")) 5 152 mc ms D (vT7 cI cF cC cS cO cB cZ) [.ref a0, .int x1] [(a0, .inr (0, [.ref a1, .int (0 : Int32), .int (0 : Int32), .int (0 : Int32)])), (a1, .inl (cB, n1, .inl (g1)))] (gQr D (fun q => [(a0, .inr (0, [.ref a1, .int (0 : Int32), .int (0 : Int32), .int (0 : Int32)])), (a1, .inl (cB, n1, .inl (g1))), ((q 0), .inr (0, [.ref (q 1), .int (0 : Int32), .int (0 : Int32), .int (0 : Int32)])), ((q 1), .inl (cB, r_n1, .inl (r_g2)))]) (fun q => (q 0))) :=
  vG_ofF hE (by decide +kernel) (Nat.le_of_ble_eq_true rfl) (fun p e s m args below meth c A C hr hin => hk_J0_substring_b52d3_e C (fun q kc ks pc lv hk hd => g_retr (WQ := (fun q => [(a0, .inr (0, [.ref a1, .int (0 : Int32), .int (0 : Int32), .int (0 : Int32)])), (a1, .inl (cB, n1, .inl (g1))), ((q 0), .inr (0, [.ref (q 1), .int (0 : Int32), .int (0 : Int32), .int (0 : Int32)])), ((q 1), .inl (cB, r_n1, .inl (r_g2)))])) (ra := fun q => (q 0)) C hr (Or.inl ⟨_, rfl⟩) q rfl rfl hk hd) h)
-- ---- J6_formatUnsignedInt_567d9
def hf_J6_formatUnsignedInt_567d9_14 : Nat → Int32 → Int32 → Int32 → Int32 → Nat → (Nat → Int32) → Option (Nat × (Nat → Int32))
  | 0, _, _, _, _, _, _ => none
  | n + 1, x1, x2, x3, x4, n5, g6 => bd ((x3 + (-1) : Int32)) fun y1 => if x1 &&& x4 < 0 ∨ 36 ≤ Int32.toNatClampNeg (x1 &&& x4) then none else if y1 < 0 ∨ n5 ≤ Int32.toNatClampNeg y1 then none else bd ((upd g6 (Int32.toNatClampNeg y1) (vp_nar .byte ((Int32.toInt8 (vdig.getD (Int32.toNatClampNeg (x1 &&& x4)) 0)).toInt32)) : Nat → Int32)) fun g4 => bd (((Int32.toUInt32 x1 >>> (Int32.toUInt32 x2 &&& Int32.toUInt32 31)).toInt32 : Int32)) fun y5 => (if 0 < y1 then hf_J6_formatUnsignedInt_567d9_14 n y5 x2 y1 x4 n5 g4 else some (n5, g4))
set_option maxRecDepth 100000 in
set_option maxHeartbeats 4000000 in
theorem hk_J6_formatUnsignedInt_567d9_14 {ad adK adV : Nat → Nat} {tS tF : Nat} {tX sK sV : Nat → Nat} {p : Program} {l : Launch} {e : Env} {s : State} {m : MethodId} {args : Array Value} {below : List Frame} {meth : Method} {c : Code} {A : Nat → Prop} {D : va_G} {cI cF cC cS cO cB cZ : ClassId} {Q : State → Prop} {a0 : Nat} (C : vC (vE ad adK adV tS tF tX sK sV) p l s m args meth c A D (vT7 cI cF cC cS cO cB cZ) cJ6_formatUnsignedInt_567d9 7 RJ6) {r_n1 : Nat} {r_g2 : Nat → Int32} (RET : ∀ (q : Nat → Nat) (kc ks : Nat) (pc : Nat) (lv : List (Nat × Value)), True → decode cJ6_formatUnsignedInt_567d9 pc = .ok (.return_, 1) → vV p l e { frames := 0, cells := 0, slots := 0, locals := 0 } s m args below meth c A D 7 0 0 Q [(a0, .inl (cB, r_n1, .inl (r_g2)))] pc lv []) : ∀ (n : Nat) (x1 : Int32) (x2 : Int32) (x3 : Int32) (x4 : Int32) (n5 : Nat) (g6 : Nat → Int32), True → hf_J6_formatUnsignedInt_567d9_14 n x1 x2 x3 x4 n5 g6 = some (r_n1, r_g2) → vV p l e { frames := 0, cells := 0, slots := 0, locals := 0 } s m args below meth c A D 7 0 0 Q [(a0, .inl (cB, n5, .inl (g6)))] 14 [(0, .int x1), (1, .int x2), (2, .ref a0), (4, .int x3), (6, .int x4)] [] := by
  intro n
  induction n with
  | zero => intro x1 x2 x3 x4 n5 g6 hkc h; rw [hf_J6_formatUnsignedInt_567d9_14] at h; cases h
  | succ n ih =>
    intro x1 x2 x3 x4 n5 g6 hkc h
    rw [hf_J6_formatUnsignedInt_567d9_14] at h
    refine vi_aload_n C 2 dJ6_formatUnsignedInt_567d9_14 rfl ?_
    obtain ⟨y1, ey1, h⟩ := ob_nm h
    refine vi_iinc (v := y1) (lv' := [(4, .int y1), (0, .int x1), (1, .int x2), (2, .ref a0), (6, .int x4)]) C 3 dJ6_formatUnsignedInt_567d9_15 rfl (by rw [ey1]; rfl) (by decide) rfl ?_
    refine vi_iload C 0 dJ6_formatUnsignedInt_567d9_18 rfl ?_
    refine vi_get_digits C tfJ6_17 dJ6_formatUnsignedInt_567d9_20 ?_
    refine vi_iload_n C 1 dJ6_formatUnsignedInt_567d9_23 rfl ?_
    refine vi_iload C 4 dJ6_formatUnsignedInt_567d9_24 rfl ?_
    refine vi_iand C dJ6_formatUnsignedInt_567d9_26 ?_
    obtain ⟨hz2, h⟩ := ob_if h
    refine vi_ld_digits C hz2 dJ6_formatUnsignedInt_567d9_27 ?_
    refine vi_i2b C dJ6_formatUnsignedInt_567d9_28 ?_
    obtain ⟨hz3, h⟩ := ob_if h
    obtain ⟨g4, eg4, h⟩ := ob_nm h
    refine vi_bast (w2 := [(a0, .inl (cB, n5, .inl (g4)))]) C 0 5 rfl rfl hz3 (by rw [eg4]; rfl) dJ6_formatUnsignedInt_567d9_29 ?_
    refine vi_iload_n C 1 dJ6_formatUnsignedInt_567d9_30 rfl ?_
    refine vi_iload_n C 2 dJ6_formatUnsignedInt_567d9_31 rfl ?_
    refine vi_iushr C dJ6_formatUnsignedInt_567d9_32 ?_
    obtain ⟨y5, ey5, h⟩ := ob_nm h
    refine vi_nmi ey5 ?_
    refine vi_istore_n (lv' := [(0, .int y5), (4, .int y1), (1, .int x2), (2, .ref a0), (6, .int x4)]) C dJ6_formatUnsignedInt_567d9_33 rfl (by decide) rfl ?_
    refine vi_iload C 1 dJ6_formatUnsignedInt_567d9_34 rfl ?_
    refine vi_if_gt (tgt := 14) C dJ6_formatUnsignedInt_567d9_36 (by decide) (fun hc6 => ?_) (fun hc6 => ?_)
    · have h := ob_t h hc6
      refine vi_sub C [0, 2, 3, 1, 4] rfl ?_
      exact ih _ _ _ _ _ _ hkc h
    · have h := ob_f h hc6
      cases h
      exact RET (fun j => [].getD j 0) 0 0 _ _ hkc dJ6_formatUnsignedInt_567d9_39
def hf_J6_formatUnsignedInt_567d9 (x0 : Int32) (x1 : Int32) (x3 : Int32) (n0 : Nat) (g0 : Nat → Int32) : Option (Nat × (Nat → Int32)) := bd (((1 : Int32) <<< (x1 &&& 31) : Int32)) fun y1 => bd ((y1 - (1 : Int32) : Int32)) fun y2 => hf_J6_formatUnsignedInt_567d9_14 vF x0 x1 x3 y2 n0 g0
set_option maxRecDepth 100000 in
set_option maxHeartbeats 4000000 in
theorem hk_J6_formatUnsignedInt_567d9_e {ad adK adV : Nat → Nat} {tS tF : Nat} {tX sK sV : Nat → Nat} {p : Program} {l : Launch} {e : Env} {s : State} {m : MethodId} {args : Array Value} {below : List Frame} {meth : Method} {c : Code} {A : Nat → Prop} {D : va_G} {cI cF cC cS cO cB cZ : ClassId} {Q : State → Prop} {a0 : Nat} (C : vC (vE ad adK adV tS tF tX sK sV) p l s m args meth c A D (vT7 cI cF cC cS cO cB cZ) cJ6_formatUnsignedInt_567d9 7 RJ6) {r_n1 : Nat} {r_g2 : Nat → Int32} (RET : ∀ (q : Nat → Nat) (kc ks : Nat) (pc : Nat) (lv : List (Nat × Value)), True → decode cJ6_formatUnsignedInt_567d9 pc = .ok (.return_, 1) → vV p l e { frames := 0, cells := 0, slots := 0, locals := 0 } s m args below meth c A D 7 0 0 Q [(a0, .inl (cB, r_n1, .inl (r_g2)))] pc lv []) {x0 : Int32} {x1 : Int32} {x3 : Int32} {n0 : Nat} {g0 : Nat → Int32} (h : hf_J6_formatUnsignedInt_567d9 x0 x1 x3 n0 g0 = some (r_n1, r_g2)) : vV p l e { frames := 0, cells := 0, slots := 0, locals := 0 } s m args below meth c A D 7 0 0 Q [(a0, .inl (cB, n0, .inl (g0)))] 0 [(0, .int x0), (1, .int x1), (2, .ref a0), (3, .int x3)] [] := by
  rw [hf_J6_formatUnsignedInt_567d9] at h
  refine vi_iload_n C 3 dJ6_formatUnsignedInt_567d9_0 rfl ?_
  refine vi_istore (lv' := [(4, .int x3), (0, .int x0), (1, .int x1), (2, .ref a0), (3, .int x3)]) C dJ6_formatUnsignedInt_567d9_1 (by decide) rfl ?_
  refine vi_iconst (v := 1) C dJ6_formatUnsignedInt_567d9_3 (by decide) ?_
  refine vi_iload_n C 2 dJ6_formatUnsignedInt_567d9_4 rfl ?_
  refine vi_ishl C dJ6_formatUnsignedInt_567d9_5 ?_
  obtain ⟨y1, ey1, h⟩ := ob_nm h
  refine vi_nmi ey1 ?_
  refine vi_istore (lv' := [(5, .int y1), (4, .int x3), (0, .int x0), (1, .int x1), (2, .ref a0), (3, .int x3)]) C dJ6_formatUnsignedInt_567d9_6 (by decide) rfl ?_
  refine vi_iload C 0 dJ6_formatUnsignedInt_567d9_8 rfl ?_
  refine vi_iconst (v := 1) C dJ6_formatUnsignedInt_567d9_10 (by decide) ?_
  refine vi_isub C dJ6_formatUnsignedInt_567d9_11 ?_
  obtain ⟨y2, ey2, h⟩ := ob_nm h
  refine vi_nmi ey2 ?_
  refine vi_istore (lv' := [(6, .int y2), (5, .int y1), (4, .int x3), (0, .int x0), (1, .int x1), (2, .ref a0), (3, .int x3)]) C dJ6_formatUnsignedInt_567d9_12 (by decide) rfl ?_
  refine vi_sub C [3, 4, 5, 2, 0] rfl ?_
  exact hk_J6_formatUnsignedInt_567d9_14 C RET  vF _ _ _ _ _ _ trivial h
theorem hm_J6_formatUnsignedInt_567d9 {ad adK adV : Nat → Nat} {tS tF : Nat} {tX sK sV : Nat → Nat} (hE : vEok (vE ad adK adV tS tF tX sK sV)) {l : Launch} {D : va_G} {cI cF cC cS cO cB cZ : ClassId} {a0 : Nat} {r_n1 : Nat} {r_g2 : Nat → Int32} {x0 : Int32} {x1 : Int32} {x3 : Int32} {n0 : Nat} {g0 : Nat → Int32} (h : hf_J6_formatUnsignedInt_567d9 x0 x1 x3 n0 g0 = some (r_n1, r_g2)) : vG (vE ad adK adV tS tF tX sK sV) l yJ6_formatUnsignedInt_567d9 cJ6_formatUnsignedInt_567d9 7 none 0 0 0 0 D (vT7 cI cF cC cS cO cB cZ) [.int x0, .int x1, .ref a0, .int x3] [(a0, .inl (cB, n0, .inl (g0)))] (gQv D (fun q => [(a0, .inl (cB, r_n1, .inl (r_g2)))])) :=
  vG_ofF hE (by decide +kernel) (Nat.le_of_ble_eq_true rfl) (fun p e s m args below meth c A C hr hin => hk_J6_formatUnsignedInt_567d9_e C (fun q kc ks pc lv hk hd => g_retv (WQ := (fun q => [(a0, .inl (cB, r_n1, .inl (r_g2)))])) C hr q rfl ⟨Nat.le_refl 0, Nat.le_refl 0⟩ hd) h)
