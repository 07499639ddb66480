/-- the world of History alone -/
def wHo (qo : Nat → Nat) (qh : Nat → Nat → Nat) (cI cF cS : ClassId) (v : Nat → Int32) (hs : Nat → vH) : va_W := [(qo 0, .inr (2, [.ref (qo 1), .int (v 1), .int (v 2)])), (qo 1, .inl (cS, 8, .inr (.inr (.inr (.inr (fun j => some (qh j 0)))))))] ++ (wS (qh 0) cI cF (hs 0) ++ (wS (qh 1) cI cF (hs 1) ++ (wS (qh 2) cI cF (hs 2) ++ (wS (qh 3) cI cF (hs 3) ++ (wS (qh 4) cI cF (hs 4) ++ (wS (qh 5) cI cF (hs 5) ++ (wS (qh 6) cI cF (hs 6) ++ (wS (qh 7) cI cF (hs 7)))))))))
theorem vp_cell_qc {cA : ClassId} {n : Nat} {f g : Nat → Option Nat} (h : ∀ j, j < n → f j = g j) : vp_cell cA (n, .inr (.inr (.inr (.inr f)))) = vp_cell cA (n, .inr (.inr (.inr (.inr g)))) := by
  rw [vp_cell_q, vp_cell_q]
  have e : (fun j : Fin n => va_rf (f j.val)) = fun j : Fin n => va_rf (g j.val) := funext (fun j => by rw [h j.1 j.2])
  unfold arrV
  rw [e]
theorem vi_wq {p : Program} {l : Launch} {e : Env} {R : Room} {s : State} {m : MethodId} {args : Array Value} {below : List Frame} {meth : Method} {c : Code} {A : Nat → Prop} {D : va_G} {nL kc ks : Nat} {Q : State → Prop} {pc : Nat} {lv : List (Nat × Value)} {st : List Value} {x0 : Nat × va_E} {a : Nat} {cA : ClassId} {n : Nat} {f g : Nat → Option Nat} {w2 : va_W} (h : ∀ j, j < n → f j = g j) (k : vV p l e R s m args below meth c A D nL kc ks Q ([x0, (a, .inl (cA, n, .inr (.inr (.inr (.inr g)))))] ++ w2) pc lv st) : vV p l e R s m args below meth c A D nL kc ks Q ([x0, (a, .inl (cA, n, .inr (.inr (.inr (.inr f)))))] ++ w2) pc lv st := by
  intro H locs ls hP hD hS hl
  have hfst : ∀ (j : Nat) (q : Nat × va_E), ([x0, (a, .inl (cA, n, .inr (.inr (.inr (.inr g)))))] ++ w2)[j]? = some q → ∃ q0, ([x0, (a, .inl (cA, n, .inr (.inr (.inr (.inr f)))))] ++ w2)[j]? = some q0 ∧ q0.1 = q.1 ∧ (va_at D vwCl q0 H → va_at D vwCl q H) := by
    intro j q hq
    match j, hq with
    | 0, hq => exact ⟨q, hq, rfl, fun z => z⟩
    | 1, hq =>
      cases hq
      refine ⟨_, rfl, rfl, fun z => ?_⟩
      show H[a]? = some (vp_cell _ _)
      rw [← vp_cell_qc h]
      exact z
    | j + 2, hq => exact ⟨q, hq, rfl, fun z => z⟩
  refine k H locs ls (fun j q hq => ?_) ⟨fun i j x y hx hy hxy => ?_, fun j q hq => ?_⟩ hS hl
  · obtain ⟨q0, h1, -, h3⟩ := hfst j q hq
    exact h3 (hP j q0 h1)
  · obtain ⟨x1, h1, h2, -⟩ := hfst i x hx
    obtain ⟨y1, h3, h4, -⟩ := hfst j y hy
    exact hD.1 i j x1 y1 h1 h3 (by rw [h2, h4]; exact hxy)
  · obtain ⟨q0, h1, h2, -⟩ := hfst j q hq
    rw [← h2]
    exact hD.2 j q0 h1
set_option maxRecDepth 100000 in
set_option maxHeartbeats 8000000 in
theorem mX2_init {ad adK adV : Nat → Nat} {tS tF : Nat} {tX sK sV : Nat → Nat} {l : Launch} {D : va_G} {cI cF cC cS cO cB cZ : ClassId} {h0 : Nat} (hE : vEok (vE2 ad adK adV tS tF tX sK sV)) : vMn (vE2 ad adK adV tS tF tX sK sV) l yX2_init cX2_init 2 2 81 65 592 D (vT7 cI cF cC cS cO cB cZ) h0 (.inr (2, [.null, .int 0, .int 0])) (fun q => wHo (q 0) (fun k => q (k + 1)) cI cF cS (fun _ => 0) (fun _ => vH0)) := by
  refine vMn_of hE (by decide) rfl (by decide) (fun p e s m args below meth c A C hr hin => ?_)
  have C : vC (vE2 ad adK adV tS tF tX sK sV) p l s m args meth c A D (vT7 cI cF cC cS cO cB cZ) cX2_init 2 RX2 := C
  refine vi_aload_n C 0 dX2_init_0 rfl ?_
  refine vi_objInit C tlX2_3 ti_objinit tc_objinit dX2_init_1 (by decide) (Nat.le_of_ble_eq_true rfl) ?_
  refine vi_aload_n C 0 dX2_init_4 rfl ?_
  refine vi_bipush (v := 8) C dX2_init_5 (by decide) ?_
  refine vi_newq (cA := cS) (N := 8) C 3 tlcX2_9 C.2.2.2.2.2.2.2.2.2.2.1 rfl (by decide) rfl (by decide) (Nat.le_of_ble_eq_true rfl) (Nat.le_of_ble_eq_true rfl) dX2_init_7 (fun a0 => ?_)
  refine vi_w C (w' := [(h0, .inr (2, [.null, .int 0, .int 0])), (a0, .inl (cS, 8, .inr (.inr (.inr (.inr (fun _ => none))))))]) rfl ?_
  refine vi_putF (ref := "MoodSextant$History") (ty := tyX2 0) (w2 := [(h0, .inr (2, [.ref (a0), .int 0, .int 0])), (a0, .inl (cS, 8, .inr (.inr (.inr (.inr (fun _ => none))))))]) C 0 0 inX2w tyX2 tyX2_ok nmX2 rfl rfl (by decide) tfX2_11 rfl rfl hin rfl (tyX2_ok 0 (by decide)) rfl rfl (by show 0 < 3; decide) rfl dX2_init_10 ?_
  refine vi_iconst (v := 0) C dX2_init_13 (by decide) ?_
  refine vi_istore_n (lv' := [(1, .int (0 : Int32)), (0, .ref (h0))]) C dX2_init_14 rfl (by decide) rfl ?_
  refine vi_iload_n C 0 dX2_init_15 rfl ?_
  refine vi_bipush (v := 8) C dX2_init_16 (by decide) ?_
  refine vi_icmp_ge (tgt := 40) C dX2_init_18 (by decide) (fun hc => absurd hc (by decide)) (fun _ => ?_)
  refine vi_aload_n C 1 dX2_init_21 rfl ?_
  refine vi_get (ref := "MoodSextant$History") (v := .ref (a0)) C 0 0 inX2w rfl rfl (by decide) tfX2_11 rfl rfl dX2_init_22 ?_
  refine vi_iload_n C 0 dX2_init_25 rfl ?_
  refine vi_new (ci := 5) (fs := [.int 0, .null, .null, .null, .null, .int 0, .int 0, .int 0, .null, .null, .null, .int 0, .int 0, .int 0, .int 0]) C inX5w tyX5 tyX5_ok tlcX2_9 tinst_X5 tnX5 rfl (by decide +kernel) (Nat.le_of_ble_eq_true rfl) (Nat.le_of_ble_eq_true rfl) dX2_init_26 (fun a1 => ?_)
  refine vi_dup C dX2_init_29 rfl ?_
  refine vi_w C (w' := ([(h0, .inr (2, [.ref (a0), .int 0, .int 0])), (a0, .inl (cS, 8, .inr (.inr (.inr (.inr (fun _ => none))))))]) ++ [(a1, .inr (5, [.int 0, .null, .null, .null, .null, .int 0, .int 0, .int 0, .null, .null, .null, .int 0, .int 0, .int 0, .int 0]))]) rfl ?_
  refine vi_callN C (mX5_init C.2.2.2.2.2.2.2.2.1) tcX5_init tlX2_17 tiX5_init tnX5 rfl tdX5_init ⟨Nat.le_of_ble_eq_true rfl, Nat.le_of_ble_eq_true rfl⟩ ⟨Nat.le_of_ble_eq_true rfl, Nat.le_of_ble_eq_true rfl⟩ (Nat.le_of_ble_eq_true rfl) dX2_init_30 (fun q2 hq => ?_)
  subst hq
  refine vi_w C (w' := [(h0, .inr (2, [.ref (a0), .int 0, .int 0])), (a0, .inl (cS, 8, .inr (.inr (.inr (.inr (fun _ => none))))))] ++ (wS (q2 0) cI cF vH0)) rfl ?_
  refine vi_astq (w2 := [(h0, .inr (2, [.ref (a0), .int 0, .int 0])), (a0, .inl (cS, 8, .inr (.inr (.inr (.inr (va_up (fun _ => none) 0 (some (q2 0 0))))))))] ++ (wS (q2 0) cI cF vH0)) C 1 3 2 5 rfl rfl rfl rfl (by decide) rfl dX2_init_33 ?_
  refine vi_iinc (v := (1 : Int32)) (lv' := [(1, .int (1 : Int32)), (0, .ref (h0))]) C 0 dX2_init_34 rfl (by decide) (by decide) rfl ?_
  refine vi_goto (tgt := 15) C dX2_init_37 (by decide) ?_
  refine vi_iload_n C 0 dX2_init_15 rfl ?_
  refine vi_bipush (v := 8) C dX2_init_16 (by decide) ?_
  refine vi_icmp_ge (tgt := 40) C dX2_init_18 (by decide) (fun hc => absurd hc (by decide)) (fun _ => ?_)
  refine vi_aload_n C 1 dX2_init_21 rfl ?_
  refine vi_get (ref := "MoodSextant$History") (v := .ref (a0)) C 0 0 inX2w rfl rfl (by decide) tfX2_11 rfl rfl dX2_init_22 ?_
  refine vi_iload_n C 0 dX2_init_25 rfl ?_
  refine vi_new (ci := 5) (fs := [.int 0, .null, .null, .null, .null, .int 0, .int 0, .int 0, .null, .null, .null, .int 0, .int 0, .int 0, .int 0]) C inX5w tyX5 tyX5_ok tlcX2_9 tinst_X5 tnX5 rfl (by decide +kernel) (Nat.le_of_ble_eq_true rfl) (Nat.le_of_ble_eq_true rfl) dX2_init_26 (fun a3 => ?_)
  refine vi_dup C dX2_init_29 rfl ?_
  refine vi_w C (w' := ([(h0, .inr (2, [.ref (a0), .int 0, .int 0])), (a0, .inl (cS, 8, .inr (.inr (.inr (.inr (va_up (fun _ => none) 0 (some (q2 0 0))))))))] ++ (wS (q2 0) cI cF vH0)) ++ [(a3, .inr (5, [.int 0, .null, .null, .null, .null, .int 0, .int 0, .int 0, .null, .null, .null, .int 0, .int 0, .int 0, .int 0]))]) (by simp) ?_
  refine vi_callN C (mX5_init C.2.2.2.2.2.2.2.2.1) tcX5_init tlX2_17 tiX5_init tnX5 rfl tdX5_init ⟨Nat.le_of_ble_eq_true rfl, Nat.le_of_ble_eq_true rfl⟩ ⟨Nat.le_of_ble_eq_true rfl, Nat.le_of_ble_eq_true rfl⟩ (Nat.le_of_ble_eq_true rfl) dX2_init_30 (fun q4 hq => ?_)
  subst hq
  refine vi_w C (w' := [(h0, .inr (2, [.ref (a0), .int 0, .int 0])), (a0, .inl (cS, 8, .inr (.inr (.inr (.inr (va_up (fun _ => none) 0 (some (q2 0 0))))))))] ++ (wS (q2 0) cI cF vH0 ++ (wS (q4 0) cI cF vH0))) (by simp) ?_
  refine vi_astq (w2 := [(h0, .inr (2, [.ref (a0), .int 0, .int 0])), (a0, .inl (cS, 8, .inr (.inr (.inr (.inr (va_up (va_up (fun _ => none) 0 (some (q2 0 0))) 1 (some (q4 0 0))))))))] ++ (wS (q2 0) cI cF vH0 ++ (wS (q4 0) cI cF vH0))) C 1 3 10 5 rfl rfl rfl rfl (by decide) rfl dX2_init_33 ?_
  refine vi_iinc (v := (2 : Int32)) (lv' := [(1, .int (2 : Int32)), (0, .ref (h0))]) C 0 dX2_init_34 rfl (by decide) (by decide) rfl ?_
  refine vi_goto (tgt := 15) C dX2_init_37 (by decide) ?_
  refine vi_iload_n C 0 dX2_init_15 rfl ?_
  refine vi_bipush (v := 8) C dX2_init_16 (by decide) ?_
  refine vi_icmp_ge (tgt := 40) C dX2_init_18 (by decide) (fun hc => absurd hc (by decide)) (fun _ => ?_)
  refine vi_aload_n C 1 dX2_init_21 rfl ?_
  refine vi_get (ref := "MoodSextant$History") (v := .ref (a0)) C 0 0 inX2w rfl rfl (by decide) tfX2_11 rfl rfl dX2_init_22 ?_
  refine vi_iload_n C 0 dX2_init_25 rfl ?_
  refine vi_new (ci := 5) (fs := [.int 0, .null, .null, .null, .null, .int 0, .int 0, .int 0, .null, .null, .null, .int 0, .int 0, .int 0, .int 0]) C inX5w tyX5 tyX5_ok tlcX2_9 tinst_X5 tnX5 rfl (by decide +kernel) (Nat.le_of_ble_eq_true rfl) (Nat.le_of_ble_eq_true rfl) dX2_init_26 (fun a5 => ?_)
  refine vi_dup C dX2_init_29 rfl ?_
  refine vi_w C (w' := ([(h0, .inr (2, [.ref (a0), .int 0, .int 0])), (a0, .inl (cS, 8, .inr (.inr (.inr (.inr (va_up (va_up (fun _ => none) 0 (some (q2 0 0))) 1 (some (q4 0 0))))))))] ++ (wS (q2 0) cI cF vH0 ++ (wS (q4 0) cI cF vH0))) ++ [(a5, .inr (5, [.int 0, .null, .null, .null, .null, .int 0, .int 0, .int 0, .null, .null, .null, .int 0, .int 0, .int 0, .int 0]))]) (by simp) ?_
  refine vi_callN C (mX5_init C.2.2.2.2.2.2.2.2.1) tcX5_init tlX2_17 tiX5_init tnX5 rfl tdX5_init ⟨Nat.le_of_ble_eq_true rfl, Nat.le_of_ble_eq_true rfl⟩ ⟨Nat.le_of_ble_eq_true rfl, Nat.le_of_ble_eq_true rfl⟩ (Nat.le_of_ble_eq_true rfl) dX2_init_30 (fun q6 hq => ?_)
  subst hq
  refine vi_w C (w' := [(h0, .inr (2, [.ref (a0), .int 0, .int 0])), (a0, .inl (cS, 8, .inr (.inr (.inr (.inr (va_up (va_up (fun _ => none) 0 (some (q2 0 0))) 1 (some (q4 0 0))))))))] ++ (wS (q2 0) cI cF vH0 ++ (wS (q4 0) cI cF vH0 ++ (wS (q6 0) cI cF vH0)))) (by simp) ?_
  refine vi_astq (w2 := [(h0, .inr (2, [.ref (a0), .int 0, .int 0])), (a0, .inl (cS, 8, .inr (.inr (.inr (.inr (va_up (va_up (va_up (fun _ => none) 0 (some (q2 0 0))) 1 (some (q4 0 0))) 2 (some (q6 0 0))))))))] ++ (wS (q2 0) cI cF vH0 ++ (wS (q4 0) cI cF vH0 ++ (wS (q6 0) cI cF vH0)))) C 1 3 18 5 rfl rfl rfl rfl (by decide) rfl dX2_init_33 ?_
  refine vi_iinc (v := (3 : Int32)) (lv' := [(1, .int (3 : Int32)), (0, .ref (h0))]) C 0 dX2_init_34 rfl (by decide) (by decide) rfl ?_
  refine vi_goto (tgt := 15) C dX2_init_37 (by decide) ?_
  refine vi_iload_n C 0 dX2_init_15 rfl ?_
  refine vi_bipush (v := 8) C dX2_init_16 (by decide) ?_
  refine vi_icmp_ge (tgt := 40) C dX2_init_18 (by decide) (fun hc => absurd hc (by decide)) (fun _ => ?_)
  refine vi_aload_n C 1 dX2_init_21 rfl ?_
  refine vi_get (ref := "MoodSextant$History") (v := .ref (a0)) C 0 0 inX2w rfl rfl (by decide) tfX2_11 rfl rfl dX2_init_22 ?_
  refine vi_iload_n C 0 dX2_init_25 rfl ?_
  refine vi_new (ci := 5) (fs := [.int 0, .null, .null, .null, .null, .int 0, .int 0, .int 0, .null, .null, .null, .int 0, .int 0, .int 0, .int 0]) C inX5w tyX5 tyX5_ok tlcX2_9 tinst_X5 tnX5 rfl (by decide +kernel) (Nat.le_of_ble_eq_true rfl) (Nat.le_of_ble_eq_true rfl) dX2_init_26 (fun a7 => ?_)
  refine vi_dup C dX2_init_29 rfl ?_
  refine vi_w C (w' := ([(h0, .inr (2, [.ref (a0), .int 0, .int 0])), (a0, .inl (cS, 8, .inr (.inr (.inr (.inr (va_up (va_up (va_up (fun _ => none) 0 (some (q2 0 0))) 1 (some (q4 0 0))) 2 (some (q6 0 0))))))))] ++ (wS (q2 0) cI cF vH0 ++ (wS (q4 0) cI cF vH0 ++ (wS (q6 0) cI cF vH0)))) ++ [(a7, .inr (5, [.int 0, .null, .null, .null, .null, .int 0, .int 0, .int 0, .null, .null, .null, .int 0, .int 0, .int 0, .int 0]))]) (by simp) ?_
  refine vi_callN C (mX5_init C.2.2.2.2.2.2.2.2.1) tcX5_init tlX2_17 tiX5_init tnX5 rfl tdX5_init ⟨Nat.le_of_ble_eq_true rfl, Nat.le_of_ble_eq_true rfl⟩ ⟨Nat.le_of_ble_eq_true rfl, Nat.le_of_ble_eq_true rfl⟩ (Nat.le_of_ble_eq_true rfl) dX2_init_30 (fun q8 hq => ?_)
  subst hq
  refine vi_w C (w' := [(h0, .inr (2, [.ref (a0), .int 0, .int 0])), (a0, .inl (cS, 8, .inr (.inr (.inr (.inr (va_up (va_up (va_up (fun _ => none) 0 (some (q2 0 0))) 1 (some (q4 0 0))) 2 (some (q6 0 0))))))))] ++ (wS (q2 0) cI cF vH0 ++ (wS (q4 0) cI cF vH0 ++ (wS (q6 0) cI cF vH0 ++ (wS (q8 0) cI cF vH0))))) (by simp) ?_
  refine vi_astq (w2 := [(h0, .inr (2, [.ref (a0), .int 0, .int 0])), (a0, .inl (cS, 8, .inr (.inr (.inr (.inr (va_up (va_up (va_up (va_up (fun _ => none) 0 (some (q2 0 0))) 1 (some (q4 0 0))) 2 (some (q6 0 0))) 3 (some (q8 0 0))))))))] ++ (wS (q2 0) cI cF vH0 ++ (wS (q4 0) cI cF vH0 ++ (wS (q6 0) cI cF vH0 ++ (wS (q8 0) cI cF vH0))))) C 1 3 26 5 rfl rfl rfl rfl (by decide) rfl dX2_init_33 ?_
  refine vi_iinc (v := (4 : Int32)) (lv' := [(1, .int (4 : Int32)), (0, .ref (h0))]) C 0 dX2_init_34 rfl (by decide) (by decide) rfl ?_
  refine vi_goto (tgt := 15) C dX2_init_37 (by decide) ?_
  refine vi_iload_n C 0 dX2_init_15 rfl ?_
  refine vi_bipush (v := 8) C dX2_init_16 (by decide) ?_
  refine vi_icmp_ge (tgt := 40) C dX2_init_18 (by decide) (fun hc => absurd hc (by decide)) (fun _ => ?_)
  refine vi_aload_n C 1 dX2_init_21 rfl ?_
  refine vi_get (ref := "MoodSextant$History") (v := .ref (a0)) C 0 0 inX2w rfl rfl (by decide) tfX2_11 rfl rfl dX2_init_22 ?_
  refine vi_iload_n C 0 dX2_init_25 rfl ?_
  refine vi_new (ci := 5) (fs := [.int 0, .null, .null, .null, .null, .int 0, .int 0, .int 0, .null, .null, .null, .int 0, .int 0, .int 0, .int 0]) C inX5w tyX5 tyX5_ok tlcX2_9 tinst_X5 tnX5 rfl (by decide +kernel) (Nat.le_of_ble_eq_true rfl) (Nat.le_of_ble_eq_true rfl) dX2_init_26 (fun a9 => ?_)
  refine vi_dup C dX2_init_29 rfl ?_
  refine vi_w C (w' := ([(h0, .inr (2, [.ref (a0), .int 0, .int 0])), (a0, .inl (cS, 8, .inr (.inr (.inr (.inr (va_up (va_up (va_up (va_up (fun _ => none) 0 (some (q2 0 0))) 1 (some (q4 0 0))) 2 (some (q6 0 0))) 3 (some (q8 0 0))))))))] ++ (wS (q2 0) cI cF vH0 ++ (wS (q4 0) cI cF vH0 ++ (wS (q6 0) cI cF vH0 ++ (wS (q8 0) cI cF vH0))))) ++ [(a9, .inr (5, [.int 0, .null, .null, .null, .null, .int 0, .int 0, .int 0, .null, .null, .null, .int 0, .int 0, .int 0, .int 0]))]) (by simp) ?_
  refine vi_callN C (mX5_init C.2.2.2.2.2.2.2.2.1) tcX5_init tlX2_17 tiX5_init tnX5 rfl tdX5_init ⟨Nat.le_of_ble_eq_true rfl, Nat.le_of_ble_eq_true rfl⟩ ⟨Nat.le_of_ble_eq_true rfl, Nat.le_of_ble_eq_true rfl⟩ (Nat.le_of_ble_eq_true rfl) dX2_init_30 (fun q10 hq => ?_)
  subst hq
  refine vi_w C (w' := [(h0, .inr (2, [.ref (a0), .int 0, .int 0])), (a0, .inl (cS, 8, .inr (.inr (.inr (.inr (va_up (va_up (va_up (va_up (fun _ => none) 0 (some (q2 0 0))) 1 (some (q4 0 0))) 2 (some (q6 0 0))) 3 (some (q8 0 0))))))))] ++ (wS (q2 0) cI cF vH0 ++ (wS (q4 0) cI cF vH0 ++ (wS (q6 0) cI cF vH0 ++ (wS (q8 0) cI cF vH0 ++ (wS (q10 0) cI cF vH0)))))) (by simp) ?_
  refine vi_astq (w2 := [(h0, .inr (2, [.ref (a0), .int 0, .int 0])), (a0, .inl (cS, 8, .inr (.inr (.inr (.inr (va_up (va_up (va_up (va_up (va_up (fun _ => none) 0 (some (q2 0 0))) 1 (some (q4 0 0))) 2 (some (q6 0 0))) 3 (some (q8 0 0))) 4 (some (q10 0 0))))))))] ++ (wS (q2 0) cI cF vH0 ++ (wS (q4 0) cI cF vH0 ++ (wS (q6 0) cI cF vH0 ++ (wS (q8 0) cI cF vH0 ++ (wS (q10 0) cI cF vH0)))))) C 1 3 34 5 rfl rfl rfl rfl (by decide) rfl dX2_init_33 ?_
  refine vi_iinc (v := (5 : Int32)) (lv' := [(1, .int (5 : Int32)), (0, .ref (h0))]) C 0 dX2_init_34 rfl (by decide) (by decide) rfl ?_
  refine vi_goto (tgt := 15) C dX2_init_37 (by decide) ?_
  refine vi_iload_n C 0 dX2_init_15 rfl ?_
  refine vi_bipush (v := 8) C dX2_init_16 (by decide) ?_
  refine vi_icmp_ge (tgt := 40) C dX2_init_18 (by decide) (fun hc => absurd hc (by decide)) (fun _ => ?_)
  refine vi_aload_n C 1 dX2_init_21 rfl ?_
  refine vi_get (ref := "MoodSextant$History") (v := .ref (a0)) C 0 0 inX2w rfl rfl (by decide) tfX2_11 rfl rfl dX2_init_22 ?_
  refine vi_iload_n C 0 dX2_init_25 rfl ?_
  refine vi_new (ci := 5) (fs := [.int 0, .null, .null, .null, .null, .int 0, .int 0, .int 0, .null, .null, .null, .int 0, .int 0, .int 0, .int 0]) C inX5w tyX5 tyX5_ok tlcX2_9 tinst_X5 tnX5 rfl (by decide +kernel) (Nat.le_of_ble_eq_true rfl) (Nat.le_of_ble_eq_true rfl) dX2_init_26 (fun a11 => ?_)
  refine vi_dup C dX2_init_29 rfl ?_
  refine vi_w C (w' := ([(h0, .inr (2, [.ref (a0), .int 0, .int 0])), (a0, .inl (cS, 8, .inr (.inr (.inr (.inr (va_up (va_up (va_up (va_up (va_up (fun _ => none) 0 (some (q2 0 0))) 1 (some (q4 0 0))) 2 (some (q6 0 0))) 3 (some (q8 0 0))) 4 (some (q10 0 0))))))))] ++ (wS (q2 0) cI cF vH0 ++ (wS (q4 0) cI cF vH0 ++ (wS (q6 0) cI cF vH0 ++ (wS (q8 0) cI cF vH0 ++ (wS (q10 0) cI cF vH0)))))) ++ [(a11, .inr (5, [.int 0, .null, .null, .null, .null, .int 0, .int 0, .int 0, .null, .null, .null, .int 0, .int 0, .int 0, .int 0]))]) (by simp) ?_
  refine vi_callN C (mX5_init C.2.2.2.2.2.2.2.2.1) tcX5_init tlX2_17 tiX5_init tnX5 rfl tdX5_init ⟨Nat.le_of_ble_eq_true rfl, Nat.le_of_ble_eq_true rfl⟩ ⟨Nat.le_of_ble_eq_true rfl, Nat.le_of_ble_eq_true rfl⟩ (Nat.le_of_ble_eq_true rfl) dX2_init_30 (fun q12 hq => ?_)
  subst hq
  refine vi_w C (w' := [(h0, .inr (2, [.ref (a0), .int 0, .int 0])), (a0, .inl (cS, 8, .inr (.inr (.inr (.inr (va_up (va_up (va_up (va_up (va_up (fun _ => none) 0 (some (q2 0 0))) 1 (some (q4 0 0))) 2 (some (q6 0 0))) 3 (some (q8 0 0))) 4 (some (q10 0 0))))))))] ++ (wS (q2 0) cI cF vH0 ++ (wS (q4 0) cI cF vH0 ++ (wS (q6 0) cI cF vH0 ++ (wS (q8 0) cI cF vH0 ++ (wS (q10 0) cI cF vH0 ++ (wS (q12 0) cI cF vH0))))))) (by simp) ?_
  refine vi_astq (w2 := [(h0, .inr (2, [.ref (a0), .int 0, .int 0])), (a0, .inl (cS, 8, .inr (.inr (.inr (.inr (va_up (va_up (va_up (va_up (va_up (va_up (fun _ => none) 0 (some (q2 0 0))) 1 (some (q4 0 0))) 2 (some (q6 0 0))) 3 (some (q8 0 0))) 4 (some (q10 0 0))) 5 (some (q12 0 0))))))))] ++ (wS (q2 0) cI cF vH0 ++ (wS (q4 0) cI cF vH0 ++ (wS (q6 0) cI cF vH0 ++ (wS (q8 0) cI cF vH0 ++ (wS (q10 0) cI cF vH0 ++ (wS (q12 0) cI cF vH0))))))) C 1 3 42 5 rfl rfl rfl rfl (by decide) rfl dX2_init_33 ?_
  refine vi_iinc (v := (6 : Int32)) (lv' := [(1, .int (6 : Int32)), (0, .ref (h0))]) C 0 dX2_init_34 rfl (by decide) (by decide) rfl ?_
  refine vi_goto (tgt := 15) C dX2_init_37 (by decide) ?_
  refine vi_iload_n C 0 dX2_init_15 rfl ?_
  refine vi_bipush (v := 8) C dX2_init_16 (by decide) ?_
  refine vi_icmp_ge (tgt := 40) C dX2_init_18 (by decide) (fun hc => absurd hc (by decide)) (fun _ => ?_)
  refine vi_aload_n C 1 dX2_init_21 rfl ?_
  refine vi_get (ref := "MoodSextant$History") (v := .ref (a0)) C 0 0 inX2w rfl rfl (by decide) tfX2_11 rfl rfl dX2_init_22 ?_
  refine vi_iload_n C 0 dX2_init_25 rfl ?_
  refine vi_new (ci := 5) (fs := [.int 0, .null, .null, .null, .null, .int 0, .int 0, .int 0, .null, .null, .null, .int 0, .int 0, .int 0, .int 0]) C inX5w tyX5 tyX5_ok tlcX2_9 tinst_X5 tnX5 rfl (by decide +kernel) (Nat.le_of_ble_eq_true rfl) (Nat.le_of_ble_eq_true rfl) dX2_init_26 (fun a13 => ?_)
  refine vi_dup C dX2_init_29 rfl ?_
  refine vi_w C (w' := ([(h0, .inr (2, [.ref (a0), .int 0, .int 0])), (a0, .inl (cS, 8, .inr (.inr (.inr (.inr (va_up (va_up (va_up (va_up (va_up (va_up (fun _ => none) 0 (some (q2 0 0))) 1 (some (q4 0 0))) 2 (some (q6 0 0))) 3 (some (q8 0 0))) 4 (some (q10 0 0))) 5 (some (q12 0 0))))))))] ++ (wS (q2 0) cI cF vH0 ++ (wS (q4 0) cI cF vH0 ++ (wS (q6 0) cI cF vH0 ++ (wS (q8 0) cI cF vH0 ++ (wS (q10 0) cI cF vH0 ++ (wS (q12 0) cI cF vH0))))))) ++ [(a13, .inr (5, [.int 0, .null, .null, .null, .null, .int 0, .int 0, .int 0, .null, .null, .null, .int 0, .int 0, .int 0, .int 0]))]) (by simp) ?_
  refine vi_callN C (mX5_init C.2.2.2.2.2.2.2.2.1) tcX5_init tlX2_17 tiX5_init tnX5 rfl tdX5_init ⟨Nat.le_of_ble_eq_true rfl, Nat.le_of_ble_eq_true rfl⟩ ⟨Nat.le_of_ble_eq_true rfl, Nat.le_of_ble_eq_true rfl⟩ (Nat.le_of_ble_eq_true rfl) dX2_init_30 (fun q14 hq => ?_)
  subst hq
  refine vi_w C (w' := [(h0, .inr (2, [.ref (a0), .int 0, .int 0])), (a0, .inl (cS, 8, .inr (.inr (.inr (.inr (va_up (va_up (va_up (va_up (va_up (va_up (fun _ => none) 0 (some (q2 0 0))) 1 (some (q4 0 0))) 2 (some (q6 0 0))) 3 (some (q8 0 0))) 4 (some (q10 0 0))) 5 (some (q12 0 0))))))))] ++ (wS (q2 0) cI cF vH0 ++ (wS (q4 0) cI cF vH0 ++ (wS (q6 0) cI cF vH0 ++ (wS (q8 0) cI cF vH0 ++ (wS (q10 0) cI cF vH0 ++ (wS (q12 0) cI cF vH0 ++ (wS (q14 0) cI cF vH0)))))))) (by simp) ?_
  refine vi_astq (w2 := [(h0, .inr (2, [.ref (a0), .int 0, .int 0])), (a0, .inl (cS, 8, .inr (.inr (.inr (.inr (va_up (va_up (va_up (va_up (va_up (va_up (va_up (fun _ => none) 0 (some (q2 0 0))) 1 (some (q4 0 0))) 2 (some (q6 0 0))) 3 (some (q8 0 0))) 4 (some (q10 0 0))) 5 (some (q12 0 0))) 6 (some (q14 0 0))))))))] ++ (wS (q2 0) cI cF vH0 ++ (wS (q4 0) cI cF vH0 ++ (wS (q6 0) cI cF vH0 ++ (wS (q8 0) cI cF vH0 ++ (wS (q10 0) cI cF vH0 ++ (wS (q12 0) cI cF vH0 ++ (wS (q14 0) cI cF vH0)))))))) C 1 3 50 5 rfl rfl rfl rfl (by decide) rfl dX2_init_33 ?_
  refine vi_iinc (v := (7 : Int32)) (lv' := [(1, .int (7 : Int32)), (0, .ref (h0))]) C 0 dX2_init_34 rfl (by decide) (by decide) rfl ?_
  refine vi_goto (tgt := 15) C dX2_init_37 (by decide) ?_
  refine vi_iload_n C 0 dX2_init_15 rfl ?_
  refine vi_bipush (v := 8) C dX2_init_16 (by decide) ?_
  refine vi_icmp_ge (tgt := 40) C dX2_init_18 (by decide) (fun hc => absurd hc (by decide)) (fun _ => ?_)
  refine vi_aload_n C 1 dX2_init_21 rfl ?_
  refine vi_get (ref := "MoodSextant$History") (v := .ref (a0)) C 0 0 inX2w rfl rfl (by decide) tfX2_11 rfl rfl dX2_init_22 ?_
  refine vi_iload_n C 0 dX2_init_25 rfl ?_
  refine vi_new (ci := 5) (fs := [.int 0, .null, .null, .null, .null, .int 0, .int 0, .int 0, .null, .null, .null, .int 0, .int 0, .int 0, .int 0]) C inX5w tyX5 tyX5_ok tlcX2_9 tinst_X5 tnX5 rfl (by decide +kernel) (Nat.le_of_ble_eq_true rfl) (Nat.le_of_ble_eq_true rfl) dX2_init_26 (fun a15 => ?_)
  refine vi_dup C dX2_init_29 rfl ?_
  refine vi_w C (w' := ([(h0, .inr (2, [.ref (a0), .int 0, .int 0])), (a0, .inl (cS, 8, .inr (.inr (.inr (.inr (va_up (va_up (va_up (va_up (va_up (va_up (va_up (fun _ => none) 0 (some (q2 0 0))) 1 (some (q4 0 0))) 2 (some (q6 0 0))) 3 (some (q8 0 0))) 4 (some (q10 0 0))) 5 (some (q12 0 0))) 6 (some (q14 0 0))))))))] ++ (wS (q2 0) cI cF vH0 ++ (wS (q4 0) cI cF vH0 ++ (wS (q6 0) cI cF vH0 ++ (wS (q8 0) cI cF vH0 ++ (wS (q10 0) cI cF vH0 ++ (wS (q12 0) cI cF vH0 ++ (wS (q14 0) cI cF vH0)))))))) ++ [(a15, .inr (5, [.int 0, .null, .null, .null, .null, .int 0, .int 0, .int 0, .null, .null, .null, .int 0, .int 0, .int 0, .int 0]))]) (by simp) ?_
  refine vi_callN C (mX5_init C.2.2.2.2.2.2.2.2.1) tcX5_init tlX2_17 tiX5_init tnX5 rfl tdX5_init ⟨Nat.le_of_ble_eq_true rfl, Nat.le_of_ble_eq_true rfl⟩ ⟨Nat.le_of_ble_eq_true rfl, Nat.le_of_ble_eq_true rfl⟩ (Nat.le_of_ble_eq_true rfl) dX2_init_30 (fun q16 hq => ?_)
  subst hq
  refine vi_w C (w' := [(h0, .inr (2, [.ref (a0), .int 0, .int 0])), (a0, .inl (cS, 8, .inr (.inr (.inr (.inr (va_up (va_up (va_up (va_up (va_up (va_up (va_up (fun _ => none) 0 (some (q2 0 0))) 1 (some (q4 0 0))) 2 (some (q6 0 0))) 3 (some (q8 0 0))) 4 (some (q10 0 0))) 5 (some (q12 0 0))) 6 (some (q14 0 0))))))))] ++ (wS (q2 0) cI cF vH0 ++ (wS (q4 0) cI cF vH0 ++ (wS (q6 0) cI cF vH0 ++ (wS (q8 0) cI cF vH0 ++ (wS (q10 0) cI cF vH0 ++ (wS (q12 0) cI cF vH0 ++ (wS (q14 0) cI cF vH0 ++ (wS (q16 0) cI cF vH0))))))))) (by simp) ?_
  refine vi_astq (w2 := [(h0, .inr (2, [.ref (a0), .int 0, .int 0])), (a0, .inl (cS, 8, .inr (.inr (.inr (.inr (va_up (va_up (va_up (va_up (va_up (va_up (va_up (va_up (fun _ => none) 0 (some (q2 0 0))) 1 (some (q4 0 0))) 2 (some (q6 0 0))) 3 (some (q8 0 0))) 4 (some (q10 0 0))) 5 (some (q12 0 0))) 6 (some (q14 0 0))) 7 (some (q16 0 0))))))))] ++ (wS (q2 0) cI cF vH0 ++ (wS (q4 0) cI cF vH0 ++ (wS (q6 0) cI cF vH0 ++ (wS (q8 0) cI cF vH0 ++ (wS (q10 0) cI cF vH0 ++ (wS (q12 0) cI cF vH0 ++ (wS (q14 0) cI cF vH0 ++ (wS (q16 0) cI cF vH0))))))))) C 1 3 58 5 rfl rfl rfl rfl (by decide) rfl dX2_init_33 ?_
  refine vi_iinc (v := (8 : Int32)) (lv' := [(1, .int (8 : Int32)), (0, .ref (h0))]) C 0 dX2_init_34 rfl (by decide) (by decide) rfl ?_
  refine vi_goto (tgt := 15) C dX2_init_37 (by decide) ?_
  refine vi_iload_n C 0 dX2_init_15 rfl ?_
  refine vi_bipush (v := 8) C dX2_init_16 (by decide) ?_
  refine vi_icmp_ge (tgt := 40) C dX2_init_18 (by decide) (fun _ => ?_) (fun hc => absurd (by decide) hc)
  refine vi_wq (g := fun j => some ((fun (k : Nat) => (fun (b j : Nat) => ([fun j => [h0, a0].getD j 0, q2 0, q4 0, q6 0, q8 0, q10 0, q12 0, q14 0, q16 0] : List (Nat → Nat)).getD b (fun _ => 0) j) (k + 1)) j 0)) (fun j hj => ?_) ?_
  · match j, hj with
    | 0, _ => rfl
    | 1, _ => rfl
    | 2, _ => rfl
    | 3, _ => rfl
    | 4, _ => rfl
    | 5, _ => rfl
    | 6, _ => rfl
    | 7, _ => rfl
    | j + 8, hj => omega
  exact vi_retn C hr (fun (b j : Nat) => ([fun j => [h0, a0].getD j 0, q2 0, q4 0, q6 0, q8 0, q10 0, q12 0, q14 0, q16 0] : List (Nat → Nat)).getD b (fun _ => 0) j) rfl rfl rfl rfl dX2_init_40
