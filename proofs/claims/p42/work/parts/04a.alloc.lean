section VAL
variable {E : (Nat → Prop) → State → Heap → Prop} {p : Program} {l : Launch} {e : Env} {R : Room} {s : State} {m : MethodId} {args : Array Value} {below : List Frame} {meth : Method} {c : Code} {A : Nat → Prop} {D : va_G} {tys : List (ClassId × FieldType)} {cc : ByteArray} {nL : Nat} {own : String} {kc ks : Nat} {Q : State → Prop} {w w1 : va_W} {pc : Nat} {lv lv' : List (Nat × Value)} {st : List Value}
theorem va_RA_inj {U : State} {a b : ClassId} {ty : FieldType} (h1 : va_RA U a ty) (h2 : va_RA U b ty) : a = b := by
  cases ty with
  | object Cn =>
    obtain ⟨_, _, _, _, _, e1⟩ := h1
    obtain ⟨_, _, _, _, _, e2⟩ := h2
    exact Option.some.inj (e1.symm.trans e2)
  | _ => exact Option.some.inj (Eq.trans (Eq.symm h1) h2)
theorem vi_newa (C : vC E p l s m args meth c A D tys cc nL own) {atype : ArrayType} {ty : FieldType} {cA : ClassId} {n : Int32} {N : Nat} {a0 : vp_A} (t0 : Nat) (harr : Cond.arrayClass (newarray.typeOf atype) ∈ wsL_law) (hty : newarray.typeOf atype = ty) (ht : tys[t0]? = some (cA, ty)) (ha : ∀ cA : ClassId, vp_cell cA a0 = arrV cA N (fun _ => defaultValue ty)) (hn : ¬ n < 0) (hN : n.toNatClampNeg = N) (hbytes : N * componentBytes ty ≤ 536870912) (hc1 : kc + 1 ≤ R.cells) (hs1 : ks + N ≤ R.slots) (hd : decode cc pc = .ok (.newarray atype, 2)) (k : ∀ q : Nat, vV p l e R s m args below meth c A D nL (kc + 1) (ks + N) Q (w ++ [(q, .inl (cA, a0))]) (pc + 2) lv (.ref q :: st)) : vV p l e R s m args below meth c A D nL kc ks Q w pc lv (.int n :: st) := fun H locs ls hP hD hS hl => va_newa C.1 C.2.1 (C.2.2.2.2.1 _ harr) hty C.2.2.2.2.2.1 hP hD hS C.2.2.2.2.2.2.1 ha hn hN hbytes hc1 hs1 hd (fun q cB H1 hK1 hP1 hD1 hS1 => by
  have h2 := (hK1.2 tys.length (cB, ty) (by rw [List.getElem?_append_right (Nat.le_refl _)]; simp)).2
  have e : cB = cA := va_RA_inj h2 (C.2.2.2.2.2.1.2 t0 _ ht).2
  subst e
  exact k q H1 locs ls hP1 hD1 hS1 hl)
theorem vi_newq (C : vC E p l s m args meth c A D tys cc nL own) {Cn : String} {idx : Nat} {cA : ClassId} {n : Int32} {N : Nat} (t0 : Nat) (hcl : Cond.classLink own idx Cn ∈ wsL_law) (hov : va_AO Cn s) (ht : tys[t0]? = some (cA, .object Cn)) (hn : ¬ n < 0) (hN : n.toNatClampNeg = N) (hbytes : N * 4 ≤ 536870912) (hc1 : kc + 1 ≤ R.cells) (hs1 : ks + N ≤ R.slots) (hd : decode cc pc = .ok (.anewarray idx, 3)) (k : ∀ q : Nat, vV p l e R s m args below meth c A D nL (kc + 1) (ks + N) Q (w ++ [(q, .inl (cA, N, .inr (.inr (.inr (.inr (fun _ => none))))))]) (pc + 3) lv (.ref q :: st)) : vV p l e R s m args below meth c A D nL kc ks Q w pc lv (.int n :: st) := fun H locs ls hP hD hS hl => va_newq C.1 C.2.1 C.2.2.2.1 (C.2.2.2.2.1 _ hcl) hov C.2.2.2.2.2.1 hP hD hS C.2.2.2.2.2.2.1 hn hN hbytes hc1 hs1 hd (fun q cB H1 hK1 hP1 hD1 hS1 => by
  have h2 := (hK1.2 tys.length (cB, .object Cn) (by rw [List.getElem?_append_right (Nat.le_refl _)]; simp)).2
  have e : cB = cA := va_RA_inj h2 (C.2.2.2.2.2.1.2 t0 _ ht).2
  subst e
  exact k q H1 locs ls hP1 hD1 hS1 hl)
theorem vi_new (C : vC E p l s m args meth c A D tys cc nL own) {Cn : String} {T : u_T} {N ci idx : Nat} {fs : List Value} (hin : ∀ z ∈ u_ws Cn T N, z ∈ wsL_law) (ty : Nat → FieldType) (hty : ∀ k, k < N → parseFieldDescriptor (T k).2.2.1 = some (ty k)) (hcl : Cond.classLink own idx Cn ∈ wsL_law) (hinst : Cond.instantiable Cn N ∈ wsL_law) (hini : Cond.initialized Cn ∈ wsL_law) (hc : vwCl[ci]? = some (Cn, T, N)) (hfs : ∀ j, j < N → defaultValue (ty j) = vp_V fs j) (hc1 : kc + 1 ≤ R.cells) (hs1 : ks + N ≤ R.slots) (hd : decode cc pc = .ok (.new idx, 3)) (k : ∀ q : Nat, vV p l e R s m args below meth c A D nL (kc + 1) (ks + N) Q (w ++ [(q, .inr (ci, fs))]) (pc + 3) lv (.ref q :: st)) : vV p l e R s m args below meth c A D nL kc ks Q w pc lv st := fun H locs ls hP hD hS hl => va_new C.1 C.2.1 C.2.2.2.2.1 hin ty hty C.2.2.2.1 (C.2.2.2.2.1 _ hcl) (C.2.2.2.2.1 _ hinst) (C.2.2.2.2.1 _ hini) C.2.2.2.2.2.1 hP hD hS C.2.2.2.2.2.2.1 hc hfs hc1 hs1 hd (fun q H1 hP1 hD1 hS1 => k q H1 locs ls hP1 hD1 hS1 hl)
theorem vi_putF (C : vC E p l s m args meth c A D tys cc nL own) {a : Nat} {ref Cn : String} {T : u_T} {N ci idx : Nat} {fs : List Value} {v : Value} {ty : FieldType} {w2 : va_W} (q0 f : Nat) (hin : ∀ z ∈ u_ws Cn T N, z ∈ wsL_law) (ty0 : Nat → FieldType) (hty : ∀ k, k < N → parseFieldDescriptor (T k).2.2.1 = some (ty0 k)) (hnm : ∀ a, a < N → ∀ b, b < N → a ≠ b → (T a).2.1 ≠ (T b).2.1) (he : w[q0]? = some (a, .inr (ci, fs))) (hc : vwCl[ci]? = some (Cn, T, N)) (hf : f < N) (hm : Cond.fieldLink own idx ref (T f).2.1 (T f).2.2.1 ∈ wsL_law) (hr : (T f).1 = ref) (hfin : (T f).2.2.2 = true) (hin2 : meth.name = "<init>") (hdecl : (T f).1 = own) (hdd : parseFieldDescriptor (T f).2.2.1 = some ty) (hn : narrow ty v = v) (hfit : fits ty v = true) (hl0 : f < fs.length) (hw : w.set q0 (a, .inr (ci, fs.set f v)) = w2) (hd : decode cc pc = .ok (.putfield idx, 3)) (k : vV p l e R s m args below meth c A D nL kc ks Q w2 (pc + 3) lv st) : vV p l e R s m args below meth c A D nL kc ks Q w pc lv (v :: .ref a :: st) := fun H locs ls hP hD hS hl => va_putF C.1 C.2.1 C.2.2.2.2.1 hin ty0 hty hnm C.2.2.2.1 C.2.2.2.2.2.1 hP hD hS q0 he hc f hf (C.2.2.2.2.1 _ hm) (fun z h => by rw [← hr]; exact h) hfin hin2 hdecl hdd hn hfit hl0 hd (fun H1 locs1 hP1 hD1 hS1 => k H1 locs1 ls (by rw [← hw]; exact hP1) (by rw [← hw]; exact hD1) hS1 hl)
theorem vi_objInit (C : vC E p l s m args meth c A D tys cc nL own) {a idx : Nat} (hl1 : Cond.methodLink own idx Lib.objectInit ∈ wsL_law) (hi1 : Cond.instanceMethod Lib.objectInit ∈ wsL_law) (hc1 : Cond.code Lib.objectInit ⟨#[0xb1]⟩ 1 none ∈ wsL_law) (hd : decode cc pc = .ok (.invokespecial idx, 3)) (hfr : 1 ≤ R.frames) (hlo : 2 * (F0 m pc #[] []).monitorRoom + (st.map fun v => v.category).sum + 12 ≤ R.locals) (k : vV p l e R s m args below meth c A D nL kc ks Q w (pc + 3) lv st) : vV p l e R s m args below meth c A D nL kc ks Q w pc lv (.ref a :: st) := fun H locs ls hP hD hS hl => W.objInit C.1 C.2.1 C.2.2.2.1 (C.2.2.2.2.1 _ hl1) (C.2.2.2.2.1 _ hi1) (C.2.2.2.2.1 _ hc1) rfl (hl.1.trans C.2.2.1.symm) rfl hd hfr hlo (k H locs ls hP hD hS hl)
theorem vi_astq (C : vC E p l s m args meth c A D tys cc nL own) {a v n : Nat} {cA : ClassId} {r : vw_C} {vs : List Value} {f : Nat → Option Nat} {i : Int32} {w2 : va_W} (q0 t0 qk ci : Nat) (ha : w[q0]? = some (a, .inl (cA, n, .inr (.inr (.inr (.inr f)))))) (ht : tys[t0]? = some (cA, .object r.1)) (hv : w[qk]? = some (v, .inr (ci, vs))) (hc : vwCl[ci]? = some r) (hin : ¬ (i < 0 ∨ n ≤ i.toNatClampNeg)) (hw : w.set q0 (a, .inl (cA, n, .inr (.inr (.inr (.inr (va_up f i.toNatClampNeg (some v))))))) = w2) (hd : decode cc pc = .ok (.aastore, 1)) (k : vV p l e R s m args below meth c A D nL kc ks Q w2 (pc + 1) lv st) : vV p l e R s m args below meth c A D nL kc ks Q w pc lv (.ref v :: .int i :: .ref a :: st) := fun H locs ls hP hD hS hl => va_astq C.1 C.2.1 C.2.2.2.2.2.1 hP hD hS q0 t0 qk ci ha ht hv hc hin hd (fun H1 locs1 hP1 hD1 hS1 => k H1 locs1 ls (by rw [← hw]; exact hP1) (by rw [← hw]; exact hD1) hS1 hl)
theorem vi_iastn (C : vC E p l s m args meth c A D tys cc nL own) {a : Nat} {cA : ClassId} {n : Nat} {f : Nat → Int32} {i : Int32} {x : Int32} {w2 : va_W} (q0 t0 j : Nat) (hj : i.toNatClampNeg = j) (hj2 : ¬ i < 0) (hj3 : j < n) (ha : w[q0]? = some (a, .inl (cA, n, .inl f))) (ht : tys[t0]? = some (cA, .int)) (hw : w.set q0 (a, .inl (cA, n, .inl (upd f j x))) = w2) (hd : decode cc pc = .ok (.iastore, 1)) (k : vV p l e R s m args below meth c A D nL kc ks Q w2 (pc + 1) lv st) : vV p l e R s m args below meth c A D nL kc ks Q w pc lv (.int x :: .int i :: .ref a :: st) := by
  subst hj
  have hin : ¬ (i < 0 ∨ n ≤ i.toNatClampNeg) := by
    intro h
    rcases h with h | h
    · exact hj2 h
    · omega
  exact vi_iast C q0 t0 ha ht hin hw hd k
/-- an array as far as it has been written from a row -/
def vTab (L : List Int32) (k : Nat) : Nat → Int32 := fun i => if i < k then L.getD i 0 else 0
theorem vTab0 (L : List Int32) : vTab L 0 = fun _ => 0 := funext fun i => by simp [vTab]
theorem vTabz (L : List Int32) (k : Nat) (h : ∀ i, i < k → L.getD i 0 = 0) : vTab L k = fun _ => 0 := funext fun i => by
  unfold vTab
  by_cases e : i < k
  · rw [if_pos e, h i e]
  · rw [if_neg e]
theorem vTab_succ {L : List Int32} {k : Nat} {x : Int32} (h : L[k]? = some x) : upd (vTab L k) k x = vTab L (k + 1) := by
  funext i
  unfold upd vTab
  by_cases e : i = k
  · subst e
    simp [List.getD, h]
  · by_cases e2 : i < k
    · rw [if_neg e, if_pos e2, if_pos (by omega)]
    · rw [if_neg e, if_neg e2, if_neg (by omega)]
theorem vi_iastT (C : vC E p l s m args meth c A D tys cc nL own) {a : Nat} {cA : ClassId} {n : Nat} {i : Int32} {x : Int32} {L : List Int32} {w2 : va_W} (q0 t0 j : Nat) (hj : i.toNatClampNeg = j) (hj2 : ¬ i < 0) (hj3 : j < n) (hx : L[j]? = some x) (ha : w[q0]? = some (a, .inl (cA, n, .inl (vTab L j)))) (ht : tys[t0]? = some (cA, .int)) (hw : w.set q0 (a, .inl (cA, n, .inl (vTab L (j + 1)))) = w2) (hd : decode cc pc = .ok (.iastore, 1)) (k : vV p l e R s m args below meth c A D nL kc ks Q w2 (pc + 1) lv st) : vV p l e R s m args below meth c A D nL kc ks Q w pc lv (.int x :: .int i :: .ref a :: st) := vi_iastn C q0 t0 j hj hj2 hj3 ha ht (by rw [vTab_succ hx]; exact hw) hd k
theorem vi_widen {k1 k2 : Nat} (h1 : kc ≤ k1) (h2 : ks ≤ k2) (k : vV p l e R s m args below meth c A D nL k1 k2 Q w pc lv st) : vV p l e R s m args below meth c A D nL kc ks Q w pc lv st := fun H locs ls hP hD hS hl => W.widen h1 h2 (k H locs ls hP hD hS hl)
/-- a constructor: the object that it is given, blank, becomes the world WQ q, at addresses q of its own, the object's first -/
def vMn (E : (Nat → Prop) → State → Heap → Prop) (l : Launch) (y : MethodName) (cd : ByteArray) (mL fr lo mc ms : Nat) (D : va_G) (tys : List (ClassId × FieldType)) (h0 : Nat) (e0 : va_E) (WQ : (Nat → Nat → Nat) → va_W) : Prop :=
  ∀ sz : Nat, Met l y (Cond.code y cd mL none :: wsL_law) ({ frames := fr, cells := mc, slots := ms, locals := lo }) (va_Pc [.ref h0] (fun U => U.heap.size = sz ∧ va_P D vwCl [(h0, e0)] U.heap ∧ va_K D vwCl tys U ∧ va_D (fun _ => True) [(h0, e0)] ∧ E (va_A [(h0, e0)] sz) U U.heap)) (va_Qv (fun q : Nat → Nat → Nat => q 0 0 = h0) (fun q t => va_P D vwCl (WQ q) t.heap ∧ va_D (va_A [(h0, e0)] sz) (WQ q)) (va_A [(h0, e0)] sz)) mc ms (va_A [(h0, e0)] sz)
theorem vMn_of {E : (Nat → Prop) → State → Heap → Prop} {l : Launch} {y : MethodName} {cd : ByteArray} {mL fr lo mc ms : Nat} {D : va_G} {tys : List (ClassId × FieldType)} {h0 : Nat} {e0 : va_E} {WQ : (Nat → Nat → Nat) → va_W} (hE : vEok E) (hy : plainName y.cls = true) (hyn : y.name = "<init>") (hlen : 1 ≤ mL)
    (body : ∀ (p : Program) (e : Env) (s : State) (m : MethodId) (args : Array Value) (below : List Frame) (meth : Method) (c : Code) (A : Nat → Prop), vC E p l s m args meth c A D tys cd mL y.cls → meth.sig.returnType = none → meth.name = "<init>" → vV p l e { frames := fr, cells := mc, slots := ms, locals := lo } s m args below meth c A D mL 0 0 (MQ below (va_Qv (fun q : Nat → Nat → Nat => q 0 0 = h0) (fun q t => va_P D vwCl (WQ q) t.heap ∧ va_D A (WQ q)) A) args s mc ms A) [(h0, e0)] 0 [(0, .ref h0)] []) : vMn E l y cd mL fr lo mc ms D tys h0 e0 WQ := by
  intro sz
  refine Met.ofW (cc := cd) (maxL := mL) (ret := none) hy rfl ?_
  intro p e s m args below meth c s₁ B hml hv
  obtain ⟨rfl, hsz, hP, hK, hD0, hE0⟩ := hv
  have hown : s.vm.findClass y.cls = some m.cls := findClass_of_methodNamed B.named
  have hin : meth.name = "<init>" := (name_of_methodNamed B.named B.method).1.trans hyn
  subst hsz
  have hts := atoms_spec (ws := Cond.code y cd mL none :: wsL_law) B.pre
  have hl := lv_entry [.ref h0] (n := mL) hlen
  rw [lg_entry_eq]
  exact body p e s m _ below meth c (va_A [(h0, e0)] s.heap.size) ⟨B.exec, B.bytes, hml, hown, fun w h => hts w (List.mem_cons_of_mem _ h), hK, fun q h => Or.inr h, B.notSynchronized, hE, hE0⟩ B.returns hin s.heap [] _ hP hD0.self va_S.rf hl
theorem vi_retn (C : vC E p l s m args meth c A D tys cc nL own) {mc ms h0 : Nat} {WQ : (Nat → Nat → Nat) → va_W} (hr : meth.sig.returnType = none) (q : Nat → Nat → Nat) (hq : q 0 0 = h0) (hw : w = WQ q) (hk1 : kc = mc) (hk2 : ks = ms) (hd : decode cc pc = .ok (.return_, 1)) : vV p l e R s m args below meth c A D nL kc ks (MQ below (va_Qv (fun q : Nat → Nat → Nat => q 0 0 = h0) (fun q t => va_P D vwCl (WQ q) t.heap ∧ va_D A (WQ q)) A) args s mc ms A) w pc lv [] := by
  subst hk1; subst hk2; subst hw
  exact fun H locs ls hP hD hS hl => W.vret C.1 C.2.1 hr (fun t ht hW => ⟨⟨q, rfl, hq, by show va_P D vwCl (WQ q) t.heap; rw [ht]; exact hP, hD⟩, hS.F ht⟩) hS.2.2 hd C.2.2.2.2.2.2.2.1
theorem vjn {A : Nat → Prop} {D : va_G} {cl : List vw_C} {w1 wc wn : va_W} {H H1 : Heap} (hP : va_P D cl (w1 ++ wc) H) (hD : va_D A (w1 ++ wc)) (hk : ∀ q : Nat, q < H.size → ¬ va_A wc H.size q → H1[q]? = H[q]?) (hF : ∀ q, va_A wc H.size q → A q) (hP1 : va_P D cl wn H1) (hD1 : va_D (va_A wc H.size) wn) : va_P D cl (w1 ++ wn) H1 ∧ va_D A (w1 ++ wn) := by
  have at1 : ∀ (k : Nat) (q : Nat × va_E), w1[k]? = some q → (w1 ++ wc)[k]? = some q := fun k q h => by
    rw [List.getElem?_append_left (List.getElem?_eq_some_iff.mp h).1]; exact h
  have hP0 : va_P D cl w1 H := fun k q h => hP k q (at1 k q h)
  have apart : ∀ (k : Nat) (q : Nat × va_E), w1[k]? = some q → q.1 < H.size ∧ ¬ va_A wc H.size q.1 := by
    intro k q h
    have hlt := (hP0 k q h).lt
    refine ⟨hlt, ?_⟩
    rintro (⟨j, e, hj⟩ | hh)
    · have hkl : k < w1.length := (List.getElem?_eq_some_iff.mp h).1
      have h2 : (w1 ++ wc)[w1.length + j]? = some (q.1, e) := by
        rw [List.getElem?_append_right (by omega), show w1.length + j - w1.length = j by omega]; exact hj
      have := hD.1 _ _ _ _ (at1 k q h) h2 rfl
      omega
    · omega
  have hD0 : va_D A w1 := ⟨fun i j x y hx hy hxy => hD.1 i j x y (at1 i x hx) (at1 j y hy) hxy, fun k q h => hD.2 k q (at1 k q h)⟩
  exact ⟨va_P.app (hP0.kept (fun k q h => hk q.1 (apart k q h).1 (apart k q h).2)) hP1, va_D.app hD0 (hD1.weaken (fun k q _ h => hF q.1 h)) (fun i j x y hx hy hxy => (apart i x hx).2 (by rw [hxy]; exact hD1.2 j y hy))⟩
theorem vi_callN (C : vC E p l s m args meth c A D tys cc nL own) {y : MethodName} {cd : ByteArray} {mL fr lo mc ms b idx : Nat} {e0 : va_E} {WQ : (Nat → Nat → Nat) → va_W} (hM : vMn E l y cd mL fr lo mc ms D tys b e0 WQ) (hcode : Cond.code y cd mL none ∈ wsL_law) (hlink : Cond.methodLink own idx y ∈ wsL_law) (hinst : Cond.instanceMethod y ∈ wsL_law) (hini : Cond.initialized y.cls ∈ wsL_law) (hyn : y.name = "<init>") (hd : y.cls ≠ "java/lang/invoke/MethodHandle" ∧ y.cls ≠ "java/lang/invoke/VarHandle" ∧ (parseMethodDescriptor y.desc).map (fun d => d.parameters.length) = some 0) (hR : fr + 1 ≤ R.frames ∧ 8 + (mL + 11) + lo ≤ R.locals) (hks : kc + mc ≤ R.cells ∧ ks + ms ≤ R.slots) (hcat : (st.map fun v => v.category).sum ≤ 8) (hdg : decode cc pc = .ok (.invokespecial idx, 3)) (k : ∀ q : Nat → Nat → Nat, q 0 0 = b → vV p l e R s m args below meth c A D nL (kc + mc) (ks + ms) Q (w1 ++ WQ q) (pc + 3) lv st) : vV p l e R s m args below meth c A D nL kc ks Q (w1 ++ [(b, e0)]) pc lv (.ref b :: st) := by
  intro H locs ls hP hD hS hl
  obtain ⟨hkept, hnar, hmov, hsam⟩ := C.2.2.2.2.2.2.2.2.1
  have hE0 := C.2.2.2.2.2.2.2.2.2
  have hw : w1 ++ [(b, e0)] = w1 ++ ([(b, e0)] ++ []) := by simp
  have hF := vfree hw hD hS C.2.2.2.2.2.2.1
  refine va_callv (va_runI (As := []) (rest := st) ⟨C.1, C.2.1, C.2.2.1, C.2.2.2.1, C.2.2.2.2.1⟩ (hM H.size) ⟨callB_of 0 C.2.2.2.2.1 (vT_in hcode) rfl rfl rfl (C.2.2.2.2.1 _ hini) (C.2.2.2.2.1 _ hlink) hd hR, hyn, C.2.2.2.2.1 _ hinst⟩ ⟨fun a U g mk q => ?_, fun U hU hW => ?_⟩ rfl rfl hl.1 rfl (lv_room hcat) hdg hks) hS (fun q _ h => hF q h) hF (fun q t H1 locs1 ht hvm hr hB hz hk hS1 => ?_)
  · obtain ⟨q0, q1, qP, qK, qD, qE⟩ := q
    exact ⟨q0, q1, qP, va_K.moved (u := U) (U := U.calling g mk a) (Vm.Alike.refl U.vm) qK, qD, hsam _ U (U.calling g mk a) _ rfl qE⟩
  · refine ⟨rfl, by rw [hU], by rw [hU]; exact vsubP hw hP, va_K.moved hW.alike C.2.2.2.2.2.1, vsubD hw hD, ?_⟩
    rw [hU]
    exact hmov _ s U _ hW (hnar _ _ _ _ (hkept _ _ _ _ hE0 hS.2.1) hF)
  · obtain ⟨hB1, hB2⟩ := hB
    rw [ht] at hB1
    obtain ⟨hP1, hD1⟩ := vjn hP hD hk hF hB1 hB2
    exact k q hr H1 locs1 ls hP1 hD1 hS1 hl
theorem vi_callNN (C : vC E p l s m args meth c A D tys cc nL own) {y : MethodName} {cd : ByteArray} {mL fr lo mc ms b idx : Nat} {e0 : va_E} {WQ : (Nat → Nat → Nat) → va_W} {host : String} (hM : vMn E l y cd mL fr lo mc ms D tys b e0 WQ) (hcode : Cond.code y cd mL none ∈ wsL_law) (hlink : va_Nw (.methodLinkNest own idx y host) s) (hinst : Cond.instanceMethod y ∈ wsL_law) (hini : Cond.initialized y.cls ∈ wsL_law) (hyn : y.name = "<init>") (hd : y.cls ≠ "java/lang/invoke/MethodHandle" ∧ y.cls ≠ "java/lang/invoke/VarHandle" ∧ (parseMethodDescriptor y.desc).map (fun d => d.parameters.length) = some 0) (hR : fr + 1 ≤ R.frames ∧ 8 + (mL + 11) + lo ≤ R.locals) (hks : kc + mc ≤ R.cells ∧ ks + ms ≤ R.slots) (hcat : (st.map fun v => v.category).sum ≤ 8) (hdg : decode cc pc = .ok (.invokespecial idx, 3)) (k : ∀ q : Nat → Nat → Nat, q 0 0 = b → vV p l e R s m args below meth c A D nL (kc + mc) (ks + ms) Q (w1 ++ WQ q) (pc + 3) lv st) : vV p l e R s m args below meth c A D nL kc ks Q (w1 ++ [(b, e0)]) pc lv (.ref b :: st) := by
  intro H locs ls hP hD hS hl
  obtain ⟨hkept, hnar, hmov, hsam⟩ := C.2.2.2.2.2.2.2.2.1
  have hE0 := C.2.2.2.2.2.2.2.2.2
  have hw : w1 ++ [(b, e0)] = w1 ++ ([(b, e0)] ++ []) := by simp
  have hF := vfree hw hD hS C.2.2.2.2.2.2.1
  refine va_callv (va_runIN (As := []) (rest := st) ⟨C.1, C.2.1, C.2.2.1, C.2.2.2.1, C.2.2.2.2.1⟩ (hM H.size) ⟨va_cnB 0 C.2.2.2.2.1 (vT_in hcode) rfl rfl rfl hlink (C.2.2.2.2.1 _ hini) hd hR, hyn, C.2.2.2.2.1 _ hinst⟩ ⟨fun a U g mk q => ?_, fun U hU hW => ?_⟩ rfl rfl hl.1 rfl (lv_room hcat) hdg hks) hS (fun q _ h => hF q h) hF (fun q t H1 locs1 ht hvm hr hB hz hk hS1 => ?_)
  · obtain ⟨q0, q1, qP, qK, qD, qE⟩ := q
    exact ⟨q0, q1, qP, va_K.moved (u := U) (U := U.calling g mk a) (Vm.Alike.refl U.vm) qK, qD, hsam _ U (U.calling g mk a) _ rfl qE⟩
  · refine ⟨rfl, by rw [hU], by rw [hU]; exact vsubP hw hP, va_K.moved hW.alike C.2.2.2.2.2.1, vsubD hw hD, ?_⟩
    rw [hU]
    exact hmov _ s U _ hW (hnar _ _ _ _ (hkept _ _ _ _ hE0 hS.2.1) hF)
  · obtain ⟨hB1, hB2⟩ := hB
    rw [ht] at hB1
    obtain ⟨hP1, hD1⟩ := vjn hP hD hk hF hB1 hB2
    exact k q hr H1 locs1 ls hP1 hD1 hS1 hl
end VAL
